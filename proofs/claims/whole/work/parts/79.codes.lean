/-! words and their numbers -/
section
def cd (f : Nat → Nat) : Nat → Nat
  | 0 => 0
  | n + 1 => cd f n * 32 + f n
theorem cd_lt {f : Nat → Nat} : ∀ n, (∀ i, i < n → f i < 32) → cd f n < 32 ^ n := by
  intro n
  induction n with
  | zero => intro _; exact Nat.one_pos
  | succ n ih =>
    intro h
    have h1 := ih (fun i hi => h i (by omega))
    have h2 := h n (by omega)
    rw [cd, Nat.pow_succ]
    omega
theorem cd_inj {f g : Nat → Nat} : ∀ n m, (∀ i, i < n → 1 ≤ f i ∧ f i < 32) → (∀ i, i < m → 1 ≤ g i ∧ g i < 32) → cd f n = cd g m → n = m ∧ ∀ i, i < n → f i = g i := by
  intro n
  induction n with
  | zero =>
    intro m _ hg h
    cases m with
    | zero => exact ⟨rfl, fun i hi => by omega⟩
    | succ m => have := hg m (by omega); rw [cd, cd] at h; omega
  | succ n ih =>
    intro m hf hg h
    cases m with
    | zero => have := hf n (by omega); rw [cd, cd] at h; omega
    | succ m =>
      have h1 := hf n (by omega)
      have h2 := hg m (by omega)
      rw [cd, cd] at h
      obtain ⟨e, hi⟩ := ih m (fun i hi => hf i (by omega)) (fun i hi => hg i (by omega)) (by omega)
      subst e
      refine ⟨rfl, fun i hi' => ?_⟩
      by_cases z : i = n
      · subst z; omega
      · exact hi i (by omega)
theorem cd_cg {f g : Nat → Nat} : ∀ n, (∀ i, i < n → f i = g i) → cd f n = cd g n := by
  intro n
  induction n with
  | zero => intro _; rfl
  | succ n ih => intro h; rw [cd, cd, ih (fun i hi => h i (by omega)), h n (by omega)]
/-- the letters of a token -/
def lrN (t : Nat → Int32) (q i : Nat) : Nat := (t (q + i)).toInt.toNat - 96
theorem nI_64 {m : Nat} (h : m < 2147483648) : (nI m).toInt64 = lN m := by
  rw [← Int64.toInt_inj, Int32.toInt_toInt64, nI_toInt (by omega), lN_toInt (by omega)]
theorem lrN_r {t : Nat → Int32} {q i : Nat} (h : isL (t (q + i))) : 1 ≤ lrN t q i ∧ lrN t q i < 32 ∧ t (q + i) = nI (lrN t q i + 96) := by
  unfold lrN
  obtain ⟨h1, h2⟩ := h
  refine ⟨by omega, by omega, ?_⟩
  rw [← Int32.toInt_inj, nI_toInt (by omega)]
  omega
theorem wlS_cd {a : Nat} {t : Nat → Int32} {q i : Nat} (h : isL (t (q + i))) : wlS (lN a) (t (q + i)) = lN (a * 32 + lrN t q i) := by
  obtain ⟨h1, h2, h3⟩ := lrN_r h
  unfold wlS
  have e : nI (lrN t q i + 96) - 97 + 1 = nI (lrN t q i) := by
    rw [show nI (lrN t q i + 96) - 97 = nI (lrN t q i + 96 - 97) from pk_sub (b := 97) (by omega), nI_1]
    congr 1
    omega
  rw [h3, e, nI_64 (by omega), show (32 : Int64) = lN 32 from rfl, lN_mul, lN_add]
theorem wdE_cd {t : Nat → Int32} {q : Nat} : ∀ n i, (wdE t n (q + i) (lN (cd (lrN t q) i))).2 = lN (cd (lrN t q) ((wdE t n (q + i) (lN (cd (lrN t q) i))).1 - q)) := by
  intro n
  induction n with
  | zero => intro i; rw [wdE, Nat.add_sub_cancel_left]
  | succ n ih =>
    intro i
    rw [wdE]
    split
    · rename_i h
      have e := wlS_cd (a := cd (lrN t q) i) h
      have e2 : cd (lrN t q) i * 32 + lrN t q i = cd (lrN t q) (i + 1) := rfl
      rw [e, e2]
      exact ih (i + 1)
    · rw [Nat.add_sub_cancel_left]
theorem wdE_L {t : Nat → Int32} : ∀ n p w j, p ≤ j → j < (wdE t n p w).1 → isL (t j) := by
  intro n
  induction n with
  | zero => intro p w j h1 h2; rw [wdE] at h2; exact absurd h2 (by omega)
  | succ n ih =>
    intro p w j h1 h2
    rw [wdE] at h2
    split at h2
    · rename_i h
      by_cases z : j = p
      · rw [z]; exact h
      · exact ih (p + 1) _ j (by omega) h2
    · exact absurd h2 (by omega)
/-- the model's number of a word -/
def nmW (t : Nat → Int32) : Nat → Nat → Int64 → Int64
  | 0, _, w => w
  | n + 1, p, w => nmW t n (p + 1) ((w <<< ((5 : Int32).toInt64 &&& 63)) ||| (t p - 96).toInt64)
theorem ls_or {a d : Nat} (ha : a < 34359738368) (hd : d < 32) : (lN a <<< ((5 : Int32).toInt64 &&& 63)) ||| lN d = lN (a * 32 + d) := by
  have e5 : ((5 : Int32).toInt64 &&& 63) = 5 := by decide
  rw [e5]
  apply Int64.toBitVec_inj.mp
  apply BitVec.eq_of_toNat_eq
  have ea : (lN a).toBitVec.toNat = a := by
    show (BitVec.ofNat 64 a).toNat = a
    rw [BitVec.toNat_ofNat, Nat.mod_eq_of_lt (by omega)]
  have ed : (lN d).toBitVec.toNat = d := by
    show (BitVec.ofNat 64 d).toNat = d
    rw [BitVec.toNat_ofNat, Nat.mod_eq_of_lt (by omega)]
  have er : (lN (a * 32 + d)).toBitVec.toNat = a * 32 + d := by
    show (BitVec.ofNat 64 (a * 32 + d)).toNat = a * 32 + d
    rw [BitVec.toNat_ofNat, Nat.mod_eq_of_lt (by omega)]
  have es : (lN a <<< (5 : Int64)).toBitVec = (lN a).toBitVec <<< 5 := rfl
  rw [er, Int64.toBitVec_or, BitVec.toNat_or, ed, es, BitVec.toNat_shiftLeft, ea]
  have e2 : a <<< 5 = a * 32 := Nat.shiftLeft_eq a 5
  rw [Nat.mod_eq_of_lt (by rw [e2]; omega), ← Nat.shiftLeft_add_eq_or_of_lt (i := 5) (by omega) a, e2]
theorem nmW_cd {t : Nat → Int32} {q : Nat} : ∀ n i, i + n ≤ 8 → (∀ j, j < i + n → isL (t (q + j))) → nmW t n (q + i) (lN (cd (lrN t q) i)) = lN (cd (lrN t q) (i + n)) := by
  intro n
  induction n with
  | zero => intro i _ _; rfl
  | succ n ih =>
    intro i h8 hl
    obtain ⟨h1, h2, h3⟩ := lrN_r (hl i (by omega))
    have hc := cd_lt (f := lrN t q) i (fun j hj => (lrN_r (hl j (by omega))).2.1)
    have hp : 32 ^ i ≤ 32 ^ 7 := Nat.pow_le_pow_right (by decide) (by omega)
    have e7 : 32 ^ 7 = 34359738368 := by decide
    rw [nmW, h3, show nI (lrN t q i + 96) - 96 = nI (lrN t q i + 96 - 96) from pk_sub (b := 96) (by omega), Nat.add_sub_cancel, nI_64 (by omega), ls_or (by omega) h2]
    have := ih (i + 1) (by omega) (fun j hj => hl j (by omega))
    rw [show i + (n + 1) = i + 1 + n by omega]
    exact this
end
