/-! counts: both sides agree -/
section
theorem cwt_add (f : Nat → Bool) (a : Nat) : ∀ b, cwt f (a + b) = cwt f a + cwt (fun k => f (a + k)) b := by
  intro b
  induction b with
  | zero => rfl
  | succ b ih => show cwt f (a + b) + (f (a + b)).toNat = cwt f a + (cwt (fun k => f (a + k)) b + (f (a + b)).toNat); omega
theorem cwt_none {f : Nat → Bool} : ∀ n, (∀ q, q < n → f q = false) → cwt f n = 0 := by
  intro n
  induction n with
  | zero => intro _; rfl
  | succ n ih => intro h; show cwt f n + (f n).toNat = 0; rw [ih (fun q hq => h q (by omega)), h n (by omega)]; rfl
theorem shF_cnt (J : Is) : ∀ i h, h < i → cwt (fun p => decide (shF J i p = h)) (sdC J i) = tnI J h := by
  intro i
  induction i with
  | zero => intro h hh; omega
  | succ i ih =>
    intro h hh
    have e1 : sdC J (i + 1) = sdC J i + tnI J i := rfl
    rw [e1, cwt_add]
    have lo : ∀ p, p < sdC J i → shF J (i + 1) p = shF J i p := fun p hp => by rw [shF, if_neg (by omega)]
    have hi : ∀ k, shF J (i + 1) (sdC J i + k) = i := fun k => by rw [shF, if_pos (by omega)]
    by_cases e : h = i
    · subst e
      rw [cwt_none (sdC J h) (fun q hq => by
        rw [lo q hq]
        have := shF_lt J h q hq
        exact decide_eq_false (by omega)), cwt_all (tnI J h) (fun k _ => by rw [hi k]; exact decide_eq_true rfl)]
      omega
    · rw [cwt_cg (sdC J i) (B := fun p => decide (shF J i p = h)) (fun q hq => by rw [lo q hq]), ih h (by omega), cwt_none (tnI J i) (fun k _ => by rw [hi k]; exact decide_eq_false (by omega))]
      omega
theorem shF_ct (J : Is) : ∀ i p, p < sdC J i → ¬ J 105 (shF J i p) = -1 := by
  intro i
  induction i with
  | zero => intro p h; exact absurd h (Nat.not_lt_zero _)
  | succ i ih =>
    intro p h
    rw [shF]
    by_cases e : sdC J i ≤ p
    · rw [if_pos e]
      intro z
      have : tnI J i = 0 := if_pos z
      have e1 : sdC J (i + 1) = sdC J i + tnI J i := rfl
      omega
    · rw [if_neg e]; exact ih p (by omega)
variable {I J : Is} {NH : Nat} {mi : Nat → Int32}
def cplC (I J : Is) (mi : Nat → Int32) (NH : Nat) : Prop := NH ≤ 5 ∧ (∀ h, h < NH → J 104 h = I 9 h ∧ J 130 h = I 69 h ∧ (mi h = -1 ↔ J 105 h = -1) ∧ (¬ J 105 h = -1 → J 131 h = mi h) ∧ 0 ≤ (I 69 h).toInt ∧ (I 69 h).toInt ≤ (I 9 h).toInt ∧ (I 9 h).toInt ≤ 40) ∧ ∀ h o, h < NH → o < NH → J 106 (5 * h + o) = mbt (I 11) (nI h) (nI o)
theorem gx_fit (h5 : NH ≤ 5) (h10 : sdC J NH ≤ 10) : gFit (gxI J NH) := ⟨h10, h5, fun p hp => ⟨shF_lt J NH p hp, decide_eq_true (shF_ct J NH p hp)⟩⟩
theorem gx_tn {h : Nat} (hh : h < NH) : tnG (gxI J NH) h = tnI J h := shF_cnt J NH h hh
theorem gx_ct {h : Nat} : gct (gxI J NH) h = true ↔ ¬ J 105 h = -1 := decide_eq_true_iff
theorem fillr0 (f : Nat → Int32) {i : Nat} (h : i < 5) : fillr f 5 0 i = 0 := by unfold fillr; rw [if_pos h]
theorem tn_i (hC : cplC I J mi NH) {h : Nat} (hh : h < NH) : (if mi h = -1 then (0 : Int32) else I 69 h).toInt = (tnI J h : Int) := by
  obtain ⟨c1, c2, c3, c4, c5, c6, c7⟩ := hC.2.1 h hh
  unfold tnI
  by_cases e : mi h = -1
  · rw [if_pos e, if_pos (c3.mp e)]; rfl
  · rw [if_neg e, if_neg (fun z => e (c3.mpr z)), c2]
    exact nN_of c5
theorem rw_cr (hC : cplC I J mi NH) (h10 : sdC J NH ≤ 10) : rwG (gxI J NH) (mnG (gxI J NH)) (crJ (upr I 70 mi) NH NH 65) (crJ (upr I 70 mi) NH NH 66) (crJ (upr I 70 mi) NH NH 67) := by
  obtain ⟨h5, h1, h2⟩ := id hC
  have k70 : upr I 70 mi 70 = mi := upr_s _ _ _
  have k9 : upr I 70 mi 9 = I 9 := upr_n _ _ (by decide)
  have k69 : upr I 70 mi 69 = I 69 := upr_n _ _ (by decide)
  have k11 : upr I 70 mi 11 = I 11 := upr_n _ _ (by decide)
  refine ⟨fun h hh => ?_, fun h hh => ?_, fun h => if h < NH ∧ ¬ mi h = -1 then wN (cwP (I 11) mi h) NH else 0, fun h hh => ?_, fun h hh hn => ?_, fun h hh p hp => ?_⟩
  · unfold crJ
    rw [W3_5]
    show (prf (cfF (upr I 70 mi)) NH (fillr _ 5 0) h).toInt = (if h < NH then mnG (gxI J NH) h else 0 : Nat) ∧ _
    unfold prf
    by_cases e : h < NH
    · obtain ⟨c1, c2, c3, c4, c5, c6, c7⟩ := h1 h e
      rw [if_pos e, if_pos e]
      have key : (cfF (upr I 70 mi) h).toInt = (mnG (gxI J NH) h : Nat) ∧ mnG (gxI J NH) h ≤ 1000 := by
        unfold cfF mnG
        rw [k70, k9, gx_tn e]
        by_cases em : mi h = -1
        · rw [if_pos em, if_neg (show ¬ gct (gxI J NH) h = true from fun z => gx_ct.mp z (c3.mp em))]
          exact ⟨rfl, by omega⟩
        · have hct : ¬ J 105 h = -1 := fun z => em (c3.mpr z)
          rw [if_neg em, if_pos (gx_ct.mpr hct)]
          have et : tnI J h = nN (I 69 h) := by unfold tnI; rw [if_neg hct, c2]
          have e1 := nN_of c5
          have ec : (J 104 h - J 130 h).toInt = (I 9 h).toInt - (I 69 h).toInt := by rw [c1, c2]; exact i_sub (by omega) (by omega)
          have e2 := nN_of (x := J 104 h - J 130 h) (by omega)
          have e3 : gcp (gxI J NH) h = nN (J 104 h - J 130 h) := rfl
          rw [et, e3]
          constructor <;> omega
      exact ⟨key.1, fun _ => key.2⟩
    · rw [if_neg e, if_neg e, fillr0 _ hh]
      exact ⟨rfl, fun z => absurd z e⟩
  · unfold crJ
    rw [W3_6]
    show (prf (cfT (upr I 70 mi)) NH (fillr _ 5 0) h).toInt = (if h < NH then tnG (gxI J NH) h else 0 : Nat)
    unfold prf
    by_cases e : h < NH
    · rw [if_pos e, if_pos e, gx_tn e]
      unfold cfT
      rw [k70, k69]
      exact tn_i hC e
    · rw [if_neg e, if_neg e, fillr0 _ hh]; rfl
  · have hlt : wN (cwP (I 11) mi h) NH < 32 := Nat.lt_of_lt_of_le (wN_lt _ _) (Nat.le_trans (Nat.pow_le_pow_right (by decide) h5) (by decide))
    unfold crJ
    rw [W3_7]
    show prf (cfW (upr I 70 mi) NH) NH (fillr _ 5 0) h = nI (if h < NH ∧ ¬ mi h = -1 then wN (cwP (I 11) mi h) NH else 0) ∧ (if h < NH ∧ ¬ mi h = -1 then wN (cwP (I 11) mi h) NH else 0) < 32
    unfold prf
    by_cases e : h < NH
    · rw [if_pos e]
      unfold cfW
      rw [k70, k11]
      by_cases em : mi h = -1
      · rw [if_pos em, if_neg (fun z => z.2 em)]; exact ⟨rfl, by omega⟩
      · rw [if_neg em, if_pos ⟨e, em⟩, wor_n _ _ h5]; exact ⟨rfl, hlt⟩
    · rw [if_neg e, if_neg (fun z => e z.1), fillr0 _ hh]; exact ⟨rfl, by omega⟩
  · show (if h < NH ∧ ¬ mi h = -1 then wN (cwP (I 11) mi h) NH else 0) = 0
    rw [if_neg (fun z => hn z.1)]
  · have hh : h < NH := hh
    have ho := shF_lt J NH p hp
    have hoc := shF_ct J NH p hp
    obtain ⟨c1, c2, c3, c4, c5, c6, c7⟩ := h1 h hh
    obtain ⟨d1, d2, d3, d4, -⟩ := h1 _ ho
    show Nat.testBit (if h < NH ∧ ¬ mi h = -1 then wN (cwP (I 11) mi h) NH else 0) (shF J NH p) = wG (gxI J NH) h (shF J NH p)
    unfold wG
    by_cases em : mi h = -1
    · rw [if_neg (fun z => z.2 em), Nat.zero_testBit]
      have : gct (gxI J NH) h = false := by
        cases q : gct (gxI J NH) h with
        | false => rfl
        | true => exact absurd (c3.mp em) (gx_ct.mp q)
      rw [this]
      simp
    · have hct : ¬ J 105 h = -1 := fun z => em (c3.mpr z)
      rw [if_pos ⟨hh, em⟩, wN_tb, decide_eq_true ho, gx_ct.mpr hct, decide_eq_true (show h < gH (gxI J NH) from hh)]
      simp only [Bool.true_and]
      apply Bool.eq_iff_iff.mpr
      show decide _ = true ↔ decide _ = true
      rw [decide_eq_true_iff, decide_eq_true_iff, h2 h _ hh ho]
      unfold ltr
      rw [c4 hct, d4 hoc]
      exact ⟨fun z => z.2, fun z => ⟨fun w => hoc (d3.mp w), z⟩⟩
theorem rw_ck (hC : cplC I J mi NH) (h10 : sdC J NH ≤ 10) : rwG (gxI J NH) (tnG (gxI J NH)) (crK (crJ (upr I 70 mi) NH NH) NH 65) (crK (crJ (upr I 70 mi) NH NH) NH 66) (crK (crJ (upr I 70 mi) NH NH) NH 67) := by
  obtain ⟨r1, r2, r3⟩ := rw_cr hC h10
  have e66 : crK (crJ (upr I 70 mi) NH NH) NH 66 = crJ (upr I 70 mi) NH NH 66 := upr_n _ _ (by decide)
  have e67 : crK (crJ (upr I 70 mi) NH NH) NH 67 = crJ (upr I 70 mi) NH NH 67 := upr_n _ _ (by decide)
  have e65 : crK (crJ (upr I 70 mi) NH NH) NH 65 = prf (crJ (upr I 70 mi) NH NH 66) NH (crJ (upr I 70 mi) NH NH 65) := upr_s _ _ _
  rw [e66, e67, e65]
  refine ⟨fun h hh => ?_, r2, r3⟩
  have a1 := (r1 h hh).1
  have a2 := r2 h hh
  show (prf _ NH _ h).toInt = (if h < NH then tnG (gxI J NH) h else 0 : Nat) ∧ _
  have a1 : _ = ((if h < NH then mnG (gxI J NH) h else 0 : Nat) : Int) := a1
  have a2 : _ = ((if h < NH then tnG (gxI J NH) h else 0 : Nat) : Int) := a2
  unfold prf
  by_cases e : h < NH
  · rw [if_pos e, a2]
    exact ⟨rfl, fun _ => Nat.le_trans (Nat.le_trans (cwt_le _ _) h10) (by decide)⟩
  · rw [if_neg e, a1, if_neg e, if_neg e]
    exact ⟨rfl, fun z => absurd z e⟩
/-- right, and by how many -/
theorem right_i {v : Int32} (hC : cplC I J mi NH) (h10 : sdC J NH ≤ 10) (hv : feV (gxI J NH) v) : (rtB I NH (nI (sdC J NH)) mi = true ↔ ¬ v = -1) ∧ (¬ v = -1 → v = nI (sdC J NH) - grt (crK (crJ (upr I 70 mi) NH NH) NH)) := by
  have hF := gx_fit hC.1 h10
  obtain ⟨a1, X1, a2⟩ := grt_G hF (rw_cr hC h10)
  obtain ⟨b1, X2, b2⟩ := grt_G hF (rw_ck hC h10)
  have hSi : (nI (sdC J NH)).toInt = sdC J NH := nI_toInt (by omega)
  have hS : gS (gxI J NH) = sdC J NH := rfl
  rcases feV_c hF hv with ⟨e, X, hX⟩ | ⟨hX, k, k1, ⟨X, k2⟩, k3, k4⟩
  · rw [e]
    refine ⟨⟨fun z => ?_, fun z => absurd rfl z⟩, fun z => absurd rfl z⟩
    have z := of_decide_eq_true z
    have := a1 X
    rw [z, hSi] at this
    omega
  · have hvn : ¬ v = -1 := fun z => by
      rw [z, show (-1 : Int32).toInt = -1 from rfl] at k4
      omega
    refine ⟨⟨fun _ => hvn, fun _ => ?_⟩, fun _ => ?_⟩
    · refine decide_eq_true ?_
      rw [i_eq, hSi]
      have q1 := hX X1
      have q2 := a1 (fun _ => true)
      have q3 := cut_full hF (mnG (gxI J NH))
      omega
    · have q1 := k1 X2
      have q2 := b1 X
      rw [i_eq, k4, i_sub (by omega) (by omega), hSi]
      omega
theorem ms_i (hC : cplC I J (I 10) NH) : msS I NH = nI (sdC J NH) ∧ sdC J NH ≤ 200 := by
  have h5 := hC.1
  have key : ∀ n, n ≤ NH → (msS I n).toInt = (sdC J n : Int) ∧ sdC J n ≤ 40 * n := by
    intro n
    induction n with
    | zero => intro _; exact ⟨rfl, Nat.le_refl _⟩
    | succ n ih =>
      intro hn
      obtain ⟨i1, i2⟩ := ih (by omega)
      have ht := tn_i hC (show n < NH by omega)
      obtain ⟨c1, c2, c3, c4, c5, c6, c7⟩ := hC.2.1 n (by omega)
      have hl : tnI J n ≤ 40 := by
        unfold tnI
        split
        · omega
        · rw [c2]; have := nN_of c5; omega
      have e1 : sdC J (n + 1) = sdC J n + tnI J n := rfl
      refine ⟨?_, by omega⟩
      show (msS I n + (if I 10 n = -1 then 0 else I 69 n)).toInt = _
      rw [i_add (by omega) (by omega), i1, ht, e1]
      omega
  obtain ⟨k1, k2⟩ := key NH (Nat.le_refl _)
  exact ⟨by rw [i_eq, k1, nI_toInt (by omega)], by omega⟩
theorem ag_i (hg : ∀ h, h < NH → 0 ≤ (J 130 h).toInt ∧ (J 130 h).toInt ≤ 40) (h5 : NH ≤ 5) : agM J 1 NH = nI (sdC J NH) := by
  have key : ∀ n, n ≤ NH → (agM J 1 n).toInt = (sdC J n : Int) ∧ sdC J n ≤ 40 * n := by
    intro n
    induction n with
    | zero => intro _; exact ⟨rfl, Nat.le_refl _⟩
    | succ n ih =>
      intro hn
      obtain ⟨i1, i2⟩ := ih (by omega)
      have hgn := hg n (by omega)
      have hN := nN_of hgn.1
      have e1 : sdC J (n + 1) = sdC J n + tnI J n := rfl
      show (agM J 1 n + (if (1 : Int32) = 0 ∨ ¬ J 105 n = -1 then J 130 n else 0)).toInt = _ ∧ _
      unfold tnI at e1
      by_cases e : J 105 n = -1
      · rw [if_neg (by rintro (z | z); exact absurd z (by decide); exact z e), Int32.add_zero, i1]
        rw [if_pos e] at e1
        exact ⟨by omega, by omega⟩
      · rw [if_pos (Or.inr e), i_add (by omega) (by omega), i1]
        rw [if_neg e] at e1
        exact ⟨by omega, by omega⟩
  obtain ⟨k1, k2⟩ := key NH (Nat.le_refl _)
  rw [i_eq, k1, nI_toInt (by omega)]
end
