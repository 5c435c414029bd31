/-! the flow's greatest is the least cut -/
section
theorem g_or {a b : Nat} (ha : a < 4294967296) (hb : b < 4294967296) : nI a ||| nI b = nI (a ||| b) := by
  apply n32_inj
  have : a ||| b < 2 ^ 32 := Nat.or_lt_two_pow ha hb
  rw [n32_or, n32_nI ha, n32_nI hb, n32_nI this]
def wN (p : Nat → Bool) : Nat → Nat
  | 0 => 0
  | n + 1 => if p n then wN p n ||| 2 ^ n else wN p n
theorem wN_lt (p : Nat → Bool) : ∀ n, wN p n < 2 ^ n := by
  intro n
  induction n with
  | zero => exact Nat.one_pos
  | succ n ih =>
    have h1 : 2 ^ n < 2 ^ (n + 1) := Nat.pow_lt_pow_right (by decide) (by omega)
    rw [wN]
    split
    · exact Nat.or_lt_two_pow (by omega) h1
    · omega
theorem wN_tb (p : Nat → Bool) : ∀ n o, (wN p n).testBit o = (decide (o < n) && p o) := by
  intro n
  induction n with
  | zero => intro o; simp [wN]
  | succ n ih =>
    intro o
    rw [wN]
    by_cases hp : p n = true
    · rw [if_pos hp, Nat.testBit_or, ih, Nat.testBit_two_pow]
      by_cases e : o = n
      · subst e; simp [hp]
      · by_cases e2 : o < n
        · simp [e2, show o < n + 1 by omega, Ne.symm e]
        · simp [e2, show ¬ o < n + 1 by omega, Ne.symm e]
    · rw [if_neg hp, ih]
      by_cases e : o = n
      · subst e; simp at hp; simp [hp]
      · by_cases e2 : o < n
        · simp [e2, show o < n + 1 by omega]
        · simp [e2, show ¬ o < n + 1 by omega]
theorem wor_n (p : Nat → Bool) : ∀ n, n ≤ 5 → wor p n = nI (wN p n) := by
  intro n
  induction n with
  | zero => intro _; rfl
  | succ n ih =>
    intro hn
    have h1 := wN_lt p n
    have h2 : 2 ^ n ≤ 2 ^ 5 := Nat.pow_le_pow_right (by decide) (by omega)
    have h3 : (2 : Nat) ^ 5 = 32 := rfl
    rw [wor, wN, ih (by omega)]
    by_cases hp : p n = true
    · rw [if_pos hp, if_pos hp, g_one n (by omega), g_or (by omega) (by omega)]
    · rw [if_neg hp, if_neg hp]
/-- whom the set reaches -/
def rN (wn : Nat → Nat) (s : Nat) : Nat → Nat
  | 0 => 0
  | i + 1 => if s.testBit i then rN wn s i ||| wn i else rN wn s i
theorem rN_lt {wn : Nat → Nat} {s : Nat} (h : ∀ i, i < 5 → wn i < 32) : ∀ n, n ≤ 5 → rN wn s n < 32 := by
  intro n
  induction n with
  | zero => intro _; exact (by decide : (0 : Nat) < 32)
  | succ n ih =>
    intro hn
    rw [rN]
    split
    · exact Nat.or_lt_two_pow (n := 5) (ih (by omega)) (h n (by omega))
    · exact ih (by omega)
theorem rN_tb {wn : Nat → Nat} {s o : Nat} : ∀ n, (rN wn s n).testBit o = true ↔ ∃ h, h < n ∧ s.testBit h = true ∧ (wn h).testBit o = true := by
  intro n
  induction n with
  | zero =>
    constructor
    · intro h; rw [rN, Nat.zero_testBit] at h; cases h
    · rintro ⟨h, h1, -⟩; omega
  | succ n ih =>
    rw [rN]
    by_cases hs : s.testBit n = true
    · rw [if_pos hs, Nat.testBit_or, Bool.or_eq_true, ih]
      constructor
      · rintro (⟨h, h1, h2⟩ | h)
        · exact ⟨h, by omega, h2⟩
        · exact ⟨n, by omega, hs, h⟩
      · rintro ⟨h, h1, h2⟩
        by_cases e : h = n
        · subst e; exact Or.inr h2.2
        · exact Or.inl ⟨h, by omega, h2⟩
    · rw [if_neg hs, ih]
      constructor
      · rintro ⟨h, h1, h2⟩; exact ⟨h, by omega, h2⟩
      · rintro ⟨h, h1, h2⟩
        by_cases e : h = n
        · subst e; exact absurd h2.1 hs
        · exact ⟨h, by omega, h2⟩
theorem ct1_n {fr wy : Nat → Int32} {frN wn : Nat → Nat} {s : Nat} (hs : s < 32) (hf : ∀ i, i < 5 → (fr i).toInt = frN i ∧ frN i ≤ 1000) (hw : ∀ i, i < 5 → wy i = nI (wn i) ∧ wn i < 32) : ∀ n, n ≤ 5 → (ct1 fr wy (nI s) n).1 = nI (rN wn s n) ∧ (ct1 fr wy (nI s) n).2.toInt = (smN (fun h => if s.testBit h then 0 else frN h) n : Int) ∧ smN (fun h => if s.testBit h then 0 else frN h) n ≤ 1000 * n := by
  intro n
  induction n with
  | zero => intro _; exact ⟨rfl, rfl, Nat.le_refl _⟩
  | succ n ih =>
    intro hn
    obtain ⟨i1, i2, i3⟩ := ih (by omega)
    have hb := g_bz (s := s) (p := n) (by omega) (by omega)
    have hf1 := hf n (by omega)
    have hw1 := hw n (by omega)
    have hr := rN_lt (wn := wn) (s := s) (fun i hi => (hw i hi).2) n (by omega)
    have es : smN (fun h => if s.testBit h then 0 else frN h) (n + 1) = smN (fun h => if s.testBit h then 0 else frN h) n + (if s.testBit n then 0 else frN n) := rfl
    rw [ct1, rN, es]
    cases ht : s.testBit n with
    | false =>
      rw [if_pos (hb.mpr ht)]
      refine ⟨by rw [i1]; rfl, ?_, by simp; omega⟩
      show (_ + fr n).toInt = _
      rw [i_add (by omega) (by omega)]
      simp
      omega
    | true =>
      rw [if_neg (fun z => by rw [hb.mp z] at ht; cases ht)]
      refine ⟨?_, by simp; exact i2, by simp; omega⟩
      show _ ||| wy n = nI (if true = true then rN wn s n ||| wn n else rN wn s n)
      rw [i1, hw1.1, g_or (by omega) (by omega), if_pos rfl]
theorem ct2_n {to : Nat → Int32} {toN : Nat → Nat} {r : Nat} {c : Int32} {cN : Nat} (hr : r < 32) (ht : ∀ i, i < 5 → (to i).toInt = toN i ∧ toN i ≤ 1000) (hc : c.toInt = cN) (hc2 : cN ≤ 5000) : ∀ n, n ≤ 5 → (ct2 to (nI r) c n).toInt = (cN + smN (fun o => if r.testBit o then toN o else 0) n : Nat) ∧ smN (fun o => if r.testBit o then toN o else 0) n ≤ 1000 * n := by
  intro n
  induction n with
  | zero => intro _; exact ⟨by show c.toInt = _; rw [hc]; rfl, Nat.le_refl _⟩
  | succ n ih =>
    intro hn
    obtain ⟨i1, i2⟩ := ih (by omega)
    have hb := g_bz (s := r) (p := n) (by omega) (by omega)
    have ht1 := ht n (by omega)
    have es : smN (fun o => if r.testBit o then toN o else 0) (n + 1) = smN (fun o => if r.testBit o then toN o else 0) n + (if r.testBit n then toN n else 0) := rfl
    rw [ct2, es]
    cases hq : r.testBit n with
    | false =>
      rw [if_pos (hb.mpr hq)]
      exact ⟨by simp; omega, by simp; omega⟩
    | true =>
      rw [if_neg (fun z => by rw [hb.mp z] at hq; cases hq)]
      refine ⟨?_, by simp; omega⟩
      rw [i_add (by omega) (by omega)]
      simp
      omega
theorem lst_le {f : Nat → Int32} : ∀ n s, s ≤ n → (lst f n).toInt ≤ (f s).toInt := by
  intro n
  induction n with
  | zero => intro s hs; rw [show s = 0 by omega]; exact Int.le_refl _
  | succ n ih =>
    intro s hs
    rw [lst, iMin_i]
    by_cases e : s = n + 1
    · subst e; omega
    · have := ih s (by omega); omega
theorem lst_ex {f : Nat → Int32} : ∀ n, ∃ s, s ≤ n ∧ (lst f n).toInt = (f s).toInt := by
  intro n
  induction n with
  | zero => exact ⟨0, Nat.le_refl _, rfl⟩
  | succ n ih =>
    obtain ⟨s, h1, h2⟩ := ih
    rw [lst, iMin_i]
    by_cases h : (lst f n).toInt ≤ (f (n + 1)).toInt
    · exact ⟨s, by omega, by omega⟩
    · exact ⟨n + 1, by omega, by omega⟩
theorem smN_ext {f : Nat → Nat} {n m : Nat} (h : n ≤ m) (hz : ∀ k, n ≤ k → k < m → f k = 0) : smN f m = smN f n := by
  induction m with
  | zero => rw [show n = 0 by omega]
  | succ m ih =>
    by_cases e : n = m + 1
    · rw [e]
    · show smN f m + f m = smN f n
      rw [ih (by omega) (fun k h1 h2 => hz k h1 (by omega)), hz m (by omega) (by omega)]
      rfl
/-- the rows of a flow, of the stands -/
def rwG (G : Gx) (frN : Nat → Nat) (fr to wy : Nat → Int32) : Prop := (∀ h, h < 5 → (fr h).toInt = (if h < gH G then frN h else 0 : Nat) ∧ (h < gH G → frN h ≤ 1000)) ∧ (∀ h, h < 5 → (to h).toInt = (if h < gH G then tnG G h else 0 : Nat)) ∧ ∃ wn : Nat → Nat, (∀ h, h < 5 → wy h = nI (wn h) ∧ wn h < 32) ∧ (∀ h, h < 5 → ¬ h < gH G → wn h = 0) ∧ ∀ h, h < gH G → ∀ p, p < gS G → (wn h).testBit (gsh G p) = wG G h (gsh G p)
variable {G : Gx}
theorem cuG_cg {fr : Nat → Nat} {X Y : Nat → Bool} (h : ∀ k, k < gH G → X k = Y k) : cuG G fr X = cuG G fr Y := by
  unfold cuG
  rw [smN_cg (gH G) (fun k hk => by rw [h k hk]), cwt_cg (gS G) (fun q hq => ?_)]
  apply Bool.eq_iff_iff.mpr
  rw [bhG_i, bhG_i]
  constructor
  · rintro ⟨k, h1, h2, h3⟩; exact ⟨k, h1, by rw [← h k h1]; exact h2, h3⟩
  · rintro ⟨k, h1, h2, h3⟩; exact ⟨k, h1, by rw [h k h1]; exact h2, h3⟩
theorem cut_G {frN : Nat → Nat} {fr to wy : Nat → Int32} (hF : gFit G) (hr : rwG G frN fr to wy) {s : Nat} (hs : s < 32) : (cut fr to wy (nI s)).toInt = cuG G frN (fun h => s.testBit h) := by
  obtain ⟨h1, h2, wn, h3, h4, h5⟩ := hr
  have hH := hF.2.1
  have hS := hF.1
  have tl : ∀ h, tnG G h ≤ 10 := fun h => Nat.le_trans (cwt_le _ _) hS
  obtain ⟨a1, a2, a3⟩ := ct1_n (fr := fr) (wy := wy) (frN := fun h => if h < gH G then frN h else 0) (wn := wn) hs (fun i hi => ⟨(h1 i hi).1, by
    show (if i < gH G then frN i else 0) ≤ 1000
    by_cases e : i < gH G
    · rw [if_pos e]; exact (h1 i hi).2 e
    · rw [if_neg e]; omega⟩) h3 5 (Nat.le_refl _)
  have hlt := rN_lt (wn := wn) (s := s) (fun i hi => (h3 i hi).2) 5 (Nat.le_refl _)
  unfold cut
  rw [a1]
  obtain ⟨b1, -⟩ := ct2_n (to := to) (toN := fun h => if h < gH G then tnG G h else 0) hlt (fun i hi => ⟨h2 i hi, by
    show (if i < gH G then tnG G i else 0) ≤ 1000
    have := tl i
    split <;> omega⟩) a2 (by omega) 5 (Nat.le_refl _)
  rw [b1]
  congr 1
  unfold cuG
  congr 1
  · rw [smN_ext hH (fun k k1 k2 => by show (if s.testBit k then 0 else if k < gH G then frN k else 0) = 0; rw [if_neg (show ¬ k < gH G by omega)]; split <;> rfl)]
    refine smN_cg _ (fun k hk => ?_)
    show (if s.testBit k then 0 else if k < gH G then frN k else 0) = _
    rw [if_pos hk]
  · rw [smN_ext hH (fun k k1 k2 => by show (if (rN wn s 5).testBit k then (if k < gH G then tnG G k else 0) else 0) = 0; rw [if_neg (show ¬ k < gH G by omega)]; split <;> rfl)]
    have e1 : smN (fun o => if (rN wn s 5).testBit o then (if o < gH G then tnG G o else 0) else 0) (gH G) = smN (fun o => if (rN wn s 5).testBit o then cwt (fun p => decide (gsh G p = o)) (gS G) else 0) (gH G) := smN_cg _ (fun k hk => by
      show (if (rN wn s 5).testBit k then (if k < gH G then tnG G k else 0) else 0) = _
      rw [if_pos hk]; rfl)
    rw [e1, sum_fib (c := fun o => (rN wn s 5).testBit o) (gS G) (fun p hp => (hF.2.2 p hp).1)]
    refine cwt_cg _ (fun q hq => ?_)
    apply Bool.eq_iff_iff.mpr
    rw [rN_tb, bhG_i]
    constructor
    · rintro ⟨h, k1, k2, k3⟩
      by_cases e : h < gH G
      · exact ⟨h, e, k2, by rw [← h5 h e q hq]; exact k3⟩
      · rw [h4 h k1 e, Nat.zero_testBit] at k3; cases k3
    · rintro ⟨h, k1, k2, k3⟩
      exact ⟨h, by omega, k2, by rw [h5 h k1 q hq]; exact k3⟩
theorem grt_G {frN : Nat → Nat} {J : Is} (hF : gFit G) (hr : rwG G frN (J 65) (J 66) (J 67)) : (∀ X, (grt J).toInt ≤ cuG G frN X) ∧ ∃ X, (grt J).toInt = cuG G frN X := by
  constructor
  · intro X
    have hl := wN_lt X 5
    have e : cuG G frN X = cuG G frN (fun h => (wN X 5).testBit h) := cuG_cg (fun k hk => by
      have := hF.2.1
      rw [wN_tb, decide_eq_true (show k < 5 by omega)]; rfl)
    rw [e, ← cut_G hF hr hl]
    exact lst_le (f := fun s => cut (J 65) (J 66) (J 67) (nI s)) 31 _ (by omega)
  · obtain ⟨s, h1, h2⟩ := lst_ex (f := fun s => cut (J 65) (J 66) (J 67) (nI s)) 31
    exact ⟨_, h2.trans (cut_G hF hr (by omega))⟩
end
