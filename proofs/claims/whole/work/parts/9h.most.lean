/-! steps: most, until -/
section
variable {sc : Sc} {I J : Is} {L K : Ls} {tg : Nat}
theorem ct1_f {fr fr' wy : Nat → Int32} {s : Int32} : ∀ n, (ct1 fr wy s n).1 = (ct1 fr' wy s n).1 := by
  intro n
  induction n with
  | zero => rfl
  | succ n ih =>
    rw [ct1, ct1]
    split
    · exact ih
    · show (ct1 fr wy s n).1 ||| wy n = (ct1 fr' wy s n).1 ||| wy n
      rw [ih]
theorem ct1_s {fr wy : Nat → Int32} {s : Nat} (hs : s < 32) : ∀ n, n ≤ 5 → (ct1 fr wy (nI s) n).2 = sm (fun h => if s.testBit h then 0 else fr h) n := by
  intro n
  induction n with
  | zero => intro _; rfl
  | succ n ih =>
    intro h5
    have b := g_bz (s := s) (p := n) (by omega) (by omega)
    rw [ct1, sm]
    by_cases z : s.testBit n = true
    · rw [if_neg (fun y => by rw [b.mp y] at z; exact absurd z (by decide)), if_pos z, Int32.add_zero]
      exact ih (by omega)
    · rw [if_pos (b.mpr (by simpa using z)), if_neg z]
      show (ct1 fr wy (nI s) n).2 + fr n = _
      rw [ih (by omega)]
theorem ct2_s {to : Nat → Int32} {r : Nat} {c : Int32} (hr : r < 32) : ∀ n, n ≤ 5 → ct2 to (nI r) c n = c + sm (fun o => if r.testBit o then to o else 0) n := by
  intro n
  induction n with
  | zero => intro _; show c = c + 0; rw [Int32.add_zero]
  | succ n ih =>
    intro h5
    have b := g_bz (s := r) (p := n) (by omega) (by omega)
    rw [ct2, sm]
    by_cases z : r.testBit n = true
    · rw [if_neg (fun y => by rw [b.mp y] at z; exact absurd z (by decide)), if_pos z, ih (by omega), Int32.add_assoc]
    · rw [if_pos (b.mpr (by simpa using z)), if_neg z, ih (by omega), Int32.add_zero]
theorem qis_i {s g : Nat} : ∀ n, qis I s g n = true ↔ ∃ h, h < n ∧ s.testBit h = true ∧ qR I h g = true := by
  intro n
  induction n with
  | zero => exact ⟨fun z => absurd z (by simp [qis]), fun ⟨h, z, _⟩ => absurd z (Nat.not_lt_zero _)⟩
  | succ n ih =>
    rw [qis, Bool.or_eq_true, ih, Bool.and_eq_true]
    constructor
    · rintro (⟨h, h1, h2⟩ | h2)
      · exact ⟨h, by omega, h2⟩
      · exact ⟨n, by omega, h2⟩
    · rintro ⟨h, h1, h2⟩
      by_cases z : h = n
      · subst z; exact Or.inr h2
      · exact Or.inl ⟨h, by omega, h2⟩
theorem qs2_s {d : Int32} {s NH : Nat} : ∀ n, qs2 I d s NH n = qs1 I d s NH + sm (fun g => if qis I s g NH then qT I d g else 0) n := by
  intro n
  induction n with
  | zero => show qs1 I d s NH = qs1 I d s NH + 0; rw [Int32.add_zero]
  | succ n ih => rw [qs2, ih, sm, Int32.add_assoc]
/-- what both must share for 'most' -/
def mcp (I J : Is) (H G n : Nat) : Prop := (H ≤ 5 ∧ G ≤ 4 ∧ n ≤ 600) ∧ (I 3 14 = nI H ∧ I 3 15 = nI G) ∧ (∀ h, h < H → J 125 h = I 42 h ∧ J 104 h = I 9 h ∧ 0 ≤ (I 42 h).toInt ∧ (I 42 h).toInt ≤ 200000 * n ∧ 1 ≤ (I 9 h).toInt ∧ (I 9 h).toInt ≤ 40) ∧ (J 97 3 = I 4 6 ∧ 0 ≤ (I 4 6).toInt ∧ (I 4 6).toInt ≤ 40) ∧ (∀ h g, h < H → g < G → qR J h g = mR I h g) ∧ (∀ g, g < G → J 108 g = I 14 g ∧ J 109 g = I 15 g ∧ J 126 g = I 43 g ∧ 0 ≤ (I 14 g).toInt ∧ (I 14 g).toInt ≤ 999 ∧ 0 ≤ (I 43 g).toInt ∧ (I 43 g).toInt ≤ (I 15 g).toInt ∧ (I 15 g).toInt ≤ 9999)
theorem mo_cut {H G n s : Nat} {d : Int32} (c : mcp I J H G n) (hs : s < 32) : cut (mJ I d 65) (mJ I d 66) (mJ I d 67) (nI s) = qs2 J d s H G := by
  obtain ⟨⟨h5, h4, _⟩, ⟨a1, a2⟩, ch, ⟨c97, _⟩, cr, cg⟩ := c
  have nH : nN (I 3 14) = H := by rw [a1]; exact nI_clamp (by omega)
  have nG : nN (I 3 15) = G := by rw [a2]; exact nI_clamp (by omega)
  have e65 : ∀ h, h < 5 → mJ I d 65 h = if h < H then mF I d h else 0 := fun h hh => by
    unfold mJ W3
    rw [upr_n _ _ (by decide), upr_n _ _ (by decide), upr_s, nH]
    unfold prf
    by_cases z : h < H
    · rw [if_pos z, if_pos z]
    · rw [if_neg z, if_neg z, fillr0 _ hh]
  have e66 : ∀ h, h < 5 → mJ I d 66 h = if h < G then mT I d h else 0 := fun h hh => by
    unfold mJ W3
    rw [upr_n _ _ (by decide), upr_s, nG]
    unfold prf
    by_cases z : h < G
    · rw [if_pos z, if_pos z]
    · rw [if_neg z, if_neg z, fillr0 _ hh]
  have e67 : ∀ h, h < 5 → mJ I d 67 h = nI (if h < H then wN (mR I h) G else 0) := fun h hh => by
    unfold mJ W3
    rw [upr_s, nH]
    unfold prf
    by_cases z : h < H
    · rw [if_pos z, if_pos z]; unfold mW; rw [nG]; exact wor_n _ _ (by omega)
    · rw [if_neg z, if_neg z, fillr0 _ hh]; rfl
  have wl : ∀ h, h < 5 → (if h < H then wN (mR I h) G else 0) < 32 := fun h hh => by
    split
    · have := wN_lt (mR I h) G
      have : 2 ^ G ≤ 2 ^ 4 := Nat.pow_le_pow_right (by decide) h4
      omega
    · decide
  have r1 := (ct1_n (fr := fun _ => 0) (wy := mJ I d 67) (frN := fun _ => 0) (wn := fun h => if h < H then wN (mR I h) G else 0) hs (fun _ _ => ⟨rfl, by decide⟩) (fun i hi => ⟨e67 i hi, wl i hi⟩) 5 (by omega)).1
  have rl := rN_lt (wn := fun h => if h < H then wN (mR I h) G else 0) (s := s) wl 5 (by omega)
  unfold cut
  rw [ct1_f (fr' := fun _ => 0) 5, r1, ct2_s rl 5 (by omega), ct1_s hs 5 (by omega), qs2_s]
  have p1 : sm (fun h => if s.testBit h then 0 else mJ I d 65 h) 5 = qs1 J d s H := by
    have := sm_zero (f := fun h => if s.testBit h then 0 else mJ I d 65 h) (n := H) (5 - H) (fun k k1 k2 => by
      show (if s.testBit k then 0 else mJ I d 65 k) = 0
      rw [e65 k (by omega), if_neg (show ¬ k < H by omega)]; split <;> rfl)
    rw [show H + (5 - H) = 5 by omega] at this
    rw [this]
    unfold qs1
    refine sm_ext H (fun k hk => ?_)
    show (if s.testBit k then 0 else mJ I d 65 k) = if s.testBit k then 0 else qF J d k
    rw [e65 k (by omega), if_pos hk]
    unfold mF qF
    rw [(ch k hk).1, (ch k hk).2.1, c97]
  have p2 : sm (fun o => if (rN (fun h => if h < H then wN (mR I h) G else 0) s 5).testBit o then mJ I d 66 o else 0) 5 = sm (fun g => if qis J s g H then qT J d g else 0) G := by
    have := sm_zero (f := fun o => if (rN (fun h => if h < H then wN (mR I h) G else 0) s 5).testBit o then mJ I d 66 o else 0) (n := G) (5 - G) (fun k k1 k2 => by
      show (if (rN (fun h => if h < H then wN (mR I h) G else 0) s 5).testBit k then mJ I d 66 k else 0) = 0
      rw [e66 k (by omega), if_neg (show ¬ k < G by omega)]; split <;> rfl)
    rw [show G + (5 - G) = 5 by omega] at this
    rw [this]
    refine sm_ext G (fun k hk => ?_)
    show (if (rN (fun h => if h < H then wN (mR I h) G else 0) s 5).testBit k then mJ I d 66 k else 0) = if qis J s k H then qT J d k else 0
    have iff : (rN (fun h => if h < H then wN (mR I h) G else 0) s 5).testBit k = true ↔ qis J s k H = true := by
      rw [rN_tb, qis_i]
      constructor
      · rintro ⟨h, h1, h2, h3⟩
        by_cases z : h < H
        · rw [if_pos z, wN_tb, decide_eq_true hk, Bool.true_and] at h3
          exact ⟨h, z, h2, by rw [cr h k z hk]; exact h3⟩
        · rw [if_neg z, Nat.zero_testBit] at h3; exact absurd h3 (by decide)
      · rintro ⟨h, h1, h2, h3⟩
        refine ⟨h, by omega, h2, ?_⟩
        rw [if_pos h1, wN_tb, decide_eq_true hk, Bool.true_and, ← cr h k h1 hk]
        exact h3
    have eT : mJ I d 66 k = qT J d k := by
      rw [e66 k (by omega), if_pos hk]
      unfold mT qT
      rw [(cg k hk).1, (cg k hk).2.1, (cg k hk).2.2.1]
    by_cases z : qis J s k H = true
    · rw [if_pos (iff.mpr z), if_pos z, eT]
    · rw [if_neg (fun y => z (iff.mp y)), if_neg z]
  rw [p1, p2]
theorem sm_bb {f : Nat → Int32} : ∀ n : Nat, n ≤ 5 → (∀ h, h < n → 0 ≤ (f h).toInt ∧ (f h).toInt ≤ 120000000) → 0 ≤ (sm f n).toInt ∧ (sm f n).toInt ≤ 120000000 * n := by
  intro n
  induction n with
  | zero => intro _ _; show 0 ≤ (0 : Int32).toInt ∧ (0 : Int32).toInt ≤ 120000000 * ((0 : Nat) : Int); decide
  | succ n ih =>
    intro h5 h
    have q := ih (by omega) (fun k hk => h k (by omega))
    have r := h n (by omega)
    rw [sm, i_add (by omega) (by omega)]
    omega
theorem mo_nn {H G n s : Nat} {d : Int32} (c : mcp I J H G n) (hd : 0 ≤ d.toInt ∧ d.toInt ≤ 99) : 0 ≤ (qs2 J d s H G).toInt := by
  obtain ⟨⟨h5, h4, h6⟩, ⟨a1, a2⟩, ch, ⟨c97, w0, w4⟩, cr, cg⟩ := c
  have g1 := sm_bb (f := fun h => if s.testBit h then 0 else qF J d h) H h5 (fun h hh => by
    show 0 ≤ (if s.testBit h then 0 else qF J d h).toInt ∧ (if s.testBit h then 0 else qF J d h).toInt ≤ 120000000
    obtain ⟨x1, x2, x3, x4, x5, x6⟩ := ch h hh
    split
    · decide
    · unfold qF
      rw [iMin_i, x1, x2, c97]
      have m1 := mul_b (a := (I 9 h).toInt) (b := (I 4 6).toInt) (A := 40) (B := 40) (by omega) x6 w0 w4
      have q1 : (I 9 h * I 4 6).toInt = (I 9 h).toInt * (I 4 6).toInt := i_mul (by omega) (by omega)
      have m2 := mul_b (a := (I 9 h).toInt * (I 4 6).toInt) (b := d.toInt) (A := 1600) (B := 99) m1.1 (by omega) hd.1 hd.2
      rw [i_mul (by rw [q1]; omega) (by rw [q1]; omega), q1]
      omega)
  have g2 := sm_bb (f := fun g => if qis J s g H then qT J d g else 0) G (by omega) (fun g hg => by
    show 0 ≤ (if qis J s g H then qT J d g else 0).toInt ∧ (if qis J s g H then qT J d g else 0).toInt ≤ 120000000
    obtain ⟨x1, x2, x3, x4, x5, x6, x7, x8⟩ := cg g hg
    split
    · unfold qT
      rw [iMin_i, x1, x2, x3, i_sub (by omega) (by omega)]
      have m2 := mul_b (a := (I 14 g).toInt) (b := d.toInt) (A := 999) (B := 99) x4 x5 hd.1 hd.2
      rw [i_mul (by omega) (by omega)]
      omega
    · decide)
  rw [qs2_s]
  unfold qs1
  rw [i_add (by omega) (by omega)]
  omega
theorem qbe_m {d : Int32} {H G : Nat} (hV : ∀ s, 0 ≤ (qs2 J d s H G).toInt) : ∀ n, (∀ s, s < n + 1 → (qbe J d H G (n + 1)).toInt ≤ (qs2 J d s H G).toInt) ∧ ∃ s, s < n + 1 ∧ qbe J d H G (n + 1) = qs2 J d s H G := by
  intro n
  induction n with
  | zero =>
    have e : qbe J d H G 1 = qs2 J d 0 H G := by rw [qbe]; exact if_pos rfl
    exact ⟨fun s hs => by rw [e, show s = 0 by omega]; exact Int.le_refl _, 0, by omega, e⟩
  | succ n ih =>
    obtain ⟨i1, s0, i2, i3⟩ := ih
    have nz : ¬ qbe J d H G (n + 1) = -1 := by
      intro z
      have := hV s0
      rw [← i3, z] at this
      exact absurd this (by decide)
    have e : qbe J d H G (n + 1 + 1) = iMin (qbe J d H G (n + 1)) (qs2 J d (n + 1) H G) := by rw [qbe]; exact if_neg nz
    refine ⟨fun s hs => ?_, ?_⟩
    · rw [e, iMin_i]
      by_cases z : s = n + 1
      · rw [z]; omega
      · have := i1 s (by omega); omega
    · rw [e]
      unfold iMin
      split
      · exact ⟨n + 1, by omega, rfl⟩
      · exact ⟨s0, by omega, i3⟩
theorem qs2_mod {d : Int32} {s H G : Nat} : qs2 J d (s % 2 ^ H) H G = qs2 J d s H G := by
  have tb : ∀ h, h < H → (s % 2 ^ H).testBit h = s.testBit h := fun h hh => by rw [Nat.testBit_mod_two_pow, decide_eq_true hh, Bool.true_and]
  rw [qs2_s, qs2_s]
  unfold qs1
  rw [sm_ext (f := fun h => if (s % 2 ^ H).testBit h then 0 else qF J d h) (g := fun h => if s.testBit h then 0 else qF J d h) H (fun k hk => by
    show (if (s % 2 ^ H).testBit k then 0 else qF J d k) = if s.testBit k then 0 else qF J d k
    rw [tb k hk])]
  rw [sm_ext (f := fun g => if qis J (s % 2 ^ H) g H then qT J d g else 0) (g := fun g => if qis J s g H then qT J d g else 0) G (fun k hk => by
    show (if qis J (s % 2 ^ H) k H then qT J d k else 0) = if qis J s k H then qT J d k else 0
    have e : qis J (s % 2 ^ H) k H = true ↔ qis J s k H = true := by
      rw [qis_i, qis_i]
      exact ⟨fun ⟨h, h1, h2, h3⟩ => ⟨h, h1, by rw [← tb h h1]; exact h2, h3⟩, fun ⟨h, h1, h2, h3⟩ => ⟨h, h1, by rw [tb h h1]; exact h2, h3⟩⟩
    by_cases z : qis J s k H = true
    · rw [if_pos (e.mpr z), if_pos z]
    · rw [if_neg (fun y => z (e.mp y)), if_neg z])]
/-- the most of both -/
theorem mo_eq {H G n : Nat} {d : Int32} (c : mcp I J H G n) (hd : 0 ≤ d.toInt ∧ d.toInt ≤ 99) : qbe J d H G (2 ^ H) = grt (mJ I d) := by
  have h5 := c.1.1
  have hp : 2 ^ H ≤ 2 ^ 5 := Nat.pow_le_pow_right (by decide) h5
  have h0 : 0 < 2 ^ H := Nat.two_pow_pos H
  obtain ⟨m, hm⟩ : ∃ m, 2 ^ H = m + 1 := ⟨2 ^ H - 1, by omega⟩
  obtain ⟨q1, s0, q2, q3⟩ := qbe_m (J := J) (d := d) (H := H) (G := G) (fun s => mo_nn c hd) m
  apply Int32.toInt_inj.mp
  unfold grt
  obtain ⟨s1, l1, l2⟩ := lst_ex (f := fun s => cut (mJ I d 65) (mJ I d 66) (mJ I d 67) (nI s)) 31
  have l3 := lst_le (f := fun s => cut (mJ I d 65) (mJ I d 66) (mJ I d 67) (nI s)) 31 s0 (by omega)
  have l3 : (lst (fun s => cut (mJ I d 65) (mJ I d 66) (mJ I d 67) (nI s)) 31).toInt ≤ (cut (mJ I d 65) (mJ I d 66) (mJ I d 67) (nI s0)).toInt := l3
  have l2 : (lst (fun s => cut (mJ I d 65) (mJ I d 66) (mJ I d 67) (nI s)) 31).toInt = (cut (mJ I d 65) (mJ I d 66) (mJ I d 67) (nI s1)).toInt := l2
  rw [mo_cut c (by omega)] at l2 l3
  have q4 := q1 (s1 % 2 ^ H) (by rw [← hm]; exact Nat.mod_lt _ h0)
  rw [qs2_mod] at q4
  rw [hm]
  have : (qbe J d H G (m + 1)).toInt = (qs2 J d s0 H G).toInt := by rw [q3]
  omega
end
