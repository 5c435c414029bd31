/-! steps: shift -/
section
variable {sc : Sc} {I J : Is} {L K : Ls} {tg : Nat}
theorem i_div {a b : Int32} (h0 : 0 ≤ a.toInt) (h1 : 0 < b.toInt) : (a / b).toInt = a.toInt / b.toInt := by
  rw [Int32.toInt_div_of_ne_right a b (fun z => by rw [z] at h1; exact absurd h1 (by decide)), Int.tdiv_eq_ediv_of_nonneg h0]
theorem sm_b {f : Nat → Int32} : ∀ n : Nat, n ≤ 5 → (∀ h, h < n → 0 ≤ (f h).toInt ∧ (f h).toInt ≤ 40) → 0 ≤ (sm f n).toInt ∧ (sm f n).toInt ≤ 40 * n := by
  intro n
  induction n with
  | zero => intro _ _; show 0 ≤ (0 : Int32).toInt ∧ (0 : Int32).toInt ≤ 40 * ((0 : Nat) : Int); decide
  | succ n ih =>
    intro h5 h
    have q := ih (by omega) (fun k hk => h k (by omega))
    have r := h n (by omega)
    rw [sm, i_add (by omega) (by omega)]
    omega
theorem mul_b {a b : Int} {A B : Int} (h0 : 0 ≤ a) (h1 : a ≤ A) (h2 : 0 ≤ b) (h3 : b ≤ B) : 0 ≤ a * b ∧ a * b ≤ A * B := ⟨Int.mul_nonneg h0 h2, Int.mul_le_mul h1 h3 h2 (by omega)⟩
theorem bAll_b (h : iC I) : 0 ≤ (bAll I).toInt ∧ (bAll I).toInt ≤ 4000 := by
  obtain ⟨H, G, K, ⟨h5, _⟩, ⟨a1, _⟩, _, ⟨_, _, _, c1, c2, c3, c4⟩, _, _, d, _⟩ := cm_x h
  unfold bAll
  rw [a1, show nN (nI H) = H from nI_clamp (by omega)]
  obtain ⟨s1, s2⟩ := sm_b (f := I 9) H h5 (fun k hk => by have := d k hk; omega)
  have m1 : (iMax 0 (I 4 12 - I 4 13)).toInt = max 0 ((I 4 12).toInt - (I 4 13).toInt) := by
    rw [iMax_i, i_sub (by omega) (by omega)]; rfl
  have q := mul_b (a := (sm (I 9) H).toInt) (b := (iMax 0 (I 4 12 - I 4 13)).toInt) (A := 200) (B := 20) s1 (by omega) (by omega) (by omega)
  rw [i_mul (by omega) (by omega)]
  omega
theorem tb_99 : ∀ i, i < 9 → 0 ≤ (ol3.getD (18 + 3 * i) 0).toInt ∧ (ol4.getD (18 + 3 * i) 0).toInt ≤ 999 := by decide +kernel
/-- what is dug -/
theorem dg_b {n t : Nat} {m : Int32} (h : Inv n I L) (hn : n ≤ 600) (ht : t < nN (I 36 8)) (hm : 1 ≤ m.toInt ∧ m.toInt ≤ 99) : (0 ≤ (dgA I t m).toInt ∧ (dgA I t m).toInt ≤ 9810) ∧ (0 ≤ (dgD I t m).toInt ∧ (dgD I t m).toInt ≤ 981) ∧ (0 ≤ (I 36 9 + dgD I t m * I 4 8).toInt ∧ (I 36 9 + dgD I t m * I 4 8).toInt ≤ (bAll I).toInt) ∧ (0 ≤ (dgD I t m * I 4 5).toInt ∧ (dgD I t m * I 4 5).toInt ≤ 100000) ∧ 0 ≤ (dgA I t m - dgA I t m / 10 * 10).toInt ∧ (dgA I t m - dgA I t m / 10 * 10).toInt ≤ 9 := by
  obtain ⟨⟨⟨T, t1, t2, t3⟩, ⟨u1, u2⟩, _, _⟩, _⟩ := h.2.2.2.1
  have nT : nN (I 36 8) = T := by rw [t2]; exact nI_clamp (by omega)
  obtain ⟨_, _, f1, f2, e1, e2⟩ := t3 t (by omega)
  have f1 : 0 ≤ (I 38 t).toInt := f1
  have f2 : (I 38 t).toInt ≤ 2000 * n := f2
  have e1 : 0 ≤ (I 39 t).toInt := e1
  have e2 : (I 39 t).toInt ≤ 9 := e2
  obtain ⟨p1, p2, p3, p4, p5, p6⟩ := air_p h.2.2.1
  obtain ⟨b1, b2⟩ := bAll_b h.2.2.1
  obtain ⟨_, _, _, _, _, _, _, s, _⟩ := cm_x h.2.2.1
  have s5 := s 5 (by decide)
  have s2 := s 2 (by decide)
  have w5 := tb_99 5 (by decide)
  have w2 : 0 ≤ (ol3.getD (18 + 3 * 2) 0).toInt ∧ (ol4.getD (18 + 3 * 2) 0).toInt ≤ 99 := by decide
  have g1 : 0 ≤ (I 4 8).toInt := by have : (ol3.getD (18 + 3 * 5) 0).toInt ≤ (I 4 8).toInt := s5.2.1; omega
  have g2 : (I 4 8).toInt ≤ 999 := by have : (I 4 8).toInt ≤ (ol4.getD (18 + 3 * 5) 0).toInt := s5.2.2; omega
  have g3 : 0 ≤ (I 4 5).toInt := by have : (ol3.getD (18 + 3 * 2) 0).toInt ≤ (I 4 5).toInt := s2.2.1; omega
  have g4 : (I 4 5).toInt ≤ 99 := by have : (I 4 5).toInt ≤ (ol4.getD (18 + 3 * 2) 0).toInt := s2.2.2; omega
  have pm : pmp (I 4 9) (I 38 t) = I 38 t / I 4 9 := by
    unfold pmp
    rw [if_neg (show ¬ I 4 9 ≤ 0 from by rw [i_le]; simp only [Int32.reduceToInt]; omega)]
  have pd : (I 38 t / I 4 9).toInt = (I 38 t).toInt / (I 4 9).toInt := i_div f1 (by omega)
  have pb : 0 ≤ (I 38 t).toInt / (I 4 9).toInt ∧ (I 38 t).toInt / (I 4 9).toInt ≤ (I 38 t).toInt := ⟨Int.ediv_nonneg f1 (by omega), Int.ediv_le_self _ f1⟩
  have tg1 : (tdg (I 4 9) (I 4 10) (I 38 t) m).toInt = max 0 (m.toInt - (I 38 t).toInt / (I 4 9).toInt) * (I 4 10).toInt ∧ 0 ≤ (tdg (I 4 9) (I 4 10) (I 38 t) m).toInt ∧ (tdg (I 4 9) (I 4 10) (I 38 t) m).toInt ≤ 99 * 99 := by
    unfold tdg
    rw [pm]
    have e : (iMax 0 (m - I 38 t / I 4 9)).toInt = max 0 (m.toInt - (I 38 t).toInt / (I 4 9).toInt) := by
      rw [iMax_i, i_sub (by omega) (by omega), pd]; rfl
    have q := mul_b (a := max 0 (m.toInt - (I 38 t).toInt / (I 4 9).toInt)) (b := (I 4 10).toInt) (A := 99) (B := 99) (by omega) (by omega) p5 p6
    rw [i_mul (by rw [e]; omega) (by rw [e]; omega), e]
    exact ⟨rfl, q.1, q.2⟩
  have hA : 0 ≤ (dgA I t m).toInt ∧ (dgA I t m).toInt ≤ 9810 := by
    unfold dgA
    rw [i_add (by omega) (by omega)]
    omega
  have h10 : (dgA I t m / 10).toInt = (dgA I t m).toInt / 10 := i_div hA.1 (by decide)
  have hD : (0 ≤ (dgD I t m).toInt ∧ (dgD I t m).toInt ≤ 981) ∧ 0 ≤ (dgD I t m).toInt * (I 4 8).toInt ∧ (dgD I t m).toInt * (I 4 8).toInt ≤ (bAll I).toInt - (I 36 9).toInt := by
    unfold dgD bdd
    by_cases z : I 4 8 ≤ 0
    · have z' : (I 4 8).toInt = 0 := by rw [i_le] at z; simp only [Int32.reduceToInt] at z; omega
      rw [if_pos z, z', h10, Int.mul_zero]
      omega
    · have z' : 0 < (I 4 8).toInt := by rw [i_le] at z; simp only [Int32.reduceToInt] at z; omega
      rw [if_neg z, iMin_i, h10]
      have ld : ((bAll I - I 36 9) / I 4 8).toInt = ((bAll I).toInt - (I 36 9).toInt) / (I 4 8).toInt := by
        rw [i_div (by rw [i_sub (by omega) (by omega)]; omega) z', i_sub (by omega) (by omega)]
      rw [ld]
      have l0 : 0 ≤ ((bAll I).toInt - (I 36 9).toInt) / (I 4 8).toInt := Int.ediv_nonneg (by omega) (by omega)
      refine ⟨by omega, Int.mul_nonneg (by omega) g1, ?_⟩
      have l1 : ((bAll I).toInt - (I 36 9).toInt) / (I 4 8).toInt * (I 4 8).toInt ≤ (bAll I).toInt - (I 36 9).toInt := Int.ediv_mul_le _ (by omega)
      have l2 : min ((dgA I t m).toInt / 10) (((bAll I).toInt - (I 36 9).toInt) / (I 4 8).toInt) * (I 4 8).toInt ≤ ((bAll I).toInt - (I 36 9).toInt) / (I 4 8).toInt * (I 4 8).toInt := Int.mul_le_mul_of_nonneg_right (by omega) g1
      omega
  obtain ⟨hD1, hD2, hD3⟩ := hD
  have q8 : (dgD I t m * I 4 8).toInt = (dgD I t m).toInt * (I 4 8).toInt := i_mul (by omega) (by omega)
  have q5 := mul_b (a := (dgD I t m).toInt) (b := (I 4 5).toInt) (A := 981) (B := 99) hD1.1 hD1.2 g3 g4
  refine ⟨hA, hD1, ?_, ?_, ?_⟩
  · rw [i_add (by rw [q8]; omega) (by rw [q8]; omega), q8]; omega
  · rw [i_mul (by omega) (by omega)]; omega
  · rw [rem10 hA.1]; omega
theorem dgI_n {t q : Nat} {m : Int32} {f : Bool} (h : q ≠ 36 ∧ q ≠ 38 ∧ q ≠ 39 ∧ q ≠ 40 ∧ q ≠ 41 ∧ q ≠ 42) : dgI I L t m f q = I q := by
  obtain ⟨h1, h2, h3, h4, h5, h6⟩ := h
  unfold dgI dg0
  cases f <;> simp [up_eq, h1, h2, h3, h4, h5, h6]
theorem mgI_n {t q : Nat} {m : Int32} {f : Bool} (h : q ≠ 95 ∧ q ≠ 121 ∧ q ≠ 122 ∧ q ≠ 123 ∧ q ≠ 124 ∧ q ≠ 125) : mgI I t m f q = I q := by
  obtain ⟨h1, h2, h3, h4, h5, h6⟩ := h
  unfold mgI shW mg1 mg0
  cases f <;> simp [up_eq, h1, h2, h3, h4, h5, h6]
theorem st_shift {n : Nat} {a m : Int32} (h : Inv n I L) (hn : n ≤ 600) : Bth sc mX11_shift mX12_shift 5 2 [.int a, .int m] n I L tg := by
  obtain ⟨H, G, K, ⟨h5, _⟩, ⟨a1, _⟩, ⟨b1, _⟩, ⟨_, _, _, _⟩, s, _⟩ := cm_x h.2.2.1
  obtain ⟨⟨⟨T, t1, t2, t3⟩, u, sd, hd⟩, d, s0, s1⟩ := id h.2.2.2.1
  have t2' : I 95 48 = nI T := by rw [← d.1]; exact t2
  have iT : (nI T).toInt = T := nI_toInt (by omega)
  have iH : (nI H).toInt = H := nI_toInt (by omega)
  obtain ⟨p1, p2, p3, p4, p5, p6⟩ := air_p h.2.2.1
  have s2 : I 97 2 = I 4 5 := (s 2 (by decide)).1
  have s5 : I 97 5 = I 4 8 := (s 5 (by decide)).1
  have s8 : I 97 8 = I 4 11 := (s 8 (by decide)).1
  by_cases hc : (0 ≤ a.toInt ∧ a.toInt < (nI T).toInt) ∧ 1 ≤ m.toInt ∧ m.toInt ≤ 99
  · obtain ⟨x, x1, x2, x3, x4⟩ := n_of hc.1.1 hc.1.2 (by omega)
    obtain ⟨r1, r2, r3, r4, r5, r6⟩ := t3 x x4
    have r1 : 0 ≤ (I 37 x).toInt := r1
    have r2 : (I 37 x).toInt < (I 3 14).toInt := r2
    have r3 : 0 ≤ (I 38 x).toInt := r3
    have r4 : (I 38 x).toInt ≤ 2000 * n := r4
    rw [a1] at r2
    obtain ⟨hu, u1, u2, u3, u4⟩ := n_of r1 r2 (by omega)
    obtain ⟨y1, y2, y3, y4, y5⟩ := d.2.2.1 x (by omega)
    obtain ⟨gA, gD, gU, gS, gT⟩ := dg_b (t := x) (m := m) h hn (by rw [t2]; have : nN (nI T) = T := nI_clamp (by omega); omega) hc.2
    obtain ⟨f, hf⟩ : ∃ f : Bool, f = true ↔ dgF I L := ⟨@decide (dgF I L) (Classical.propDecidable _), @decide_eq_true_iff (dgF I L) (Classical.propDecidable _)⟩
    have jn : ∀ q, q ≠ 36 ∧ q ≠ 38 ∧ q ≠ 39 ∧ q ≠ 40 ∧ q ≠ 41 ∧ q ≠ 42 → dgI I L x m f q = I q := fun q hq => dgI_n hq
    have lK : dgL I L 95 47 = L 44 0 := by unfold dgL; split <;> simp [up_eq, d.2.2.2.2.2]
    have hf2 : f = true ↔ mgF (dgI I L x m f) (dgL I L) := by
      rw [hf]; unfold mgF dgF; rw [jn 97 (by decide), lK, s8]
    have eA : mdA (dgI I L x m f) x m = dgA I x m := by
      unfold mdA dgA tdg pmp
      rw [jn 122 (by decide), jn 121 (by decide), jn 97 (by decide), p1, p4, y2, y3, if_neg (show ¬ I 4 9 ≤ 0 from by rw [i_le]; simp only [Int32.reduceToInt]; omega)]
    have eB : bMd (dgI I L x m f) = bAll I - I 36 9 := by
      rw [← b_eq h]
      unfold bMd bMl
      rw [jn 104 (by decide), jn 95 (by decide)]
    have eD : mdD (dgI I L x m f) x m = dgD I x m := by
      unfold mdD dgD bdd
      rw [eA, eB, jn 97 (by decide), s5]
    refine Run_r (k_X11_shift_y (tn := x) (hn := hu) (f := f) (by rw [t2]; exact hc.1) hc.2 (by rw [a1]; omega) (by rw [a1]; omega) x1 (by omega) u1 (by omega) hf) (Run_r (k_X12_shift_y (tn := x) (hn := hu) (f := f) (by unfold shC; rw [jn 95 (by decide), t2']; exact hc) hf2 x1 (by omega) (by rw [jn 120 (by decide), ← y1]; exact u1) (by omega) (by rw [jn 95 (by decide), b1]; omega) (by rw [jn 95 (by decide), b1]; omega) (by rw [jn 97 (by decide)]; exact air_nz h.2.2.1)) ⟨?_, ?_⟩)
    · have e1 : mgI (dgI I L x m f) x m f 121 = if f then I 121 else va_up (I 121) x (I 121 x + dgD I x m) := by
        unfold mgI shW
        rw [eD]
        cases f <;> simp [mg1, mg0, up_eq, jn 121 (by decide)]
      have e2 : dgI I L x m f 38 = if f then I 38 else va_up (I 38) x (I 38 x + dgD I x m) := by
        unfold dgI
        cases f <;> simp [dg0, up_eq]
      rw [e1, e2]
      cases f
      · simp only [Bool.false_eq_true, if_false, vu_s]; rw [y2]
      · simp only [if_true]; exact y2.symm
    · have mn : ∀ q, q ≠ 95 ∧ q ≠ 121 ∧ q ≠ 122 ∧ q ≠ 123 ∧ q ≠ 124 ∧ q ≠ 125 → mgI (dgI I L x m f) x m f q = dgI I L x m f q := fun q hq => mgI_n hq
      have q36 : ∀ k, k ≠ 9 → mgI (dgI I L x m f) x m f 36 k = I 36 k := fun k hk => by
        rw [mn 36 (by decide)]; unfold dgI dg0; cases f <;> simp [up_eq, vu_eq, hk]
      have q369 : mgI (dgI I L x m f) x m f 36 9 = I 36 9 + dgD I x m * I 4 8 := by
        rw [mn 36 (by decide)]; unfold dgI dg0; cases f <;> simp [up_eq, vu_eq]
      have q38 : mgI (dgI I L x m f) x m f 38 = if f then I 38 else va_up (I 38) x (I 38 x + dgD I x m) := by
        rw [mn 38 (by decide)]; unfold dgI dg0; cases f <;> simp [up_eq]
      have q39 : mgI (dgI I L x m f) x m f 39 = va_up (I 39) x (dgA I x m - dgA I x m / 10 * 10) := by
        rw [mn 39 (by decide)]; unfold dgI dg0; cases f <;> simp [up_eq]
      have q40 : mgI (dgI I L x m f) x m f 40 = va_up (I 40) x (I 40 x + 1) := by
        rw [mn 40 (by decide)]; unfold dgI dg0; cases f <;> simp [up_eq]
      have q41 : mgI (dgI I L x m f) x m f 41 = if f then va_up (I 41) x (I 41 x + 1) else I 41 := by
        rw [mn 41 (by decide)]; unfold dgI dg0; cases f <;> simp [up_eq]
      have q42 : mgI (dgI I L x m f) x m f 42 = va_up (I 42) hu (I 42 hu + dgD I x m * I 4 5) := by
        rw [mn 42 (by decide)]; unfold dgI dg0; rw [u2]; cases f <;> simp [up_eq]
      have hx : (dgI I L x m f 120 x).toNatClampNeg = hu := by rw [jn 120 (by decide), ← y1]; exact u2
      have m95 : ∀ k, k ≠ 49 → mgI (dgI I L x m f) x m f 95 k = I 95 k := fun k hk => by
        rw [← jn 95 (by decide)]; unfold mgI shW mg1 mg0; cases f <;> simp [up_eq, vu_eq, hk]
      have m49 : mgI (dgI I L x m f) x m f 95 49 = I 95 49 + dgD I x m * I 97 5 := by
        unfold mgI shW mg1 mg0
        rw [eD]
        cases f <;> simp [up_eq, vu_eq, jn 95 (by decide), jn 97 (by decide)]
      have m121 : mgI (dgI I L x m f) x m f 121 = if f then I 121 else va_up (I 121) x (I 121 x + dgD I x m) := by
        unfold mgI shW
        rw [eD]
        cases f <;> simp [mg1, mg0, up_eq, jn 121 (by decide)]
      have m122 : mgI (dgI I L x m f) x m f 122 = va_up (I 122) x (dgA I x m - dgA I x m / 10 * 10) := by
        unfold mgI shW mg1 mg0
        rw [eA]
        cases f <;> simp [up_eq, jn 122 (by decide)]
      have m123 : mgI (dgI I L x m f) x m f 123 = va_up (I 123) x (I 123 x + 1) := by
        unfold mgI shW mg1 mg0
        cases f <;> simp [up_eq, jn 123 (by decide)]
      have m124 : mgI (dgI I L x m f) x m f 124 = if f then va_up (I 124) x (I 124 x + 1) else I 124 := by
        unfold mgI shW mg1 mg0
        cases f <;> simp [up_eq, jn 124 (by decide)]
      have m125 : mgI (dgI I L x m f) x m f 125 = va_up (I 125) hu (I 125 hu + dgD I x m * I 97 2) := by
        unfold mgI shW mg1 mg0
        rw [eD]
        cases f <;> simp [up_eq, jn 125 (by decide), jn 97 (by decide), hx]
      have mr : ∀ q, ¬ (q = 36 ∨ (38 ≤ q ∧ q ≤ 42)) → ¬ (q = 95 ∨ (121 ≤ q ∧ q ≤ 125)) → mgI (dgI I L x m f) x m f q = I q := fun q z1 z2 => by rw [mn q (by omega), jn q (by omega)]
      generalize mgI (dgI I L x m f) x m f = Q at *
      have r : ∀ q, 3 ≤ q ∧ q ≤ 17 → Q q = I q := fun q hq => mr q (by omega) (by omega)
      have lQ : mgL (dgI I L x m f) (dgL I L) = if 0 < I 4 11 then up (up L 44 0 (dnx (L 44 0))) 95 47 (dnx (L 44 0)) else L := by
        unfold mgL
        rw [lK, jn 97 (by decide), s8]
        unfold dgL
        split <;> rfl
      rw [lQ]
      refine Inv_d (Nat.le_succ n) h (fun q z1 z2 => mr q (by omega) (by unfold scr at z1; omega)) (fun k hk => by rw [mr 33 (by omega) (by omega)]) (fun k z1 z2 => m95 k (by omega)) (by split <;> simp [up_eq]) ⟨⟨⟨T, t1, by rw [q36 8 (by decide)]; exact t2, fun t ht => ?_⟩, ?_, fun k hk => ?_, fun g hg => ?_⟩, ⟨by rw [q36 8 (by decide), m95 48 (by decide)]; exact d.1, by rw [q369, m49, s5, d.2.1], fun t ht => ?_, ?_, ?_, ?_⟩, slE_c (Nat.le_succ n) s0 r (fun k => by rw [mr 46 (by omega) (by omega)]) (fun q hq => mr q (by omega) (by omega)) (mr _ (by omega) (by omega)) (mr _ (by omega) (by omega)) (by split <;> simp [up_eq]) (by split <;> simp [up_eq]), slE_c (Nat.le_succ n) s1 r (fun k => by rw [mr 55 (by omega) (by omega)]) (fun q hq => mr q (by omega) (by omega)) (mr _ (by omega) (by omega)) (mr _ (by omega) (by omega)) (by split <;> simp [up_eq]) (by split <;> simp [up_eq])⟩
      · show 0 ≤ (Q 37 t).toInt ∧ (Q 37 t).toInt < (Q 3 14).toInt ∧ 0 ≤ (Q 38 t).toInt ∧ (Q 38 t).toInt ≤ 2000 * ((n + 1 : Nat) : Int) ∧ 0 ≤ (Q 39 t).toInt ∧ (Q 39 t).toInt ≤ 9
        have e : 0 ≤ (I 37 t).toInt ∧ (I 37 t).toInt < (I 3 14).toInt ∧ 0 ≤ (I 38 t).toInt ∧ (I 38 t).toInt ≤ 2000 * n ∧ 0 ≤ (I 39 t).toInt ∧ (I 39 t).toInt ≤ 9 := t3 t ht
        rw [mr 37 (by omega) (by omega), r 3 (by omega), q38, q39]
        by_cases z : t = x
        · have ea : (I 38 x + dgD I x m).toInt = (I 38 x).toInt + (dgD I x m).toInt := i_add (by omega) (by omega)
          rw [z] at e ⊢
          rw [vu_s]
          cases f
          · simp only [Bool.false_eq_true, if_false, vu_s]; omega
          · simp only [if_true]; omega
        · rw [vu_n _ _ z]
          cases f
          · simp only [Bool.false_eq_true, if_false, vu_n _ _ z]; omega
          · simp only [if_true]; omega
      · rw [q369, bAll_c r]; exact gU
      · show 0 ≤ (Q 42 k).toInt ∧ (Q 42 k).toInt ≤ 200000 * ((n + 1 : Nat) : Int)
        have e : 0 ≤ (I 42 k).toInt ∧ (I 42 k).toInt ≤ 200000 * n := sd k hk
        rw [q42]
        by_cases z : k = hu
        · have ea : (I 42 hu + dgD I x m * I 4 5).toInt = (I 42 hu).toInt + (dgD I x m * I 4 5).toInt := i_add (by rw [z] at e; omega) (by rw [z] at e; omega)
          rw [z] at e ⊢
          rw [vu_s]; omega
        · rw [vu_n _ _ z]; omega
      · show 0 ≤ (Q 43 g).toInt ∧ (g < nN (Q 3 15) → (Q 43 g).toInt ≤ (Q 15 g).toInt)
        rw [mr 43 (by omega) (by omega), r 3 (by omega), r 15 (by omega)]
        exact hd g hg
      · rw [mr 37 (by omega) (by omega), mr 120 (by omega) (by omega), q38, q39, q40, q41, m121, m122, m123, m124]
        obtain ⟨w1, w2, w3, w4, w5⟩ := d.2.2.1 t ht
        by_cases z : t = x
        · rw [z] at w1 w2 w3 w4 w5 ⊢
          simp only [vu_s]
          cases f
          · simp only [Bool.false_eq_true, if_false, vu_s]; rw [w2, w4]; exact ⟨w1, rfl, trivial, rfl, w5⟩
          · simp only [if_true, vu_s]; rw [w4, w5]; exact ⟨w1, w2, trivial, rfl, rfl⟩
        · simp only [vu_n _ _ z]
          cases f
          · simp only [Bool.false_eq_true, if_false, vu_n _ _ z]; exact ⟨w1, w2, w3, w4, w5⟩
          · simp only [if_true, vu_n _ _ z]; exact ⟨w1, w2, w3, w4, w5⟩
      · intro k hk
        rw [q42, m125, s2]
        by_cases z : k = hu
        · rw [z, vu_s, vu_s, d.2.2.2.1 hu (by omega)]
        · rw [vu_n _ _ z, vu_n _ _ z]; exact d.2.2.2.1 k hk
      · rw [mr 43 (by omega) (by omega), mr 126 (by omega) (by omega)]; exact d.2.2.2.2.1
      · split
        · simp [up_eq, vu_eq]
        · exact d.2.2.2.2.2
  · exact Bth_p h (k_X11_shift_r (by rw [t2]; exact hc)) (k_X12_shift_r (by unfold shC; rw [t2']; exact hc)) rfl
end
