/-! steps: gone, drift, tunnel, open, morning, needed .. -/
section
variable {sc : Sc} {I J : Is} {L K : Ls} {tg : Nat}
/-- gone -/
theorem st_gone {n : Nat} {a b : Int32} (h : Inv n I L) : Bth sc mX11_gone mX12_gone 1 2 [.int a, .int b] n I L tg := by
  obtain ⟨H, G, K, ⟨h5, _⟩, ⟨a1, _⟩, ⟨b1, _⟩, _, _, _, d, _⟩ := cm_x h.2.2.1
  have iH : (nI H).toInt = H := nI_toInt (by omega)
  by_cases hc : 0 ≤ a.toInt ∧ a.toInt < (nI H).toInt
  · obtain ⟨x, x1, x2, x3, x4⟩ := n_of hc.1 hc.2 (by omega)
    obtain ⟨_, _, g3, _⟩ := d x x4
    by_cases hn : 0 ≤ b.toInt ∧ b.toInt ≤ (I 9 x).toInt
    · have hm : goM (up I 69 x b) a b := by
        unfold goM
        rw [up_n _ _ _ (by decide), up_n _ _ _ (by decide), b1, x2, g3]
        exact ⟨hc, hn⟩
      obtain ⟨w1, w2⟩ := h.2.2.2.2.1
      have nh : nN (I 3 14) = H := by rw [a1]; exact nI_clamp (by omega)
      obtain ⟨q1, q2, q3⟩ := w1 x (by omega)
      refine Run_r (k_X11_gone_y (by omega) x1 (by rw [a1]; exact ⟨hc, hn⟩)) (Run_r (k_X12_gone_y (hn := x) hm x1 (by omega)) ⟨?_, ?_⟩)
      · rw [up_n _ _ _ (by decide)]; exact q1.symm
      · refine Inv_g (Nat.le_succ n) h (fun a z1 z2 => ?_) (fun k hk => ?_) (fun k z1 => ?_) keL_r ⟨fun k hk => ?_, fun k h1 h2 => ?_⟩
        · rw [up_n _ _ _ (by omega), up_n _ _ _ (by omega)]
        · rw [up_n _ _ _ (by decide), up_n _ _ _ (by decide)]
        · rw [up_n _ _ _ (by decide), up_n _ _ _ (by decide)]
        · rw [up_n _ _ _ (show 69 ≠ 130 by decide), up_s, up_s, up_n _ _ _ (show 130 ≠ 69 by decide), up_n _ _ _ (show 9 ≠ 130 by decide), up_n _ _ _ (show 9 ≠ 69 by decide)]
          rw [up_n _ _ _ (show 3 ≠ 130 by decide), up_n _ _ _ (show 3 ≠ 69 by decide)] at hk
          by_cases z : k = x
          · rw [z, vu_s, vu_s]; exact ⟨rfl, hn⟩
          · rw [vu_n _ _ z, vu_n _ _ z]; exact w1 k hk
        · rw [up_n _ _ _ (show 3 ≠ 130 by decide), up_n _ _ _ (show 3 ≠ 69 by decide)] at h1
          rw [up_n _ _ _ (show 69 ≠ 130 by decide), up_s, vu_n _ _ (by omega)]
          exact w2 k h1 h2
    · refine Bth_p h (k_X11_gone_r (hn := x) (by rw [a1]; omega) (fun _ _ => x1) (by rw [a1]; exact fun z => hn z.2)) (k_X12_gone_r (fun z => hn ?_) (by rw [b1]; omega)) rfl
      unfold goM at z
      rw [x2, g3] at z
      exact z.2
  · refine Bth_p h (k_X11_gone_r (hn := 0) (by rw [a1]; omega) (fun z1 z2 => absurd ⟨z1, by rw [← a1]; exact z2⟩ hc) (by rw [a1]; exact fun z => hc z.1)) (k_X12_gone_r (fun z => hc ?_) (by rw [b1]; omega)) rfl
    unfold goM at z
    rw [b1] at z
    exact z.1
/-- drift -/
theorem st_drift {n : Nat} {x : Int32} (h : Inv n I L) : Bth sc mX11_drift mX12_drift 1 1 [.int x] n I L tg := by
  by_cases hc : 0 ≤ x.toInt ∧ x.toInt ≤ 20
  · obtain ⟨m, c, r1, r2, r3, r4, r5, r6, r7, r8, r9, r10, r11⟩ := h.2.2.2.2.2.1
    refine Run_r (k_X11_drift_y hc) (Run_r (k_X12_drift_y hc) ⟨?_, ?_⟩)
    · rw [up_n _ _ _ (by decide)]; exact r9.symm
    · have e1 : ∀ a, a ≠ 75 → a ≠ 95 → up (up I 75 11 x) 95 72 x a = I a := fun a z1 z2 => by rw [up_n _ _ _ z2, up_n _ _ _ z1]
      have e75 : ∀ k, k ≠ 11 → up (up I 75 11 x) 95 72 x 75 k = I 75 k := fun k z => by rw [up_n _ _ _ (by decide), up_s, vu_n _ _ z]
      have e95 : ∀ k, k ≠ 72 → up (up I 75 11 x) 95 72 x 95 k = I 95 k := fun k z => by rw [up_s, vu_n _ _ z, up_n _ _ _ (by decide)]
      refine Inv_r (Nat.le_succ n) h (fun a z1 z2 => e1 a (by omega) (by unfold scr at z1; omega)) (fun k hk => by rw [e1 33 (by decide) (by decide)]) (fun k z1 z2 => e95 k (by omega)) keL_r ⟨m, c, r1, r2, ?_⟩
      rw [e75 8 (by decide), e75 9 (by decide), e75 10 (by decide), e95 69 (by decide), e95 70 (by decide), e95 71 (by decide), e1 76 (by decide) (by decide), e1 77 (by decide) (by decide), e1 78 (by decide) (by decide), e1 79 (by decide) (by decide), e1 80 (by decide) (by decide), e1 81 (by decide) (by decide), e1 82 (by decide) (by decide), e1 83 (by decide) (by decide), e1 137 (by decide) (by decide), e1 138 (by decide) (by decide), e1 139 (by decide) (by decide), e1 140 (by decide) (by decide), e1 141 (by decide) (by decide), e1 142 (by decide) (by decide), e1 143 (by decide) (by decide)]
      refine ⟨r3, r4, r5, r6, r7, r8, ?_, r10, r11⟩
      rw [up_n _ _ _ (by decide), up_s, vu_s, up_s, vu_s]
  · exact Bth_p h (k_X11_drift_r hc) (k_X12_drift_r hc) rfl
/-- tunnel -/
theorem air_p (h : iC I) : I 97 6 = I 4 9 ∧ 10 ≤ (I 4 9).toInt ∧ (I 4 9).toInt ≤ 999 ∧ I 97 7 = I 4 10 ∧ 0 ≤ (I 4 10).toInt ∧ (I 4 10).toInt ≤ 99 := by
  obtain ⟨H, G, K, _, _, _, _, s, _⟩ := cm_x h
  obtain ⟨s1, s2, s3⟩ := s 6 (by decide)
  obtain ⟨s4, s5, s6⟩ := s 7 (by decide)
  have t1 : (ol3.getD (18 + 3 * 6) 0).toInt = 10 := by decide
  have t2 : (ol4.getD (18 + 3 * 6) 0).toInt ≤ 999 := by decide
  have t3 : 0 ≤ (ol3.getD (18 + 3 * 7) 0).toInt := by decide
  have t4 : (ol4.getD (18 + 3 * 7) 0).toInt ≤ 99 := by decide
  exact ⟨s1, by have s2 : (ol3.getD (18 + 3 * 6) 0).toInt ≤ (I 4 9).toInt := s2; omega, by have s3 : (I 4 9).toInt ≤ (ol4.getD (18 + 3 * 6) 0).toInt := s3; omega, s4, by have s5 : (ol3.getD (18 + 3 * 7) 0).toInt ≤ (I 4 10).toInt := s5; omega, by have s6 : (I 4 10).toInt ≤ (ol4.getD (18 + 3 * 7) 0).toInt := s6; omega⟩
theorem air_nz (h : iC I) : ¬ I 97 6 = 0 := by
  obtain ⟨a, b, _⟩ := air_p h
  rw [a]
  intro z
  rw [z] at b
  exact absurd b (by decide)
theorem st_tunnel {n : Nat} {t w : Int32} (h : Inv n I L) : Bth sc mX11_tunnel mX12_tunnel 2 2 [.int t, .int w] n I L tg := by
  obtain ⟨⟨⟨T, t1, t2, t3⟩, _⟩, d, _⟩ := h.2.2.2.1
  have t2' : I 95 48 = nI T := by rw [← d.1]; exact t2
  have iT : (nI T).toInt = T := nI_toInt (by omega)
  obtain ⟨p1, p2, _⟩ := air_p h.2.2.1
  by_cases hc : 0 ≤ t.toInt ∧ t.toInt < (nI T).toInt
  · obtain ⟨x, x1, x2, x3, x4⟩ := n_of hc.1 hc.2 (by omega)
    obtain ⟨y1, y2, y3, y4, y5⟩ := d.2.2.1 x (by omega)
    have wi : ∀ k : Nat, k < 100 → (w = nI k ↔ w.toInt = k) := fun k hk => ⟨fun z => by rw [z, nI_toInt (by omega)], fun z => Int32.toInt_inj.mp (by rw [z, nI_toInt (by omega)])⟩
    have w0 := wi 0 (by omega); have w1 := wi 1 (by omega); have w2 := wi 2 (by omega); have w3 := wi 3 (by omega); have w4 := wi 4 (by omega); have w5 := wi 5 (by omega)
    simp only [show nI 0 = 0 from rfl, show nI 1 = 1 from rfl, show nI 2 = 2 from rfl, show nI 3 = 3 from rfl, show nI 4 = 4 from rfl, show nI 5 = 5 from rfl] at w0 w1 w2 w3 w4 w5
    by_cases hw : 0 ≤ w.toInt ∧ w.toInt ≤ 5
    · refine Bth_p h (k_X11_tunnel_y (tn := x) (by rw [t2]; exact hc) x1 (by omega)) (k_X12_tunnel_y (tn := x) (by unfold tuC; rw [t2']; exact ⟨hc, hw⟩) x1 (by omega) (air_nz h.2.2.1)) ?_
      unfold otM otS pmp
      have e5 : ¬ w = 0 → ¬ w = 1 → ¬ w = 2 → ¬ w = 3 → ¬ w = 4 → w = 5 := by rw [w0, w1, w2, w3, w4, w5]; omega
      rw [y1, y2, y3, y4, y5, p1, if_neg (show ¬ I 4 9 ≤ 0 from by rw [i_le]; simp only [Int32.reduceToInt]; omega)]
      by_cases z0 : w = 0
      · rw [if_pos z0, if_pos z0]
      rw [if_neg z0, if_neg z0]
      by_cases z1 : w = 1
      · rw [if_pos z1, if_pos z1]
      rw [if_neg z1, if_neg z1]
      by_cases z2 : w = 2
      · rw [if_pos z2, if_pos z2]
      rw [if_neg z2, if_neg z2]
      by_cases z3 : w = 3
      · rw [if_pos z3, if_pos z3]
      rw [if_neg z3, if_neg z3]
      by_cases z4 : w = 4
      · rw [if_pos z4, if_pos z4]
      rw [if_neg z4, if_neg z4, if_pos (e5 z0 z1 z2 z3 z4)]
    · refine Bth_p h (k_X11_tunnel_y (tn := x) (by rw [t2]; exact hc) x1 (by omega)) (k_X12_tunnel_r (fun z => hw z.2)) ?_
      unfold otS
      rw [if_neg (by rw [w0]; omega), if_neg (by rw [w1]; omega), if_neg (by rw [w2]; omega), if_neg (by rw [w3]; omega), if_neg (by rw [w4]; omega), if_neg (by rw [w5]; omega)]
  · exact Bth_p h (k_X11_tunnel_r (by rw [t2]; exact hc)) (k_X12_tunnel_r (fun z => hc (by rw [← t2']; exact z.1))) rfl
/-- open -/
theorem st_open {n : Nat} {a : Int32} (h : Inv n I L) : Bth sc mX11_open mX12_open 1 2 [.int a] n I L tg := by
  obtain ⟨H, h5, a1, b1⟩ := cm_H h.2.2.1
  obtain ⟨⟨⟨T, t1, t2, t3⟩, u, sd, hd⟩, d, s0, s1⟩ := h.2.2.2.1
  have t2' : I 95 48 = nI T := by rw [← d.1]; exact t2
  have iT : (nI T).toInt = T := nI_toInt (by omega)
  by_cases hc : 0 ≤ a.toInt ∧ a.toInt < (nI H).toInt
  · by_cases hf : T = 3
    · exact Bth_p h (k_X11_open_f (by rw [a1]; exact hc) (by rw [t2]; omega)) (k_X12_open_f (by rw [b1]; exact hc) (by rw [t2']; omega)) rfl
    · have j95 : begS I a T 95 = I 95 := by unfold begS; simp [up_eq]
      refine Run_r (k_X11_open_y (t := T) (by rw [a1]; exact hc) (by rw [t2]; omega) (by omega)) (Run_r (k_X12_open_y (t := T) (by rw [j95, b1]; exact hc) (by rw [j95, t2']; omega) (by omega)) ⟨?_, ?_⟩)
      · rw [j95, t2', t2]
      · have eA : ∀ q, ¬ (36 ≤ q ∧ q ≤ 41) → ¬ (120 ≤ q ∧ q ≤ 124) → q ≠ 95 → begM (begS I a T) a T q = I q := fun q z1 z2 z3 => by
          unfold begM begS
          rw [up_n _ _ _ (by omega), up_n _ _ _ (by omega), up_n _ _ _ (by omega), up_n _ _ _ (by omega), up_n _ _ _ (by omega), up_n _ _ _ (by omega), up_n _ _ _ (by omega), up_n _ _ _ (by omega), up_n _ _ _ (by omega), up_n _ _ _ (by omega), up_n _ _ _ (by omega), up_n _ _ _ (by omega)]
        have e95 : ∀ k, k ≠ 48 → begM (begS I a T) a T 95 k = I 95 k := fun k z => by unfold begM begS; simp [up_eq, vu_eq, z]
        have e36 : ∀ k, k ≠ 8 → begM (begS I a T) a T 36 k = I 36 k := fun k z => by unfold begM begS; simp [up_eq, vu_eq, z]
        have f95 : begM (begS I a T) a T 95 48 = nI (T + 1) := by
          unfold begM
          rw [up_s, vu_s, j95, t2', nI_1]
        have f36 : begM (begS I a T) a T 36 8 = nI (T + 1) := by
          have : begM (begS I a T) a T 36 8 = I 36 8 + 1 := by unfold begM begS; simp [up_eq, vu_eq]
          rw [this, t2, nI_1]
        have q37 : begM (begS I a T) a T 37 = va_up (I 37) T a := by unfold begM begS; simp [up_eq]
        have q38 : begM (begS I a T) a T 38 = va_up (I 38) T 0 := by unfold begM begS; simp [up_eq]
        have q39 : begM (begS I a T) a T 39 = va_up (I 39) T 0 := by unfold begM begS; simp [up_eq]
        have q40 : begM (begS I a T) a T 40 = va_up (I 40) T 0 := by unfold begM begS; simp [up_eq]
        have q41 : begM (begS I a T) a T 41 = va_up (I 41) T 0 := by unfold begM begS; simp [up_eq]
        have p37 : begM (begS I a T) a T 120 = va_up (I 120) T a := by unfold begM begS; simp [up_eq]
        have p38 : begM (begS I a T) a T 121 = va_up (I 121) T 0 := by unfold begM begS; simp [up_eq]
        have p39 : begM (begS I a T) a T 122 = va_up (I 122) T 0 := by unfold begM begS; simp [up_eq]
        have p40 : begM (begS I a T) a T 123 = va_up (I 123) T 0 := by unfold begM begS; simp [up_eq]
        have p41 : begM (begS I a T) a T 124 = va_up (I 124) T 0 := by unfold begM begS; simp [up_eq]
        generalize begM (begS I a T) a T = Q at *
        have r : ∀ q, 3 ≤ q ∧ q ≤ 17 → Q q = I q := fun q hq => eA q (by omega) (by omega) (by omega)
        refine Inv_d (Nat.le_succ n) h (fun q z1 z2 => eA q (by omega) (by omega) (by unfold scr at z1; omega)) (fun k hk => by rw [eA 33 (by omega) (by omega) (by omega)]) (fun k z1 z2 => e95 k (by omega)) rfl ⟨⟨⟨T + 1, by omega, f36, fun t ht => ?_⟩, ?_, fun k hk => ?_, fun g hg => ?_⟩, ⟨by rw [f36, f95], by rw [e36 9 (by decide), e95 49 (by decide)]; exact d.2.1, fun t ht => ?_, ?_, ?_, d.2.2.2.2.2⟩, slE_c (Nat.le_succ n) s0 r (fun k => by rw [eA 46 (by omega) (by omega) (by omega)]) (fun q hq => eA q (by omega) (by omega) (by omega)) (eA _ (by omega) (by omega) (by omega)) (eA _ (by omega) (by omega) (by omega)) rfl rfl, slE_c (Nat.le_succ n) s1 r (fun k => by rw [eA 55 (by omega) (by omega) (by omega)]) (fun q hq => eA q (by omega) (by omega) (by omega)) (eA _ (by omega) (by omega) (by omega)) (eA _ (by omega) (by omega) (by omega)) rfl rfl⟩
        · show 0 ≤ (Q 37 t).toInt ∧ (Q 37 t).toInt < (Q 3 14).toInt ∧ 0 ≤ (Q 38 t).toInt ∧ (Q 38 t).toInt ≤ 2000 * ((n + 1 : Nat) : Int) ∧ 0 ≤ (Q 39 t).toInt ∧ (Q 39 t).toInt ≤ 9
          rw [q37, q38, q39, r 3 (by omega), a1]
          by_cases z : t = T
          · rw [z, vu_s, vu_s, vu_s]; simp only [Int32.reduceToInt]; omega
          · rw [vu_n _ _ z, vu_n _ _ z, vu_n _ _ z]
            have := t3 t (by omega)
            rw [a1] at this
            have e : 0 ≤ (I 37 t).toInt ∧ (I 37 t).toInt < (nI H).toInt ∧ 0 ≤ (I 38 t).toInt ∧ (I 38 t).toInt ≤ 2000 * n ∧ 0 ≤ (I 39 t).toInt ∧ (I 39 t).toInt ≤ 9 := this
            omega
        · rw [e36 9 (by decide), bAll_c r]; exact u
        · show 0 ≤ (Q 42 k).toInt ∧ (Q 42 k).toInt ≤ 200000 * ((n + 1 : Nat) : Int)
          rw [eA 42 (by omega) (by omega) (by omega)]
          have e : 0 ≤ (I 42 k).toInt ∧ (I 42 k).toInt ≤ 200000 * n := sd k hk
          omega
        · show 0 ≤ (Q 43 g).toInt ∧ (g < nN (Q 3 15) → (Q 43 g).toInt ≤ (Q 15 g).toInt)
          rw [eA 43 (by omega) (by omega) (by omega), r 3 (by omega), r 15 (by omega)]
          exact hd g hg
        · rw [q37, q38, q39, q40, q41, p37, p38, p39, p40, p41]
          by_cases z : t = T
          · rw [z]; simp only [vu_s]; exact ⟨trivial, trivial, trivial, trivial, trivial⟩
          · simp only [vu_n _ _ z]; exact d.2.2.1 t ht
        · rw [eA 42 (by omega) (by omega) (by omega), eA 125 (by omega) (by omega) (by omega)]; exact d.2.2.2.1
        · rw [eA 43 (by omega) (by omega) (by omega), eA 126 (by omega) (by omega) (by omega)]; exact d.2.2.2.2.1
  · exact Bth_p h (k_X11_open_r (by rw [a1]; exact hc)) (k_X12_open_r (by rw [b1]; exact hc)) rfl
end
