/-! steps: join, round, morning, goes, listed -/
section
variable {sc : Sc} {I J : Is} {L K : Ls} {tg : Nat}
theorem st_join {n : Nat} {m b : Int32} (h : Inv n I L) : Bth sc mX11_join mX12_join 1 1 [.int m, .int b] n I L tg := by
  obtain ⟨P, R, q, p8, r5, q8, e1, e2, e3, e4, e5, e6, hp, hr, ⟨o1, o2, o3⟩, hg⟩ := h.2.2.2.2.2.2.1
  have iP : (nI P).toInt = P := nI_toInt (by omega)
  by_cases hc : (1 ≤ m.toInt ∧ m.toInt ≤ 20) ∧ 0 ≤ b.toInt ∧ b.toInt ≤ 1
  · by_cases z : P = 8
    · exact Bth_p h (k_X11_join_f hc (by rw [e1]; omega)) (k_X12_join_f hc (by rw [e2]; omega)) rfl
    · have j95 : pad I P (m + 3 * b) 95 = I 95 := by unfold pad; simp [up_eq]
      refine Run_r (k_X11_join_y (n := P) hc (by rw [e1]; omega) (by omega)) (Run_r (k_X12_join_y (n := P) hc (by rw [j95, e2]; omega) (by omega)) ⟨by rw [j95, e1, e2], ?_⟩)
      have qn : ∀ a, a ≠ 84 → a ≠ 85 → a ≠ 95 → a ≠ 144 → padM (pad I P (m + 3 * b)) P (m + 3 * b) a = I a := fun a z1 z2 z3 z4 => by unfold padM pad; simp [up_eq, z1, z2, z3, z4]
      have q84 : ∀ k, k ≠ 7 → padM (pad I P (m + 3 * b)) P (m + 3 * b) 84 k = I 84 k := fun k z => by unfold padM pad; simp [up_eq, vu_eq, z]
      have q847 : padM (pad I P (m + 3 * b)) P (m + 3 * b) 84 7 = nI (P + 1) := by
        have : padM (pad I P (m + 3 * b)) P (m + 3 * b) 84 7 = I 84 7 + 1 := by unfold padM pad; simp [up_eq, vu_eq]
        rw [this, e1, nI_1]
      have q95 : ∀ k, k ≠ 83 → padM (pad I P (m + 3 * b)) P (m + 3 * b) 95 k = I 95 k := fun k z => by unfold padM pad; simp [up_eq, vu_eq, z]
      have q983 : padM (pad I P (m + 3 * b)) P (m + 3 * b) 95 83 = nI (P + 1) := by
        have : padM (pad I P (m + 3 * b)) P (m + 3 * b) 95 83 = I 95 83 + 1 := by unfold padM pad; simp [up_eq, vu_eq]
        rw [this, e2, nI_1]
      have q85 : padM (pad I P (m + 3 * b)) P (m + 3 * b) 85 = va_up (I 85) P (m + 3 * b) := by unfold padM pad; simp [up_eq]
      have q144 : padM (pad I P (m + 3 * b)) P (m + 3 * b) 144 = va_up (I 144) P (m + 3 * b) := by unfold padM pad; simp [up_eq]
      generalize padM (pad I P (m + 3 * b)) P (m + 3 * b) = Q at *
      refine Inv_n (Nat.le_succ n) h (fun a z1 z2 => qn a (by omega) (by omega) (by unfold scr at z1; omega) (by omega)) (fun k _ => by rw [qn 33 (by decide) (by decide) (by decide) (by decide)]) (fun k z1 z2 => q95 k (by omega)) keL_r ⟨P + 1, R, q, by omega, r5, q8, q847, q983, by rw [q84 8 (by decide)]; exact e3, by rw [q95 84 (by decide)]; exact e4, by rw [q84 9 (by decide)]; exact e5, by rw [q95 91 (by decide)]; exact e6, fun p hpp => ?_, ?_, ⟨?_, ?_, fun p hpp => ?_⟩, ?_⟩
      · rw [q85, q144]
        by_cases y : p = P
        · rw [y, vu_s, vu_s]
        · rw [vu_n _ _ y, vu_n _ _ y]; exact hp p (by omega)
      · rw [qn 86 (by decide) (by decide) (by decide) (by decide), qn 87 (by decide) (by decide) (by decide) (by decide), qn 145 (by decide) (by decide) (by decide) (by decide), qn 146 (by decide) (by decide) (by decide) (by decide)]; exact hr
      · rw [q95 84 (by decide)]; exact o1
      · rw [q95 84 (by decide), qn 145 (by decide) (by decide) (by decide) (by decide), qn 146 (by decide) (by decide) (by decide) (by decide)]; exact o2
      · rw [q144]
        by_cases y : p = P
        · rw [y, vu_s]
          have m3 : (3 * b).toInt = 3 * b.toInt := i_mul (a := 3) (by simp only [Int32.reduceToInt]; omega) (by simp only [Int32.reduceToInt]; omega)
          unfold ndOk
          rw [i_add (by omega) (by omega)]
          omega
        · rw [vu_n _ _ y]; exact o3 p (by omega)
      · rw [qn 88 (by decide) (by decide) (by decide) (by decide), qn 89 (by decide) (by decide) (by decide) (by decide), qn 148 (by decide) (by decide) (by decide) (by decide), qn 149 (by decide) (by decide) (by decide) (by decide)]; exact hg
  · exact Bth_p h (k_X11_join_r hc) (k_X12_join_r hc) rfl
theorem rmt_cg {f g f' g' : Nat → Int32} {R : Nat} {a b : Int32} (h : ∀ r, r < R → f r = f' r ∧ g r = g' r) : rmt f g R a b = rmt f' g' R a b := by
  unfold rmt
  refine fsk_cg R 0 (fun j _ hj => ?_)
  obtain ⟨x, y⟩ := h j (by omega)
  rw [x, y]
theorem st_round {n : Nat} {a b : Int32} (h : Inv n I L) : Bth sc mX11_round mX12_round 2 1 [.int a, .int b] n I L tg := by
  obtain ⟨P, R, q, p8, r5, q8, e1, e2, e3, e4, e5, e6, hp, hr, ⟨o1, o2, o3⟩, hg⟩ := h.2.2.2.2.2.2.1
  have iR : (nI R).toInt = R := nI_toInt (by omega)
  have n8 : nN (I 84 8) = R := by rw [e3]; exact nI_clamp (by omega)
  have n9 : nN (I 95 84) = R := by rw [e4]; exact nI_clamp (by omega)
  have ee : ruC I a b ↔ rouC I a b := by
    unfold ruC rouC roC
    rw [n8, n9, rmt_cg (f := I 86) (g := I 87) (f' := I 145) (g' := I 146) hr]
    exact ⟨fun z => ⟨z.1.1, z.1.2.1, z.1.2.2, z.2⟩, fun z => ⟨⟨z.1, z.2.1, z.2.2.1⟩, z.2.2.2⟩⟩
  by_cases hc : rouC I a b
  · by_cases z : R = 5
    · exact Bth_p h (k_X11_round_f hc (by rw [e3]; omega) (by rw [e3]; omega)) (k_X12_round_f (ee.mpr hc) (by rw [e4]; omega)) rfl
    · have jn : ∀ k, k ≠ 84 ∧ k ≠ 86 ∧ k ≠ 87 → rad I R a b k = I k := fun k hk => by unfold rad; simp [up_eq, hk.1, hk.2.1, hk.2.2]
      have hc2 : ruC (rad I R a b) a b := by
        have := ee.mpr hc
        unfold ruC at this ⊢
        rw [jn 145 (by decide), jn 146 (by decide), jn 95 (by decide)]
        exact this
      refine Run_r (k_X11_round_y (n := R) hc (by rw [e3]; omega) (by omega)) (Run_r (k_X12_round_y (n := R) hc2 (by rw [jn 95 (by decide), e4]; omega) (by omega)) ⟨by rw [jn 95 (by decide), e3, e4], ?_⟩)
      have qn : ∀ k, k ≠ 84 → k ≠ 86 → k ≠ 87 → k ≠ 95 → k ≠ 145 → k ≠ 146 → radM (rad I R a b) R a b k = I k := fun k z1 z2 z3 z4 z5 z6 => by unfold radM rad; simp [up_eq, z1, z2, z3, z4, z5, z6]
      have q84 : ∀ k, k ≠ 8 → radM (rad I R a b) R a b 84 k = I 84 k := fun k z => by unfold radM rad; simp [up_eq, vu_eq, z]
      have q848 : radM (rad I R a b) R a b 84 8 = nI (R + 1) := by
        have : radM (rad I R a b) R a b 84 8 = I 84 8 + 1 := by unfold radM rad; simp [up_eq, vu_eq]
        rw [this, e3, nI_1]
      have q95 : ∀ k, k ≠ 84 → radM (rad I R a b) R a b 95 k = I 95 k := fun k z => by unfold radM rad; simp [up_eq, vu_eq, z]
      have q984 : radM (rad I R a b) R a b 95 84 = nI (R + 1) := by
        have : radM (rad I R a b) R a b 95 84 = I 95 84 + 1 := by unfold radM rad; simp [up_eq, vu_eq]
        rw [this, e4, nI_1]
      have q86 : radM (rad I R a b) R a b 86 = va_up (I 86) R a := by unfold radM rad; simp [up_eq]
      have q87 : radM (rad I R a b) R a b 87 = va_up (I 87) R b := by unfold radM rad; simp [up_eq]
      have q145 : radM (rad I R a b) R a b 145 = va_up (I 145) R a := by unfold radM rad; simp [up_eq]
      have q146 : radM (rad I R a b) R a b 146 = va_up (I 146) R b := by unfold radM rad; simp [up_eq]
      generalize radM (rad I R a b) R a b = Q at *
      refine Inv_n (Nat.le_succ n) h (fun a z1 z2 => qn a (by omega) (by omega) (by omega) (by unfold scr at z1; omega) (by omega) (by omega)) (fun k _ => by rw [qn 33 (by decide) (by decide) (by decide) (by decide) (by decide) (by decide)]) (fun k z1 z2 => q95 k (by omega)) keL_r ⟨P, R + 1, q, p8, by omega, q8, by rw [q84 7 (by decide)]; exact e1, by rw [q95 83 (by decide)]; exact e2, q848, q984, by rw [q84 9 (by decide)]; exact e5, by rw [q95 91 (by decide)]; exact e6, ?_, fun r hrr => ?_, ⟨?_, ⟨?_, fun r hrr => ?_⟩, ?_⟩, ?_⟩
      · rw [qn 85 (by decide) (by decide) (by decide) (by decide) (by decide) (by decide), qn 144 (by decide) (by decide) (by decide) (by decide) (by decide) (by decide)]; exact hp
      · rw [q86, q87, q145, q146]
        by_cases y : r = R
        · rw [y]; simp only [vu_s]; exact ⟨trivial, trivial⟩
        · simp only [vu_n _ _ y]; exact hr r (by omega)
      · rw [q984, nI_toInt (by omega)]; omega
      · rw [q984, show nN (nI (R + 1)) = R + 1 from nI_clamp (by omega)]; omega
      · rw [q984, show nN (nI (R + 1)) = R + 1 from nI_clamp (by omega)] at hrr
        rw [q145, q146]
        by_cases y : r = R
        · rw [y, vu_s, vu_s]; exact ⟨hc.1, hc.2.1, hc.2.2.1⟩
        · rw [vu_n _ _ y, vu_n _ _ y]; exact o2.2 r (by rw [n9]; omega)
      · rw [qn 144 (by decide) (by decide) (by decide) (by decide) (by decide) (by decide)]; exact o3
      · rw [qn 88 (by decide) (by decide) (by decide) (by decide) (by decide) (by decide), qn 89 (by decide) (by decide) (by decide) (by decide) (by decide) (by decide), qn 148 (by decide) (by decide) (by decide) (by decide) (by decide) (by decide), qn 149 (by decide) (by decide) (by decide) (by decide) (by decide) (by decide)]; exact hg
  · exact Bth_p h (k_X11_round_r hc (by rw [e3]; omega) (by rw [e3]; omega)) (k_X12_round_r (fun z => hc (ee.mp z)) (by rw [e4]; omega) (by rw [e4]; omega)) rfl
theorem st_morning {n : Nat} (h : Inv n I L) : Bth sc mX11_morning mX12_morning 1 0 [] n I L tg := by
  obtain ⟨P, R, q, p8, r5, q8, e1, e2, e3, e4, e5, e6, hp, hr, ⟨o1, o2, o3⟩, hg⟩ := h.2.2.2.2.2.2.1
  refine Run_r k_X11_morning (Run_r k_X12_morning ⟨?_, ?_⟩)
  · have : mrn I 95 = I 95 := by unfold mrn; simp [up_eq]
    rw [this, e1, e2]
  · have qn : ∀ k, k ≠ 84 → k ≠ 95 → mrM (mrn I) k = I k := fun k z1 z2 => by unfold mrM mrn; simp [up_eq, z1, z2]
    have q95 : ∀ k, k ≠ 83 → k ≠ 84 → k ≠ 91 → mrM (mrn I) 95 k = I 95 k := fun k z1 z2 z3 => by unfold mrM mrn; simp [up_eq, vu_eq, z1, z2, z3]
    have w : mrM (mrn I) 84 7 = nI 0 ∧ mrM (mrn I) 84 8 = nI 0 ∧ mrM (mrn I) 84 9 = nI 0 ∧ mrM (mrn I) 95 83 = nI 0 ∧ mrM (mrn I) 95 84 = nI 0 ∧ mrM (mrn I) 95 91 = nI 0 := by
      unfold mrM mrn
      simp [up_eq, vu_eq]
      rfl
    obtain ⟨w1, w2, w3, w4, w5, w6⟩ := w
    generalize mrM (mrn I) = Q at *
    refine Inv_n (Nat.le_succ n) h (fun a z1 z2 => qn a (by omega) (by unfold scr at z1; omega)) (fun k _ => by rw [qn 33 (by decide) (by decide)]) (fun k z1 z2 => q95 k (by omega) (by omega) (by omega)) keL_r ⟨0, 0, 0, by omega, by omega, by omega, w1, w4, w2, w5, w3, w6, fun p hp => by omega, fun r hr => by omega, ⟨by rw [w5]; decide, ⟨by rw [w5]; decide, fun r hr => ?_⟩, fun p hp => by omega⟩, fun i hi => by omega⟩
    rw [w5] at hr
    exact absurd hr (Nat.not_lt_zero _)
theorem nI_m1 {q : Nat} (h : q < 1000) : (nI q - 1).toInt = (q : Int) - 1 := by
  rw [i_sub (by rw [nI_toInt (by omega)]; simp only [Int32.reduceToInt]; omega) (by rw [nI_toInt (by omega)]; simp only [Int32.reduceToInt]; omega), nI_toInt (by omega)]
  rfl
theorem st_goes {n : Nat} {i w : Int32} (h : Inv n I L) : Bth sc mX11_goes mX12_goes 1 1 [.int i, .int w] n I L tg := by
  obtain ⟨P, R, q, p8, r5, q8, e1, e2, e3, e4, e5, e6, hp, hr, _, hg⟩ := h.2.2.2.2.2.2.1
  have iq := nI_m1 (q := q) (by omega)
  have iq2 : (nI q).toInt = q := nI_toInt (by omega)
  have w0 : w = 0 ↔ w.toInt = 0 := Int32.toInt_inj.symm
  have w1 : w = 1 ↔ w.toInt = 1 := Int32.toInt_inj.symm
  by_cases hi : 0 ≤ i.toInt ∧ i.toInt < q
  · obtain ⟨k, hk⟩ : ∃ k : Nat, i.toInt = k := ⟨i.toInt.toNat, by omega⟩
    obtain ⟨g1, g2⟩ := hg k (by omega)
    have hm : gmC I i := by unfold gmC; rw [e6, iq2]; exact hi
    by_cases hw : 0 ≤ w.toInt ∧ w.toInt ≤ 1
    · refine Bth_p h (k_X11_goes_y (k := k) (by unfold goC; rw [e5, iq]; omega) hk (by omega)) (k_X12_goes_y (k := k) hm hk (by omega)) ?_
      rw [← g1, ← g2]
      by_cases z : w = 0
      · rw [if_pos z, if_pos z]
      · rw [if_neg z, if_neg z, if_pos (w1.mpr (by rw [w0] at z; omega))]
    · refine Bth_p h (k_X11_goes_r (fun z => hw z.2)) (k_X12_goes_y (k := k) hm hk (by omega)) ?_
      rw [if_neg (by rw [w0]; omega), if_neg (by rw [w1]; omega)]
  · exact Bth_p h (k_X11_goes_r (fun z => hi (by have := z.1; rw [e5, iq] at this; omega))) (k_X12_goes_r (fun z => hi (by unfold gmC at z; rw [e6, iq2] at z; exact z))) rfl
theorem st_listed {n : Nat} {i : Int32} (h : Inv n I L) : Bth sc mX11_listed mX12_listed 1 1 [.int i] n I L tg := by
  obtain ⟨q, q8, e5, e6, hg⟩ := h.2.2.2.2.2.2.2.1
  have iq := nI_m1 (q := q) (by omega)
  have iq2 : (nI q).toInt = q := nI_toInt (by omega)
  by_cases hi : 0 ≤ i.toInt ∧ i.toInt < q
  · obtain ⟨k, hk⟩ : ∃ k : Nat, i.toInt = k := ⟨i.toInt.toNat, by omega⟩
    exact Bth_p h (k_X11_listed_y (k := k) (by rw [e5, iq]; omega) hk (by omega)) (k_X12_listed_y (k := k) (by rw [e6, iq2]; exact hi) hk (by omega)) (hg k (by omega)).symm
  · exact Bth_p h (k_X11_listed_r (by rw [e5, iq]; omega)) (k_X12_listed_r (by rw [e6, iq2]; exact hi)) rfl
end
