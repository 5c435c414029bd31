/-! steps: keep, take -/
section
variable {sc : Sc} {I J : Is} {L K : Ls} {tg : Nat}
theorem cpI_n {b c q : Nat} (h : ¬ (b ≤ q ∧ q ≤ b + 7)) : cpI I b c q = I q := by
  unfold cpI
  rw [up_n _ _ _ (by omega), up_n _ _ _ (by omega), upr_n _ _ (by omega), upr_n _ _ (by omega), upr_n _ _ (by omega), upr_n _ _ (by omega), upr_n _ _ (by omega), upr_n _ _ (by omega), upr_n _ _ (by omega)]
theorem cpI_r {b c q t : Nat} (h : 1 ≤ q ∧ q ≤ 5) (ht : t < 3) : cpI I b c (b + q) t = I (c + q) t := by
  unfold cpI
  rw [up_n _ _ _ (by omega), up_n _ _ _ (by omega), upr_n _ _ (by omega), upr_n _ _ (by omega)]
  rcases (show q = 1 ∨ q = 2 ∨ q = 3 ∨ q = 4 ∨ q = 5 by omega) with rfl | rfl | rfl | rfl | rfl
  · rw [upr_n _ _ (by omega), upr_n _ _ (by omega), upr_n _ _ (by omega), upr_n _ _ (by omega), upr_s]; exact if_pos ht
  · rw [upr_n _ _ (by omega), upr_n _ _ (by omega), upr_n _ _ (by omega), upr_s]; exact if_pos ht
  · rw [upr_n _ _ (by omega), upr_n _ _ (by omega), upr_s]; exact if_pos ht
  · rw [upr_n _ _ (by omega), upr_s]; exact if_pos ht
  · rw [upr_s]; exact if_pos ht
theorem cpI_6 {b c t : Nat} (ht : t < 5) : cpI I b c (b + 6) t = I (c + 6) t := by
  unfold cpI
  rw [up_n _ _ _ (by omega), up_n _ _ _ (by omega), upr_n _ _ (by omega), upr_s]; exact if_pos ht
theorem cpI_7 {b c t : Nat} (ht : t < 4) : cpI I b c (b + 7) t = I (c + 7) t := by
  unfold cpI
  rw [up_n _ _ _ (by omega), up_n _ _ _ (by omega), upr_s]; exact if_pos ht
theorem cpI_8 {b c : Nat} : cpI I b c b 8 = I c 8 ∧ cpI I b c b 9 = I c 9 := by
  unfold cpI
  rw [up_s, up_s]
  exact ⟨by rw [vu_n _ _ (by decide), vu_s], by rw [vu_s]⟩
theorem cpI_k {b c k : Nat} (h : k ≠ 8 ∧ k ≠ 9) : cpI I b c b k = I b k := by
  unfold cpI
  rw [up_s, up_s, vu_n _ _ h.2, vu_n _ _ h.1, upr_n _ _ (by omega), upr_n _ _ (by omega), upr_n _ _ (by omega), upr_n _ _ (by omega), upr_n _ _ (by omega), upr_n _ _ (by omega), upr_n _ _ (by omega)]
theorem sm_T {n : Nat} (h : Inv n I L) : sm (I 121) (nN (I 95 48)) = sm (I 38) (nN (I 36 8)) := by
  obtain ⟨⟨⟨T, t1, t2, _⟩, _⟩, d, _⟩ := h.2.2.2.1
  have nT : nN (I 36 8) = T := by rw [t2]; exact nI_clamp (by omega)
  rw [← d.1, nT]
  exact sm_ext T (fun k hk => (d.2.2.1 k (by omega)).2.1.symm)
/-- what keep leaves -/
theorem kp_inv {n b s b' s' : Nat} {Q : Is} {M : Ls} (hb : b = 46 ∧ s = 0 ∧ b' = 55 ∧ s' = 1 ∨ b = 55 ∧ s = 1 ∧ b' = 46 ∧ s' = 0) (h : Inv n I L) (hQ : Q = kpI (up (cpI I b 36) b 10 1) s) (hM : M = up (cpL L b 36) 128 s (cpL L b 36 95 47)) : Inv (n + 1) Q M := by
  obtain ⟨d1, d, s0, s1⟩ := id h.2.2.2.1
  have so : slE n I L b' s' := by rcases hb with ⟨_, _, rfl, rfl⟩ | ⟨_, _, rfl, rfl⟩; exact s1; exact s0
  have jn : ∀ q, ¬ (b ≤ q ∧ q ≤ b + 7) → up (cpI I b 36) b 10 1 q = I q := fun q hq => by rw [up_n _ _ _ (by omega), cpI_n hq]
  have qn : ∀ q, q ≠ 127 → q ≠ 129 → Q q = up (cpI I b 36) b 10 1 q := fun q z1 z2 => by rw [hQ]; unfold kpI kpW; rw [up_n _ _ _ z2, upr_n _ _ z1]
  have qj : ∀ q, q ≠ 127 → q ≠ 129 → ¬ (b ≤ q ∧ q ≤ b + 7) → Q q = I q := fun q z1 z2 z3 => by rw [qn q z1 z2, jn q z3]
  have q29 : Q 129 = va_up (I 129) s 1 := by
    rw [hQ]; unfold kpI kpW; rw [up_s, upr_n _ _ (by decide), jn 129 (by omega)]
  have kf : ∀ o, kpf (up (cpI I b 36) b 10 1) o = kpf I o := fun o => by
    unfold kpf
    rw [jn (120 + o % 5) (by omega), jn 125 (by omega), jn 126 (by omega), jn 95 (by omega)]
  have q27 : ∀ j, Q 127 j = if 26 * s ≤ j ∧ j < 26 * s + 26 then kpf I (j - 26 * s) else I 127 j := fun j => by
    rw [hQ]; unfold kpI kpW; rw [up_n _ _ _ (by decide), upr_s, jn 127 (by omega)]; unfold ins; rw [kf]
  have lM : ∀ a, a ≠ b + 8 → a ≠ 128 → M a = L a := fun a z1 z2 => by rw [hM]; unfold cpL; rw [up_n _ _ _ z2, up_n _ _ _ z1]
  have l8 : M (b + 8) 0 = L 44 0 := by rw [hM, up_n _ _ _ (by omega)]; unfold cpL; rw [up_s, vu_s]
  have l28 : M 128 = va_up (L 128) s (L 95 47) := by
    rw [hM, up_s]; unfold cpL; rw [up_n _ _ _ (by omega), up_n _ _ _ (by omega)]
  clear hQ hM
  have r : ∀ q, 3 ≤ q ∧ q ≤ 17 → Q q = I q := fun q hq => qj q (by omega) (by omega) (by omega)
  have e8 : Q b 8 = I 36 8 := by rw [qn b (by omega) (by omega), up_s, vu_n _ _ (by decide)]; exact cpI_8.1
  have e9 : Q b 9 = I 36 9 := by rw [qn b (by omega) (by omega), up_s, vu_n _ _ (by decide)]; exact cpI_8.2
  have e10 : Q b 10 = 1 := by rw [qn b (by omega) (by omega), up_s, vu_s]
  have er : ∀ q, 1 ≤ q ∧ q ≤ 5 → ∀ t, t < 3 → Q (b + q) t = I (36 + q) t := fun q hq t ht => by rw [qn _ (by omega) (by omega), up_n _ _ _ (by omega)]; exact cpI_r hq ht
  have e6 : ∀ t, t < 5 → Q (b + 6) t = I 42 t := fun t ht => by rw [qn _ (by omega) (by omega), up_n _ _ _ (by omega)]; exact cpI_6 ht
  have e7 : ∀ t, t < 4 → Q (b + 7) t = I 43 t := fun t ht => by rw [qn _ (by omega) (by omega), up_n _ _ _ (by omega)]; exact cpI_7 ht
  have k7 : ∀ o, o < 26 → Q 127 (26 * s + o) = kpf I o := fun o ho => by rw [q27, if_pos (by omega), Nat.add_sub_cancel_left]
  have sl : slE (n + 1) Q M b s := by
    refine ⟨by rw [e10, q29, vu_s], fun _ => ⟨dgB_m (Nat.le_succ n) d1 r e8 e9 er e6 e7, ?_, ?_, fun t ht => ?_, fun t ht => ?_, fun t ht => ?_, ?_⟩⟩
    · rw [e8, k7 25 (by omega), d.1]; rfl
    · rw [e9, k7 24 (by omega), d.2.1]; rfl
    · obtain ⟨w1, w2, w3, w4, w5⟩ := d.2.2.1 t ht
      have kk : ∀ q, q < 5 → kpf I (5 * t + q) = I (120 + q) t := fun q hq => by
        unfold kpf
        rw [if_pos (by omega), show (5 * t + q) % 5 = q by omega, show (5 * t + q) / 5 = t by omega]
      rw [er 1 (by omega) t ht, er 2 (by omega) t ht, er 3 (by omega) t ht, er 4 (by omega) t ht, er 5 (by omega) t ht, k7 _ (by omega), k7 _ (by omega), k7 _ (by omega), k7 _ (by omega), k7 _ (by omega), kk 0 (by omega), kk 1 (by omega), kk 2 (by omega), kk 3 (by omega), kk 4 (by omega)]
      exact ⟨w1, w2, w3, w4, w5⟩
    · rw [e6 t ht, k7 _ (by omega), d.2.2.2.1 t ht]
      unfold kpf
      rw [if_neg (by omega), if_pos (by omega), Nat.add_sub_cancel_left]
    · rw [e7 t ht, k7 _ (by omega), d.2.2.2.2.1 t ht]
      unfold kpf
      rw [if_neg (by omega), if_neg (by omega), if_pos (by omega), Nat.add_sub_cancel_left]
    · rw [l8, l28, vu_s]; exact d.2.2.2.2.2
  have sk : slE (n + 1) Q M b' s' := slE_k (Nat.le_succ n) so r (fun k => by rw [qj b' (by omega) (by omega) (by omega)]) (fun a ha => qj a (by omega) (by omega) (by omega)) (fun o ho => by rw [q27, if_neg (by omega)]) (by rw [q29, vu_n _ _ (by omega)]) (by rw [lM (b' + 8) (by omega) (by omega)]) (by rw [l28, vu_n _ _ (by omega)])
  refine Inv_d (Nat.le_succ n) h (fun q z1 z2 => qj q (by omega) (by omega) (by omega)) (fun k hk => by rw [qj 33 (by omega) (by omega) (by omega)]) (fun k z1 z2 => by rw [qj 95 (by omega) (by omega) (by omega)]) (lM 34 (by omega) (by omega)) ⟨dgB_c (Nat.le_succ n) d1 r (fun k _ => by rw [qj 36 (by omega) (by omega) (by omega)]) (qj _ (by omega) (by omega) (by omega)) (qj _ (by omega) (by omega) (by omega)) (qj _ (by omega) (by omega) (by omega)) (qj _ (by omega) (by omega) (by omega)) (qj _ (by omega) (by omega) (by omega)), dgE_c d (fun a ha => qj a (by omega) (by omega) (by omega)) (fun k _ => by rw [qj 36 (by omega) (by omega) (by omega)]) (fun k _ => by rw [qj 95 (by omega) (by omega) (by omega)]) (fun a ha => qj a (by omega) (by omega) (by omega)) (by rw [lM 44 (by omega) (by omega)]) (by rw [lM 95 (by omega) (by omega)]), ?_, ?_⟩
  · rcases hb with ⟨rfl, rfl, rfl, rfl⟩ | ⟨rfl, rfl, rfl, rfl⟩
    · exact sl
    · exact sk
  · rcases hb with ⟨rfl, rfl, rfl, rfl⟩ | ⟨rfl, rfl, rfl, rfl⟩
    · exact sk
    · exact sl
theorem st_keep {n : Nat} {s : Int32} (h : Inv n I L) : Bth sc mX11_keep mX12_keep 2 2 [.int s] n I L tg := by
  obtain ⟨⟨⟨T, t1, t2, _⟩, _⟩, d, _⟩ := id h.2.2.2.1
  have iT : (nI T).toInt = T := nI_toInt (by omega)
  have t2' : I 95 48 = nI T := by rw [← d.1]; exact t2
  have sT := sm_T h
  by_cases hc : 0 ≤ s.toInt ∧ s.toInt ≤ 1
  · rcases (show s.toInt = 0 ∨ s.toInt = 1 by omega) with z | z
    · obtain rfl : s = 0 := Int32.toInt_inj.mp z
      have jn : ∀ q, ¬ (46 ≤ q ∧ q ≤ 53) → up (cpI I 46 36) 46 10 1 q = I q := fun q hq => by rw [up_n _ _ _ (by omega), cpI_n (by omega)]
      refine Run_r (k_X11_keep_0 (by rw [t2]; omega) (by rw [t2]; omega)) (Run_r (k_X12_keep_y (sn := 0) rfl (by decide) (by rw [jn 95 (by omega), t2']; omega) (by rw [jn 95 (by omega), t2']; omega)) ⟨?_, kp_inv (Or.inl ⟨rfl, rfl, rfl, rfl⟩) h rfl rfl⟩)
      rw [jn 121 (by omega), jn 95 (by omega)]; exact sT
    · obtain rfl : s = 1 := Int32.toInt_inj.mp z
      have jn : ∀ q, ¬ (55 ≤ q ∧ q ≤ 62) → up (cpI I 55 36) 55 10 1 q = I q := fun q hq => by rw [up_n _ _ _ (by omega), cpI_n (by omega)]
      refine Run_r (k_X11_keep_1 (by rw [t2]; omega) (by rw [t2]; omega)) (Run_r (k_X12_keep_y (sn := 1) rfl (by decide) (by rw [jn 95 (by omega), t2']; omega) (by rw [jn 95 (by omega), t2']; omega)) ⟨?_, kp_inv (Or.inr ⟨rfl, rfl, rfl, rfl⟩) h rfl rfl⟩)
      rw [jn 121 (by omega), jn 95 (by omega)]; exact sT
  · exact Bth_p h (k_X11_keep_r hc) (k_X12_keep_r hc) rfl
/-- what take leaves -/
theorem tk_inv {n b s : Nat} {Q : Is} {M : Ls} (hb : b = 46 ∧ s = 0 ∨ b = 55 ∧ s = 1) (h : Inv n I L) (hu : ¬ I b 10 = 0) (hQ : Q = tk4 (cpI I 36 b) (26 * s)) (hM : M = up (cpL L 36 b) 95 47 (cpL L 36 b 128 s)) : Inv (n + 1) Q M ∧ sm (Q 121) (nN (Q 95 48)) = sm (prf (I (b + 2)) 3 (I 38)) (nN (I b 8)) := by
  obtain ⟨d1, d, s0, s1⟩ := id h.2.2.2.1
  have so : slE n I L b s := by rcases hb with ⟨rfl, rfl⟩ | ⟨rfl, rfl⟩; exact s0; exact s1
  obtain ⟨g1, g2, g3, g4, g5, g6, g7⟩ := so.2 hu
  have jn : ∀ q, ¬ (36 ≤ q ∧ q ≤ 43) → cpI I 36 b q = I q := fun q hq => cpI_n (by omega)
  have qn : ∀ q, ¬ (120 ≤ q ∧ q ≤ 126) → q ≠ 95 → Q q = cpI I 36 b q := fun q z1 z2 => by
    rw [hQ]; unfold tk4 tk3 tk2
    rw [up_n _ _ _ z2, up_n _ _ _ z2, upr_n _ _ (by omega), upr_n _ _ (by omega), tk_n _ _ _ (by omega)]
  have qj : ∀ q, ¬ (36 ≤ q ∧ q ≤ 43) → ¬ (120 ≤ q ∧ q ≤ 126) → q ≠ 95 → Q q = I q := fun q z0 z1 z2 => by rw [qn q z1 z2, jn q z0]
  have q95 : ∀ k, k ≠ 48 → k ≠ 49 → Q 95 k = I 95 k := fun k z1 z2 => by
    rw [hQ]; unfold tk4 tk3 tk2
    rw [up_s, up_s, vu_n _ _ z1, vu_n _ _ z2, upr_n _ _ (by decide), upr_n _ _ (by decide), tk_n _ _ _ (by decide), jn 95 (by omega)]
  have q48 : Q 95 48 = I 127 (26 * s + 25) := by rw [hQ]; unfold tk4; rw [up_s, vu_s, jn 127 (by omega)]
  have q49 : Q 95 49 = I 127 (26 * s + 24) := by rw [hQ]; unfold tk4; rw [up_s, vu_n _ _ (by decide), up_s, vu_s, jn 127 (by omega)]
  have qr : ∀ q, q < 5 → ∀ t, t < 3 → Q (120 + q) t = I 127 (26 * s + (5 * t + q)) := fun q hq t ht => by
    rw [hQ]; unfold tk4 tk3 tk2
    rw [up_n _ _ _ (by omega), up_n _ _ _ (by omega), upr_n _ _ (by omega), upr_n _ _ (by omega), tk_at _ _ _ hq, jn 127 (by omega)]
    exact if_pos ht
  have q25 : ∀ t, t < 5 → Q 125 t = I 127 (26 * s + (15 + t)) := fun t ht => by
    rw [hQ]; unfold tk4 tk3 tk2
    rw [up_n _ _ _ (by decide), up_n _ _ _ (by decide), upr_n _ _ (by decide), upr_s, jn 127 (by omega)]
    exact if_pos ht
  have q26 : ∀ t, t < 4 → Q 126 t = I 127 (26 * s + (20 + t)) := fun t ht => by
    rw [hQ]; unfold tk4 tk3
    rw [up_n _ _ _ (by decide), up_n _ _ _ (by decide), upr_s, jn 127 (by omega)]
    exact if_pos ht
  have lM : ∀ a, a ≠ 44 → a ≠ 95 → M a = L a := fun a z1 z2 => by rw [hM]; unfold cpL; rw [up_n _ _ _ z2, up_n _ _ _ z1]
  have l44 : M 44 0 = L (b + 8) 0 := by rw [hM, up_n _ _ _ (by decide)]; unfold cpL; rw [up_s, vu_s]
  have l95 : M 95 47 = L 128 s := by rw [hM, up_s, vu_s]; unfold cpL; rw [up_n _ _ _ (by decide)]
  clear hQ hM
  have r : ∀ q, 3 ≤ q ∧ q ≤ 17 → Q q = I q := fun q hq => qj q (by omega) (by omega) (by omega)
  have e8 : Q 36 8 = I b 8 := by rw [qn 36 (by omega) (by omega)]; exact cpI_8.1
  have e9 : Q 36 9 = I b 9 := by rw [qn 36 (by omega) (by omega)]; exact cpI_8.2
  have er : ∀ q, 1 ≤ q ∧ q ≤ 5 → ∀ t, t < 3 → Q (36 + q) t = I (b + q) t := fun q hq t ht => by rw [qn _ (by omega) (by omega)]; exact cpI_r hq ht
  have e6 : ∀ t, t < 5 → Q 42 t = I (b + 6) t := fun t ht => by rw [qn _ (by omega) (by omega)]; exact cpI_6 (b := 36) ht
  have e7 : ∀ t, t < 4 → Q 43 t = I (b + 7) t := fun t ht => by rw [qn _ (by omega) (by omega)]; exact cpI_7 (b := 36) ht
  have hI : Inv (n + 1) Q M := by
    refine Inv_d (Nat.le_succ n) h (fun q z1 z2 => qj q (by omega) (by omega) (by unfold scr at z1; omega)) (fun k hk => by rw [qj 33 (by omega) (by omega) (by omega)]) (fun k z1 z2 => q95 k (by omega) (by omega)) (lM 34 (by omega) (by omega)) ⟨dgB_m (Nat.le_succ n) g1 r e8 e9 er e6 e7, ⟨by rw [e8, q48]; exact g2, by rw [e9, q49]; exact g3, fun t ht => ?_, fun t ht => by rw [e6 t ht, q25 t ht]; exact g5 t ht, fun t ht => by rw [e7 t ht, q26 t ht]; exact g6 t ht, by rw [l44, l95]; exact g7⟩, slE_c (Nat.le_succ n) s0 r (fun k => by rw [qj 46 (by omega) (by omega) (by omega)]) (fun a ha => qj a (by omega) (by omega) (by omega)) (qj _ (by omega) (by omega) (by omega)) (qj _ (by omega) (by omega) (by omega)) (by rw [lM _ (by decide) (by decide)]) (lM _ (by decide) (by decide)), slE_c (Nat.le_succ n) s1 r (fun k => by rw [qj 55 (by omega) (by omega) (by omega)]) (fun a ha => qj a (by omega) (by omega) (by omega)) (qj _ (by omega) (by omega) (by omega)) (qj _ (by omega) (by omega) (by omega)) (by rw [lM _ (by decide) (by decide)]) (lM _ (by decide) (by decide))⟩
    obtain ⟨w1, w2, w3, w4, w5⟩ := g4 t ht
    have a1 := er 1 (by omega) t ht
    have a2 := er 2 (by omega) t ht
    have a3 := er 3 (by omega) t ht
    have a4 := er 4 (by omega) t ht
    have a5 := er 5 (by omega) t ht
    exact ⟨a1.trans (w1.trans (qr 0 (by omega) t ht).symm), a2.trans (w2.trans (qr 1 (by omega) t ht).symm), a3.trans (w3.trans (qr 2 (by omega) t ht).symm), a4.trans (w4.trans (qr 3 (by omega) t ht).symm), a5.trans (w5.trans (qr 4 (by omega) t ht).symm)⟩
  refine ⟨hI, ?_⟩
  obtain ⟨T, t1, t2, _⟩ := g1.1
  have nT : nN (I b 8) = T := by rw [t2]; exact nI_clamp (by omega)
  rw [q48, ← g2, nT]
  refine sm_ext T (fun k hk => ?_)
  rw [show prf (I (b + 2)) 3 (I 38) k = I (b + 2) k from if_pos (by omega), (g4 k (by omega)).2.1]
  exact qr 1 (by omega) k (by omega)
theorem st_take {n : Nat} {s : Int32} (h : Inv n I L) : Bth sc mX11_take mX12_take 2 2 [.int s] n I L tg := by
  obtain ⟨_, d, s0, s1⟩ := id h.2.2.2.1
  by_cases hc : 0 ≤ s.toInt ∧ s.toInt ≤ 1
  · rcases (show s.toInt = 0 ∨ s.toInt = 1 by omega) with z | z
    · obtain rfl : s = 0 := Int32.toInt_inj.mp z
      by_cases hu : I 46 10 = 0
      · exact Bth_p h (k_X11_takes_0 hu) (k_X12_take_n (sn := 0) rfl (by decide) (s0.1.mp hu)) rfl
      · obtain ⟨g1, g2, _⟩ := s0.2 hu
        obtain ⟨T, t1, t2, _⟩ := g1.1
        have iT : (nI T).toInt = T := nI_toInt (by omega)
        have jn : ∀ q, ¬ (36 ≤ q ∧ q ≤ 43) → cpI I 36 46 q = I q := fun q hq => cpI_n (by omega)
        obtain ⟨i1, i2⟩ := tk_inv (M := up (cpL L 36 46) 95 47 (cpL L 36 46 128 0)) (Or.inl ⟨rfl, rfl⟩) h hu rfl rfl
        refine Run_r (k_X11_take_0 hu (by rw [t2]; omega) (by rw [t2]; omega)) (Run_r (k_X12_take_y (sn := 0) rfl (by decide) (by rw [jn 129 (by omega)]; exact fun y => hu (s0.1.mpr y)) (by rw [jn 127 (by omega), ← g2, t2]; omega) (by rw [jn 127 (by omega), ← g2, t2]; omega)) ⟨i2, i1⟩)
    · obtain rfl : s = 1 := Int32.toInt_inj.mp z
      by_cases hu : I 55 10 = 0
      · exact Bth_p h (k_X11_takes_1 hu) (k_X12_take_n (sn := 1) rfl (by decide) (s1.1.mp hu)) rfl
      · obtain ⟨g1, g2, _⟩ := s1.2 hu
        obtain ⟨T, t1, t2, _⟩ := g1.1
        have iT : (nI T).toInt = T := nI_toInt (by omega)
        have jn : ∀ q, ¬ (36 ≤ q ∧ q ≤ 43) → cpI I 36 55 q = I q := fun q hq => cpI_n (by omega)
        obtain ⟨i1, i2⟩ := tk_inv (M := up (cpL L 36 55) 95 47 (cpL L 36 55 128 1)) (Or.inr ⟨rfl, rfl⟩) h hu rfl rfl
        refine Run_r (k_X11_take_1 hu (by rw [t2]; omega) (by rw [t2]; omega)) (Run_r (k_X12_take_y (sn := 1) rfl (by decide) (by rw [jn 129 (by omega)]; exact fun y => hu (s1.1.mpr y)) (by rw [jn 127 (by omega), ← g2, t2]; omega) (by rw [jn 127 (by omega), ← g2, t2]; omega)) ⟨i2, i1⟩)
  · exact Bth_p h (k_X11_take_r hc) (k_X12_take_r hc) rfl
end
