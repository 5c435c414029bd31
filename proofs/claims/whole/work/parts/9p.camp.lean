/-! steps: camp -/
section
variable {sc : Sc} {I J : Is} {L K : Ls} {tg : Nat}
theorem rc0_n {q : Nat} (h : q ≠ 18 ∧ q ≠ 19 ∧ q ≠ 20 ∧ q ≠ 25 ∧ q ≠ 26 ∧ q ≠ 33) : rc0 I q = I q := by
  obtain ⟨h1, h2, h3, h4, h5, h6⟩ := h
  simp [rc0, cuI, up_eq, upr_eq, h1, h2, h3, h4, h5, h6]
theorem rc0_4 : rc0 I 33 4 = 0 ∧ rc0 I 33 5 = -1 := by simp [rc0, cuI, up_eq, upr_eq, vu_eq]
theorem mtp_0 (h : iT I) : ∀ j, 0 ≤ (I 2 j).toInt := by
  intro j
  rw [h.2.1]
  show 0 ≤ (I 96 j &&& 255).toInt
  have e : I 96 j &&& 255 = nI ((I 96 j).toBitVec.toNat &&& 255) := by
    apply Int32.toBitVec_inj.mp
    apply BitVec.eq_of_toNat_eq
    have lt : (I 96 j).toBitVec.toNat &&& 255 < 2 ^ 8 := Nat.and_lt_two_pow _ (by decide)
    show ((I 96 j).toBitVec &&& 255#32).toNat = (BitVec.ofNat 32 ((I 96 j).toBitVec.toNat &&& 255)).toNat
    rw [BitVec.toNat_and]
    show (I 96 j).toBitVec.toNat &&& 255 = (BitVec.ofNat 32 ((I 96 j).toBitVec.toNat &&& 255)).toNat
    rw [BitVec.toNat_ofNat, Nat.mod_eq_of_lt (by omega)]
  have lt : (I 96 j).toBitVec.toNat &&& 255 < 2 ^ 8 := Nat.and_lt_two_pow _ (by decide)
  rw [e, nI_toInt (by omega)]
  omega
theorem st_camp_f {n N : Nat} (h : Inv n I L) (h9 : N ≤ 900) (e1 : I 1 1 = nI N) (e2 : I 95 1 = nI N) (hr : (cM N 901 (rc0 I) L).1 = 0) : Bth sc mX11_camp mX12_camp 5 8 [] n I L tg := by
  obtain ⟨i1, i2, i3, ⟨i4, i5, i6, i7⟩, i8, i9, i10, i11, i12⟩ := id h
  have b0 := mtp_0 i1
  obtain ⟨f1, f2, _⟩ := cM_fr (N := N) 901 (rc0 I) L
  have c2 : rc0 I 2 = mtp I := by rw [rc0_n (by decide)]; exact i1.2.1
  refine Run_s (k_X11_camp_f e1 h9 (fun j _ => b0 j) hr) ?_
  have jn : ∀ q, ¬ (18 ≤ q ∧ q ≤ 35) → q ≠ 1 → up (cM N 901 (rc0 I) L).2.1 1 1 0 q = I q := fun q z1 z2 => by rw [up_n _ _ _ z2, f1 q z1, rc0_n (by omega)]
  refine Run_g (k_X12_camp (N := N) (C := rc0 I) (M := L) c0R_0 (Mq_0 e1 h9 (fun j _ => b0 j)) (by rw [c2]; funext j; unfold mtp; rw [jn 96 (by omega) (by omega)]) (by rw [jn 95 (by omega) (by omega)]; exact e2) (fun j _ => by rw [jn 96 (by omega) (by omega)]; exact i1.2.2 j) i12) (fun v Q M tq hv => ?_)
  obtain ⟨_, q1, qL, hv⟩ := hv
  rcases hv with ⟨rfl, fl, qa, qf⟩ | ⟨_, y, _⟩
  · refine ⟨rfl, ?_⟩
    have qn : ∀ a, ¬ (18 ≤ a ∧ a ≤ 35) → a ≠ 1 → ¬ (a = 95 ∨ a = 98 ∨ (111 ≤ a ∧ a ≤ 119)) → Q a = I a := fun a z1 z2 z3 => by rw [qa a z3, jn a z1 z2]
    have q95 : ∀ k, ¬ ((1 ≤ k ∧ k ≤ 9) ∨ (16 ≤ k ∧ k ≤ 22) ∨ k = 46) → Q 95 k = I 95 k := fun k hk => by rw [qf k hk, jn 95 (by omega) (by omega)]
    have m : ∀ a, a ≠ 21 → a ≠ 27 → a ≠ 31 → a ≠ 33 → ¬ (99 ≤ a ∧ a ≤ 101) → M a = L a := fun a z1 z2 z3 z4 z5 => by rw [qL a z5, f2 a z1 z2 z3 z4]
    have r : ∀ a, 3 ≤ a ∧ a ≤ 17 → Q a = I a := fun a ha => qn a (by omega) (by omega) (by omega)
    have q : ∀ a, (36 ≤ a ∧ a ≤ 94) ∨ a = 2 ∨ a = 96 ∨ a = 97 ∨ (102 ≤ a ∧ a ≤ 110) ∨ 120 ≤ a → Q a = I a := fun a ha => qn a (by omega) (by omega) (by omega)
    refine ⟨⟨⟨0, by omega, ?_, q1⟩, ?_, ?_⟩, ⟨?_, ?_⟩, iC_c i3 r (fun k hk => q95 k (by omega)) (q 97 (by omega)) (fun a ha => q a (by omega)), ⟨dgB_c (Nat.le_succ n) i4 r (fun k _ => by rw [q 36 (by omega)]) (q _ (by omega)) (q _ (by omega)) (q _ (by omega)) (q _ (by omega)) (q _ (by omega)), dgE_c i5 (fun a ha => q a (by omega)) (fun k _ => by rw [q 36 (by omega)]) (fun k hk => q95 k (by omega)) (fun a ha => q a (by omega)) (by rw [m 44 (by decide) (by decide) (by decide) (by decide) (by omega)]) (by rw [m 95 (by decide) (by decide) (by decide) (by decide) (by omega)]), slE_c (Nat.le_succ n) i6 r (fun k => by rw [q 46 (by omega)]) (fun a ha => q a (by omega)) (q _ (by omega)) (q _ (by omega)) (by rw [m _ (by decide) (by decide) (by decide) (by decide) (by omega)]) (m _ (by decide) (by decide) (by decide) (by decide) (by omega)), slE_c (Nat.le_succ n) i7 r (fun k => by rw [q 55 (by omega)]) (fun a ha => q a (by omega)) (q _ (by omega)) (q _ (by omega)) (by rw [m _ (by decide) (by decide) (by decide) (by decide) (by omega)]) (m _ (by decide) (by decide) (by decide) (by decide) (by omega))⟩, iG_c i8 r (q _ (by omega)) (q _ (by omega)), iR_c i9 (fun a ha => q a (by omega)) (fun k hk => q95 k (by omega)) (fun a ha => q a (by omega)), iN_c i10 (fun k _ => by rw [q 84 (by omega)]) (fun a ha => q a (by omega)) (fun k hk => q95 k (by omega)) (fun a ha => q a (by omega)) (q _ (by omega)) (q _ (by omega)), iL_c i11 (by rw [q 92 (by omega)]) (q _ (by omega)) (q95 _ (by omega)) (q _ (by omega)), kwT_c i12 (m 34 (by decide) (by decide) (by decide) (by decide) (by omega))⟩
    · rw [qa 1 (by omega), up_s, vu_s]; rfl
    · rw [q 2 (by omega), i1.2.1]; funext j; unfold mtp; rw [q 96 (by omega)]
    · rw [q 96 (by omega)]; exact i1.2.2
    · rw [qa 33 (by omega), up_n _ _ _ (by decide)]; exact fl.2.1
    · rw [qa 33 (by omega), up_n _ _ _ (by decide)]; exact fl.2.2
  · rw [hr] at y; exact absurd y (by decide)
/-- what the component's camp leaves -/
theorem cz_n {q : Nat} (h : ¬ (q = 36 ∨ q = 42 ∨ q = 43 ∨ q = 46 ∨ q = 55 ∨ q = 69 ∨ q = 75 ∨ q = 84 ∨ q = 92)) : cz I q = I q := by
  unfold cz sclr clI
  rw [up_n _ _ _ (by omega), up_n _ _ _ (by omega), up_n _ _ _ (by omega), up_n _ _ _ (by omega), up_n _ _ _ (by omega), up_n _ _ _ (by omega), upr_n _ _ (by omega), up_n _ _ _ (by omega), up_n _ _ _ (by omega), upr_n _ _ (by omega), upr_n _ _ (by omega), up_n _ _ _ (by omega), up_n _ _ _ (by omega)]
theorem cz_f : cz I 36 8 = 0 ∧ cz I 36 9 = 0 ∧ cz I 42 = fillr (I 42) 5 0 ∧ cz I 43 = fillr (I 43) 4 0 ∧ cz I 46 10 = 0 ∧ cz I 55 10 = 0 ∧ cz I 69 = fillr (I 69) 5 0 ∧ cz I 75 8 = 0 ∧ cz I 75 9 = 0 ∧ cz I 75 10 = 0 ∧ cz I 75 11 = 0 ∧ cz I 84 9 = 0 ∧ cz I 84 7 = I 84 7 ∧ cz I 84 8 = I 84 8 ∧ cz I 92 3 = 0 := by
  unfold cz sclr clI
  simp [up_eq, upr_eq, vu_eq]
theorem st_camp_t {n N : Nat} (h : Inv n I L) (h9 : N ≤ 900) (e1 : I 1 1 = nI N) (e2 : I 95 1 = nI N) (hr : ¬ (cM N 901 (rc0 I) L).1 = 0) : Bth sc mX11_camp mX12_camp 5 8 [] n I L tg := by
  obtain ⟨i1, i2, i3, ⟨i4, i5, i6, i7⟩, i8, i9, i10, i11, i12⟩ := id h
  have b0 := mtp_0 i1
  obtain ⟨f1, f2, f3⟩ := cM_fr (N := N) 901 (rc0 I) L
  obtain ⟨f4, f5⟩ := f3 hr
  have c2 : rc0 I 2 = mtp I := by rw [rc0_n (by decide)]; exact i1.2.1
  refine Run_s (k_X11_camp_t e1 h9 (fun j _ => b0 j) hr) ?_
  have sw : ∀ q, q < 3 ∨ 33 ≤ q → q ≠ 1 → cmI (cM N 901 (rc0 I) L).2.1 q = (cM N 901 (rc0 I) L).2.1 q := fun q z1 z2 => by unfold cmI; rw [swp_out z1, up_n _ _ _ z2]
  have jn : ∀ q, q < 3 ∨ 36 ≤ q → q ≠ 1 → ¬ (q = 36 ∨ q = 42 ∨ q = 43 ∨ q = 46 ∨ q = 55 ∨ q = 69 ∨ q = 75 ∨ q = 84 ∨ q = 92) → cz (cmI (cM N 901 (rc0 I) L).2.1) q = I q := fun q z1 z2 z3 => by rw [cz_n z3, sw q (by omega) z2, f1 q (by omega), rc0_n (by omega)]
  refine Run_g (k_X12_camp (N := N) (C := rc0 I) (M := L) c0R_0 (Mq_0 e1 h9 (fun j _ => b0 j)) (by rw [c2]; funext j; unfold mtp; rw [jn 96 (by omega) (by omega) (by omega)]) (by rw [jn 95 (by omega) (by omega) (by omega)]; exact e2) (fun j _ => by rw [jn 96 (by omega) (by omega) (by omega)]; exact i1.2.2 j) i12) (fun v Q M tq hv => ?_)
  obtain ⟨_, q1, qL, hv⟩ := hv
  rcases hv with ⟨_, fl, _⟩ | ⟨rfl, y, ⟨q8, q9⟩, qc, q130, qz, q125, q126, q129, qa, qf⟩
  · exact absurd fl.1 hr
  · refine ⟨rfl, ?_⟩
    obtain ⟨z1, z2, z3, z4, z5, z6, z7, z8, z9, z10, z11, z12, z13, z14, z15⟩ := cz_f (I := cmI (cM N 901 (rc0 I) L).2.1)
    have qn : ∀ a, a < 3 ∨ 36 ≤ a → a ≠ 1 → ¬ (a = 36 ∨ a = 42 ∨ a = 43 ∨ a = 46 ∨ a = 55 ∨ a = 69 ∨ a = 75 ∨ a = 84 ∨ a = 92) → ¬ (a = 95 ∨ a = 97 ∨ a = 98 ∨ (102 ≤ a ∧ a ≤ 119) ∨ a = 125 ∨ a = 126 ∨ a = 129 ∨ a = 130) → Q a = I a := fun a y1 y2 y3 y4 => by rw [qa a y4, jn a y1 y2 y3]
    have qj : ∀ a, a < 95 → Q a = cz (cmI (cM N 901 (rc0 I) L).2.1) a := fun a ha => qa a (by omega)
    have q95 : ∀ k, ¬ ((1 ≤ k ∧ k ≤ 22) ∨ k = 46 ∨ k = 48 ∨ k = 49 ∨ (69 ≤ k ∧ k ≤ 72) ∨ k = 92 ∨ k = 91) → Q 95 k = I 95 k := fun k hk => by rw [qf k hk, jn 95 (by omega) (by omega) (by omega)]
    have m : ∀ a, a ≠ 33 → 33 ≤ a → ¬ (99 ≤ a ∧ a ≤ 101) → M a = L a := fun a y1 y2 y3 => by
      rw [qL a y3]
      show (cM N 901 (rc0 I) L).2.2 (swp a) = L a
      rw [swp_out (Or.inr y2), f2 a (by omega) (by omega) (by omega) y1]
    have hC : iC Q := by
      refine cmR_c qc (fun k hk => ?_) (fun _ _ => rfl) rfl (fun _ _ => rfl)
      rw [qj (3 + k) (by omega), cz_n (by omega)]
      show up (cM N 901 (rc0 I) L).2.1 1 1 0 (swp (3 + k)) = (cM N 901 (rc0 I) L).2.1 (18 + k)
      have : swp (3 + k) = 18 + k := by unfold swp; rw [if_pos (by omega)]; omega
      rw [this, up_n _ _ _ (by omega)]
    obtain ⟨H, G, K, cx⟩ := cm_x hC
    obtain ⟨⟨h5, h4, _⟩, ⟨a1, a2, _⟩, ⟨b1, b2, _⟩, _, _, _, dd, ee, _⟩ := id cx
    have nH : nN (Q 3 14) = H := by rw [a1]; exact nI_clamp (by omega)
    have nH2 : nN (Q 95 10) = H := by rw [b1]; exact nI_clamp (by omega)
    have nG : nN (Q 3 15) = G := by rw [a2]; exact nI_clamp (by omega)
    obtain ⟨P, R, q, p8, r5, q8', o1, o2, o3, o4, o5, o6, hp, hrr, ⟨u1, u2, u3⟩, hg⟩ := i10
    have q36 : Q 36 8 = 0 ∧ Q 36 9 = 0 := by rw [qj 36 (by omega)]; exact ⟨z1, z2⟩
    have q42 : ∀ k, k < 5 → Q 42 k = 0 := fun k hk => by rw [qj 42 (by omega), z3]; exact if_pos hk
    have q43 : ∀ k, k < 4 → Q 43 k = 0 := fun k hk => by rw [qj 43 (by omega), z4]; exact if_pos hk
    have q69 : ∀ k, k < 5 → Q 69 k = 0 := fun k hk => by rw [qj 69 (by omega), z7]; exact if_pos hk
    have e84 : cmI (cM N 901 (rc0 I) L).2.1 84 = I 84 := by rw [sw 84 (by omega) (by omega), f1 84 (by omega), rc0_n (by omega)]
    have n145 : Q 145 = I 145 := qn 145 (by omega) (by omega) (by omega) (by omega)
    have n146 : Q 146 = I 146 := qn 146 (by omega) (by omega) (by omega) (by omega)
    have n144 : Q 144 = I 144 := qn 144 (by omega) (by omega) (by omega) (by omega)
    refine ⟨⟨⟨0, by omega, ?_, q1⟩, ?_, ?_⟩, ⟨?_, ?_⟩, hC, ⟨⟨⟨0, by omega, q36.1, fun t ht => by omega⟩, ?_, fun k hk => ?_, fun g hg => ?_⟩, ⟨?_, ?_, fun t ht => ?_, fun k hk => ?_, fun k hk => ?_, ?_⟩, ⟨?_, fun w => ?_⟩, ⟨?_, fun w => ?_⟩⟩, ⟨fun k hk => ?_, fun k k1 k2 => q69 k k2⟩, ⟨0, 0, by omega, by omega, ?_, qz 69 (by omega), ?_, qz 70 (by omega), ?_, ?_, ?_, fun k hk => by omega, fun k hk => by omega⟩, ⟨P, R, 0, p8, r5, by omega, ?_, by rw [q95 83 (by omega)]; exact o2, ?_, by rw [q95 84 (by omega)]; exact o4, ?_, qz 91 (by omega), fun p hpp => ?_, fun p hpp => ?_, ⟨by rw [q95 84 (by omega)]; exact u1, by rw [q95 84 (by omega), n145, n146]; exact u2, by rw [n144]; exact u3⟩, fun i hi => by omega⟩, ⟨0, by omega, ?_, qz 92 (by omega), fun i hi => by omega⟩, kwT_c i12 (m 34 (by omega) (by omega) (by omega))⟩
    · rw [qj 1 (by omega), cz_n (by omega)]
      show up (cM N 901 (rc0 I) L).2.1 1 1 0 (swp 1) 1 = 0
      rw [swp_out (by omega), up_s, vu_s]
    · rw [qn 2 (by omega) (by omega) (by omega) (by omega), i1.2.1]; funext j; unfold mtp; rw [qn 96 (by omega) (by omega) (by omega) (by omega)]
    · rw [qn 96 (by omega) (by omega) (by omega) (by omega)]; exact i1.2.2
    · rw [qj 33 (by omega), cz_n (by omega), sw 33 (by omega) (by omega), f4, q8]; exact rc0_4.1
    · rw [qj 33 (by omega), cz_n (by omega), sw 33 (by omega) (by omega), f5, q9]; exact rc0_4.2
    · rw [q36.2]; exact ⟨by decide, (bAll_b hC).1⟩
    · show 0 ≤ (Q 42 k).toInt ∧ (Q 42 k).toInt ≤ 200000 * ((n + 1 : Nat) : Int)
      rw [q42 k hk]; simp only [Int32.reduceToInt]; omega
    · show 0 ≤ (Q 43 g).toInt ∧ (g < nN (Q 3 15) → (Q 43 g).toInt ≤ (Q 15 g).toInt)
      rw [q43 g hg]
      refine ⟨by decide, fun w => ?_⟩
      have := (ee g (by omega)).2.2.2.2.2.2.2.1
      simp only [Int32.reduceToInt]
      omega
    · rw [q36.1, qz 48 (by omega)]
    · rw [q36.2, qz 49 (by omega)]
    · rw [qn 37 (by omega) (by omega) (by omega) (by omega), qn 38 (by omega) (by omega) (by omega) (by omega), qn 39 (by omega) (by omega) (by omega) (by omega), qn 40 (by omega) (by omega) (by omega) (by omega), qn 41 (by omega) (by omega) (by omega) (by omega), qn 120 (by omega) (by omega) (by omega) (by omega), qn 121 (by omega) (by omega) (by omega) (by omega), qn 122 (by omega) (by omega) (by omega) (by omega), qn 123 (by omega) (by omega) (by omega) (by omega), qn 124 (by omega) (by omega) (by omega) (by omega)]
      exact i5.2.2.1 t ht
    · rw [q42 k hk, q125 k hk]
    · rw [q43 k hk, q126 k hk]
    · rw [m 44 (by omega) (by omega) (by omega), m 95 (by omega) (by omega) (by omega)]; exact i5.2.2.2.2.2
    · rw [qj 46 (by omega), z5, q129 0 (by omega)]
    · rw [qj 46 (by omega), z5] at w; exact absurd rfl w
    · rw [qj 55 (by omega), z6, q129 1 (by omega)]
    · rw [qj 55 (by omega), z6] at w; exact absurd rfl w
    · rw [q69 k (by omega), q130 k (by omega)]
      have := dd k (by omega)
      refine ⟨rfl, by decide, ?_⟩
      simp only [Int32.reduceToInt]
      omega
    · rw [qj 75 (by omega), z8]; rfl
    · rw [qj 75 (by omega), z9]; rfl
    · rw [qj 75 (by omega), z10, qz 71 (by omega)]
    · rw [qj 75 (by omega), z10]; decide
    · rw [qj 75 (by omega), z11, qz 72 (by omega)]
    · rw [qj 84 (by omega), z13, e84]; exact o1
    · rw [qj 84 (by omega), z14, e84]; exact o3
    · rw [qj 84 (by omega), z12]; rfl
    · rw [qn 85 (by omega) (by omega) (by omega) (by omega), n144]; exact hp p hpp
    · rw [qn 86 (by omega) (by omega) (by omega) (by omega), qn 87 (by omega) (by omega) (by omega) (by omega), n145, n146]; exact hrr p hpp
    · rw [qj 92 (by omega), z15]; rfl
theorem st_camp {n : Nat} (h : Inv n I L) : Bth sc mX11_camp mX12_camp 5 8 [] n I L tg := by
  obtain ⟨N, h9, e1, e2⟩ := h.1.1
  by_cases hr : (cM N 901 (rc0 I) L).1 = 0
  · exact st_camp_f h h9 e1 e2 hr
  · exact st_camp_t h h9 e1 e2 hr
end
