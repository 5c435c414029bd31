/-! the two readers side by side: the end of a clause -/
section
variable {I J C C2 : Is} {L L2 M M2 : Ls}
def cE (C : Is) (N p k H G K : Nat) : Is := up (apcI (tokI C N p) k H G K) 33 11 0
def mE (C : Is) (M : Ls) (N p k H G K : Nat) : Ls := apL (tokL C M N p) k H G K
theorem end_s {N p k H G K n s : Nat} (hs : s = wdN k + nmN k + 1) (hM : Mq N C p k s H G K) (ht : C 2 = mtp I) (hS : mSc I N p) (hn : N - p < n) : (¬ I 95 5 = 3 → Flt N n C M (bdI I 1)) ∧ (I 95 5 = 3 → ∃ m p', cQ N n C M m (cE C N p k H G K) (mE C M N p k H G K) ∧ Mq N (cE C N p k H G K) p' k 0 (if k = 0 then H + 1 else H) (if k = 1 then G + 1 else G) (if k = 4 then K + 1 else K) ∧ N - p' < m ∧ I 95 4 = nI p' ∧ p' ≤ N) := by
  subst hs
  obtain ⟨h2, h9, hb, hp, h3, h4, h5, h6, _⟩ := id hS
  have hT := Mq_t hM
  have t7 := tk_7 (I := C) N p
  rw [h5]
  constructor
  · intro z
    have z7 : ¬ tokI C N p 33 7 = 3 := by rw [t7, ht]; exact fun y => z (mHd_3.mpr y)
    exact Flt_s hM (by omega) ht hS hn (by rw [acP_s (by omega) (by omega) z7]) (by decide)
  · intro z
    have z7 : tokI C N p 33 7 = 3 := by rw [t7, ht]; exact mHd_3.mp z
    have ea : acP (tokI C N p) (tokL C M N p) k (wdN k + nmN k + 1) H G K = (0, cE C N p k H G K, mE C M N p k H G K) := acP_e (by omega) (by omega) z7
    obtain ⟨m, hm, hmn, e⟩ := adv (M := M) hM (by omega) hn (by rw [ea])
    rw [ea] at e
    have fr := (ac_fr (I := tokI C N p) (L := tokL C M N p) k (wdN k + nmN k + 1) H G K).1
    rw [ea] at fr
    have fr : frI (tokI C N p) (cE C N p k H G K) := fr
    have hP := Pw_e hT.2.2.2.2.2 (by omega)
    exact ⟨m, lxD (C 2) N (lxQ (C 2) N p), ⟨e, by omega⟩, ⟨by rw [fr.1 1 (by omega)]; exact hT.1, hT.2.1, by rw [fr.1 2 (by omega)]; exact hT.2.2.1, hT.2.2.2.1, by rw [fr.2 6 (by omega)]; exact hT.2.2.2.2.1, hP⟩, hmn, by rw [h4, ht], hT.2.2.2.1⟩
/-- what both readers have read -/
def dA (C : Is) (M : Ls) (I : Is) (L : Ls) (H G K : Nat) : Prop := dH C M I L H ∧ dG C M I L G ∧ dK C M I L K ∧ dS C I ∧ dT C I ∧ dR C I ∧ I 95 19 = C 18 17
theorem dH_c {H : Nat} (h : dH C M I L H) (c2 : C2 22 = C 22) (c3 : C2 23 = C 23) (c4 : C2 24 = C 24) (c5 : C2 25 = C 25) (m : M2 21 = M 21) (i : J 95 16 = I 95 16) (i1 : J 111 = I 111) (i2 : J 112 = I 112) (i3 : J 113 = I 113) (i4 : J 114 = I 114) (l : L2 99 = L 99) : dH C2 M2 J L2 H := by
  unfold dH at *
  rw [c2, c3, c4, c5, m, i, i1, i2, i3, i4, l]
  exact h
theorem dG_c {G : Nat} (h : dG C M I L G) (c2 : C2 28 = C 28) (c3 : C2 29 = C 29) (c4 : C2 30 = C 30) (m : M2 27 = M 27) (i : J 95 17 = I 95 17) (i1 : J 116 = I 116) (i2 : J 117 = I 117) (i3 : J 118 = I 118) (l : L2 100 = L 100) : dG C2 M2 J L2 G := by
  unfold dG at *
  rw [c2, c3, c4, m, i, i1, i2, i3, l]
  exact h
theorem dK_c {K : Nat} (h : dK C M I L K) (c2 : C2 32 = C 32) (m : M2 31 = M 31) (i : J 95 18 = I 95 18) (i1 : J 119 = I 119) (l : L2 101 = L 101) : dK C2 M2 J L2 K := by
  unfold dK at *
  rw [c2, m, i, i1, l]
  exact h
theorem dS_c (h : dS C I) (c : C2 19 = C 19) (i : J 98 = I 98) (i0 : J 95 20 = I 95 20) (i1 : J 95 21 = I 95 21) : dS C2 J := by
  unfold dS at *
  rw [c, i, i0, i1]
  exact h
theorem dT_c (h : dT C I) (c : C2 20 = C 20) (i : J 95 22 = I 95 22) : dT C2 J := by
  unfold dT at *
  rw [c, i]
  exact h
theorem dR_c (h : dR C I) (c : C2 26 = C 26) (i : J 95 46 = I 95 46) (i1 : J 115 = I 115) : dR C2 J := by
  unfold dR at *
  rw [c, i, i1]
  exact h
/-- behind the sign -/
def mNx (J J2 : Is) : Prop := (∀ a, a ≠ 95 → J2 a = J a) ∧ (∀ k, k < 3 ∨ 9 < k → k ≠ 19 → J2 95 k = J 95 k) ∧ J2 95 19 = J 95 19 + 1
theorem D_hut {N H G K p : Nat} {C' J2 : Is} {M' K' : Ls} (d : dA C M I L H G K) (cs : Cst C C' M M') (h : suH N H G K I L C' M' J K' p) (x : mNx J J2) : dA (cE C' N p 0 H G K) (mE C' M' N p 0 H G K) J2 K' (H + 1) G K := by
  obtain ⟨d1, d2, d3, d4, d5, d6, d7⟩ := d
  obtain ⟨_, h5, e16, e11, e12, e13, e14, eK, eA, eF, l1, l2, l3, l4, l5, l6⟩ := h
  have jA : ∀ a, a ≠ 95 ∧ ¬ (111 ≤ a ∧ a ≤ 114) → J2 a = I a := fun a ha => by rw [x.1 a ha.1, eA a ha.1 ha.2]
  have jF : ∀ k, (k < 3 ∨ 9 < k) ∧ k ≠ 16 ∧ k ≠ 19 → J2 95 k = I 95 k := fun k hk => by rw [x.2.1 k hk.1 hk.2.2, eF k hk.1 hk.2.1]
  have cA : ∀ a, a ≠ 18 ∧ a ≠ 22 ∧ a ≠ 23 ∧ a ≠ 24 ∧ a ≠ 33 ∧ a ≠ 35 → cE C' N p 0 H G K a = C a := fun a ⟨a1, a2, a3, a4, a5, a6⟩ => by
    rw [← cs.1 a a5 a6]; simp [cE, apcI, ahI, ap1, up_eq, tk_a, a1, a2, a3, a4, a5]
  have mA : ∀ a, a ≠ 33 ∧ a ≠ 21 → mE C' M' N p 0 H G K a = M a := fun a ⟨a1, a2⟩ => by
    rw [← cs.2 a a1]; simp [mE, apL, up_eq, tl_n, a1, a2]
  have c22 : cE C' N p 0 H G K 22 = va_up (C 22) H (C' 35 0) := by rw [← cs.1 22 (by decide) (by decide)]; simp [cE, apcI, ahI, ap1, up_eq, tk_a]
  have c23 : cE C' N p 0 H G K 23 = va_up (C 23) H (C' 35 1) := by rw [← cs.1 23 (by decide) (by decide)]; simp [cE, apcI, ahI, ap1, up_eq, tk_a]
  have c24 : cE C' N p 0 H G K 24 = va_up (C 24) H (C' 35 2) := by rw [← cs.1 24 (by decide) (by decide)]; simp [cE, apcI, ahI, ap1, up_eq, tk_a]
  have c18 : cE C' N p 0 H G K 18 17 = C 18 17 + 1 := by rw [← cs.1 18 (by decide) (by decide)]; simp [cE, apcI, ahI, ap1, up_eq, vu_eq, tk_a]
  have m21 : mE C' M' N p 0 H G K 21 = va_up (M 21) H (M' 33 13) := by rw [← cs.2 21 (by decide)]; simp [mE, apL, up_eq, tl_n, tl_k]
  have k99 : K' 99 = va_up (L 99) H (M' 33 13) := by rw [eK, up_s]
  refine ⟨⟨by rw [x.2.1 16 (by omega) (by decide), e16], fun h hh => ?_, fun h h1 h2 => ?_⟩, dG_c d2 (cA _ (by decide)) (cA _ (by decide)) (cA _ (by decide)) (mA _ (by decide)) (jF _ (by decide)) (jA _ (by decide)) (jA _ (by decide)) (jA _ (by decide)) (by rw [eK, up_n _ _ _ (by decide)]), dK_c d3 (cA _ (by decide)) (mA _ (by decide)) (jF _ (by decide)) (jA _ (by decide)) (by rw [eK, up_n _ _ _ (by decide)]), dS_c d4 (cA _ (by decide)) (jA _ (by decide)) (jF _ (by decide)) (jF _ (by decide)), dT_c d5 (cA _ (by decide)) (jF _ (by decide)), dR_c d6 (cA _ (by decide)) (jF _ (by decide)) (jA _ (by decide)), by rw [x.2.2, eF 19 (by omega) (by decide), d7, c18]⟩
  · rw [m21, k99, c22, c23, c24, cA 25 (by decide), x.1 111 (by decide), x.1 112 (by decide), x.1 113 (by decide), x.1 114 (by decide), e11, e12, e13, e14]
    by_cases z : h = H
    · subst z
      have m1 := d1.2.2 h (Nat.le_refl _) h5
      simp only [vu_s]
      rw [m1]
      exact ⟨trivial, trivial, trivial, trivial, rfl, l1, l2, l3, l4, l5, l6, by decide, by decide⟩
    · simp only [vu_n _ _ z]
      exact d1.2.1 h (by omega)
  · rw [cA 25 (by decide)]
    exact d1.2.2 h (by omega) h2
theorem D_garden {N H G K p : Nat} {C' J2 : Is} {M' K' : Ls} (d : dA C M I L H G K) (cs : Cst C C' M M') (h : suG N H G K I L C' M' J K' p) (x : mNx J J2) : dA (cE C' N p 1 H G K) (mE C' M' N p 1 H G K) J2 K' H (G + 1) K := by
  obtain ⟨d1, d2, d3, d4, d5, d6, d7⟩ := d
  obtain ⟨_, h5, e16, e11, e12, e13, eK, eA, eF, l1, l2, l3, l4, l5, l6⟩ := h
  have jA : ∀ a, a ≠ 95 ∧ ¬ (116 ≤ a ∧ a ≤ 118) → J2 a = I a := fun a ha => by rw [x.1 a ha.1, eA a ha.1 ha.2]
  have jF : ∀ k, (k < 3 ∨ 9 < k) ∧ k ≠ 17 ∧ k ≠ 19 → J2 95 k = I 95 k := fun k hk => by rw [x.2.1 k hk.1 hk.2.2, eF k hk.1 hk.2.1]
  have cA : ∀ a, a ≠ 18 ∧ a ≠ 28 ∧ a ≠ 29 ∧ a ≠ 30 ∧ a ≠ 33 ∧ a ≠ 35 → cE C' N p 1 H G K a = C a := fun a ⟨a1, a2, a3, a4, a5, a6⟩ => by
    rw [← cs.1 a a5 a6]; simp [cE, apcI, agI, ap1, up_eq, tk_a, a1, a2, a3, a4, a5]
  have mA : ∀ a, a ≠ 33 ∧ a ≠ 27 → mE C' M' N p 1 H G K a = M a := fun a ⟨a1, a2⟩ => by
    rw [← cs.2 a a1]; simp [mE, apL, up_eq, tl_n, a1, a2]
  have c22 : cE C' N p 1 H G K 28 = va_up (C 28) G (C' 35 0) := by rw [← cs.1 28 (by decide) (by decide)]; simp [cE, apcI, agI, ap1, up_eq, tk_a]
  have c23 : cE C' N p 1 H G K 29 = va_up (C 29) G (C' 35 1) := by rw [← cs.1 29 (by decide) (by decide)]; simp [cE, apcI, agI, ap1, up_eq, tk_a]
  have c24 : cE C' N p 1 H G K 30 = va_up (C 30) G (C' 35 2) := by rw [← cs.1 30 (by decide) (by decide)]; simp [cE, apcI, agI, ap1, up_eq, tk_a]
  have c18 : cE C' N p 1 H G K 18 17 = C 18 17 + 1 := by rw [← cs.1 18 (by decide) (by decide)]; simp [cE, apcI, agI, ap1, up_eq, vu_eq, tk_a]
  have m21 : mE C' M' N p 1 H G K 27 = va_up (M 27) G (M' 33 13) := by rw [← cs.2 27 (by decide)]; simp [mE, apL, up_eq, tl_n, tl_k]
  have k99 : K' 100 = va_up (L 100) G (M' 33 13) := by rw [eK, up_s]
  refine ⟨dH_c d1 (cA _ (by decide)) (cA _ (by decide)) (cA _ (by decide)) (cA _ (by decide)) (mA _ (by decide)) (jF _ (by decide)) (jA _ (by decide)) (jA _ (by decide)) (jA _ (by decide)) (jA _ (by decide)) (by rw [eK, up_n _ _ _ (by decide)]), ⟨by rw [x.2.1 17 (by omega) (by decide), e16], fun h hh => ?_⟩, dK_c d3 (cA _ (by decide)) (mA _ (by decide)) (jF _ (by decide)) (jA _ (by decide)) (by rw [eK, up_n _ _ _ (by decide)]), dS_c d4 (cA _ (by decide)) (jA _ (by decide)) (jF _ (by decide)) (jF _ (by decide)), dT_c d5 (cA _ (by decide)) (jF _ (by decide)), dR_c d6 (cA _ (by decide)) (jF _ (by decide)) (jA _ (by decide)), by rw [x.2.2, eF 19 (by omega) (by decide), d7, c18]⟩
  rw [m21, k99, c22, c23, c24, x.1 116 (by decide), x.1 117 (by decide), x.1 118 (by decide), e11, e12, e13]
  by_cases z : h = G
  · subst z
    simp only [vu_s]
    exact ⟨trivial, trivial, trivial, trivial, l1, l2, l3, l4, l5, l6⟩
  · simp only [vu_n _ _ z]
    exact d2.2 h (by omega)
theorem D_look {N H G K p : Nat} {C' J2 : Is} {M' K' : Ls} (d : dA C M I L H G K) (cs : Cst C C' M M') (h : suK N H G K I L C' M' J K' p) (x : mNx J J2) : dA (cE C' N p 4 H G K) (mE C' M' N p 4 H G K) J2 K' H G (K + 1) := by
  obtain ⟨d1, d2, d3, d4, d5, d6, d7⟩ := d
  obtain ⟨_, h5, e16, e11, eK, eA, eF, l1, l2⟩ := h
  have jA : ∀ a, a ≠ 95 ∧ ¬ a = 119 → J2 a = I a := fun a ha => by rw [x.1 a ha.1, eA a ha.1 ha.2]
  have jF : ∀ k, (k < 3 ∨ 9 < k) ∧ k ≠ 18 ∧ k ≠ 19 → J2 95 k = I 95 k := fun k hk => by rw [x.2.1 k hk.1 hk.2.2, eF k hk.1 hk.2.1]
  have cA : ∀ a, a ≠ 18 ∧ a ≠ 32 ∧ a ≠ 33 ∧ a ≠ 35 → cE C' N p 4 H G K a = C a := fun a ⟨a1, a2, a5, a6⟩ => by
    rw [← cs.1 a a5 a6]; simp [cE, apcI, alI, ap1, up_eq, tk_a, a1, a2, a5]
  have mA : ∀ a, a ≠ 33 ∧ a ≠ 31 → mE C' M' N p 4 H G K a = M a := fun a ⟨a1, a2⟩ => by
    rw [← cs.2 a a1]; simp [mE, apL, up_eq, tl_n, a1, a2]
  have c22 : cE C' N p 4 H G K 32 = va_up (C 32) K (C' 35 0) := by rw [← cs.1 32 (by decide) (by decide)]; simp [cE, apcI, alI, ap1, up_eq, tk_a]
  have c18 : cE C' N p 4 H G K 18 17 = C 18 17 + 1 := by rw [← cs.1 18 (by decide) (by decide)]; simp [cE, apcI, alI, ap1, up_eq, vu_eq, tk_a]
  have m21 : mE C' M' N p 4 H G K 31 = va_up (M 31) K (M' 33 13) := by rw [← cs.2 31 (by decide)]; simp [mE, apL, up_eq, tl_n, tl_k]
  have k99 : K' 101 = va_up (L 101) K (M' 33 13) := by rw [eK, up_s]
  refine ⟨dH_c d1 (cA _ (by decide)) (cA _ (by decide)) (cA _ (by decide)) (cA _ (by decide)) (mA _ (by decide)) (jF _ (by decide)) (jA _ (by decide)) (jA _ (by decide)) (jA _ (by decide)) (jA _ (by decide)) (by rw [eK, up_n _ _ _ (by decide)]), dG_c d2 (cA _ (by decide)) (cA _ (by decide)) (cA _ (by decide)) (mA _ (by decide)) (jF _ (by decide)) (jA _ (by decide)) (jA _ (by decide)) (jA _ (by decide)) (by rw [eK, up_n _ _ _ (by decide)]), ⟨by rw [x.2.1 18 (by omega) (by decide), e16], fun h hh => ?_⟩, dS_c d4 (cA _ (by decide)) (jA _ (by decide)) (jF _ (by decide)) (jF _ (by decide)), dT_c d5 (cA _ (by decide)) (jF _ (by decide)), dR_c d6 (cA _ (by decide)) (jF _ (by decide)) (jA _ (by decide)), by rw [x.2.2, eF 19 (by omega) (by decide), d7, c18]⟩
  rw [m21, k99, c22, x.1 119 (by decide), e11]
  by_cases z : h = K
  · subst z
    simp only [vu_s]
    exact ⟨trivial, trivial, l1, l2⟩
  · simp only [vu_n _ _ z]
    exact d3.2 h (by omega)
theorem D_count {N H G K p : Nat} {C' J2 : Is} {M' K' : Ls} (hH5 : H ≤ 5) (d : dA C M I L H G K) (cs : Cst C C' M M') (h : suC N H G K I L C' M' J K' p) (x : mNx J J2) : dA (cE C' N p 2 H G K) (mE C' M' N p 2 H G K) J2 K' H G K := by
  obtain ⟨d1, d2, d3, d4, d5, d6, d7⟩ := d
  obtain ⟨_, rfl, ⟨j, j1, j2, e11⟩, eA, eF, l1, l2⟩ := h
  have jA : ∀ a, a ≠ 95 ∧ ¬ a = 114 → J2 a = I a := fun a ha => by rw [x.1 a ha.1, eA a ha.1 ha.2]
  have jF : ∀ k, (k < 3 ∨ 9 < k) ∧ k ≠ 19 → J2 95 k = I 95 k := fun k hk => by rw [x.2.1 k hk.1 hk.2, eF k hk.1]
  have cA : ∀ a, a ≠ 18 ∧ a ≠ 25 ∧ a ≠ 33 ∧ a ≠ 35 → cE C' N p 2 H G K a = C a := fun a ⟨a1, a2, a5, a6⟩ => by
    rw [← cs.1 a a5 a6]; simp [cE, apcI, ap1, up_eq, tk_a, a1, a2, a5]
  have mA : ∀ a, a ≠ 33 → mE C' M' N p 2 H G K a = M a := fun a a1 => by
    rw [← cs.2 a a1]; simp [mE, apL, tl_n, a1]
  have hj : (tokI C' N p 33 14).toNatClampNeg = j := by rw [tk_k _ _ (by decide) (by decide) (by decide) (by decide), j2, nI_clamp (by omega)]
  have c25 : cE C' N p 2 H G K 25 = va_up (C 25) j (C' 35 0) := by rw [← cs.1 25 (by decide) (by decide)]; simp [cE, apcI, ap1, up_eq, tk_a, hj]
  have c18 : cE C' N p 2 H G K 18 17 = C 18 17 + 1 := by rw [← cs.1 18 (by decide) (by decide)]; simp [cE, apcI, ap1, up_eq, vu_eq, tk_a]
  refine ⟨⟨by rw [jF 16 (by decide)]; exact d1.1, fun h hh => ?_, fun h h1 h2 => ?_⟩, dG_c d2 (cA _ (by decide)) (cA _ (by decide)) (cA _ (by decide)) (mA _ (by decide)) (jF _ (by decide)) (jA _ (by decide)) (jA _ (by decide)) (jA _ (by decide)) rfl, dK_c d3 (cA _ (by decide)) (mA _ (by decide)) (jF _ (by decide)) (jA _ (by decide)) rfl, dS_c d4 (cA _ (by decide)) (jA _ (by decide)) (jF _ (by decide)) (jF _ (by decide)), dT_c d5 (cA _ (by decide)) (jF _ (by decide)), dR_c d6 (cA _ (by decide)) (jF _ (by decide)) (jA _ (by decide)), by rw [x.2.2, eF 19 (by omega), d7, c18]⟩
  · obtain ⟨z1, z2, z3, z4, z5, z6, z7, z8, z9, z10, z11, z12, z13⟩ := d1.2.1 h hh
    rw [mA 21 (by decide), cA 22 (by decide), cA 23 (by decide), cA 24 (by decide), jA 111 (by decide), jA 112 (by decide), jA 113 (by decide), c25, x.1 114 (by decide), e11]
    by_cases z : h = j
    · subst z
      simp only [vu_s]
      exact ⟨z1, z2, z3, z4, trivial, z6, z7, z8, z9, z10, z11, by omega, l2⟩
    · simp only [vu_n _ _ z]
      exact ⟨z1, z2, z3, z4, z5, z6, z7, z8, z9, z10, z11, z12, z13⟩
  · rw [c25, vu_n _ _ (by omega)]
    exact d1.2.2 h h1 h2
theorem D_run {N H G K p : Nat} {C' J2 : Is} {M' K' : Ls} (hH5 : H ≤ 5) (d : dA C M I L H G K) (cs : Cst C C' M M') (h : suR N H G K I L C' M' J K' p) (x : mNx J J2) : dA (cE C' N p 3 H G K) (mE C' M' N p 3 H G K) J2 K' H G K := by
  obtain ⟨d1, d2, d3, d4, d5, d6, d7⟩ := d
  obtain ⟨_, rfl, ⟨a, b, ha, hb, hab, j2, j3, e11, e46⟩, eA, eF, l1, l2⟩ := h
  have jA : ∀ a, a ≠ 95 ∧ ¬ a = 115 → J2 a = I a := fun a ha => by rw [x.1 a ha.1, eA a ha.1 ha.2]
  have jF : ∀ k, (k < 3 ∨ 9 < k) ∧ k ≠ 46 ∧ k ≠ 19 → J2 95 k = I 95 k := fun k hk => by rw [x.2.1 k hk.1 hk.2.2, eF k hk.1 hk.2.1]
  have cA : ∀ a, a ≠ 18 ∧ a ≠ 26 ∧ a ≠ 33 ∧ a ≠ 35 → cE C' N p 3 H G K a = C a := fun a ⟨a1, a2, a5, a6⟩ => by
    rw [← cs.1 a a5 a6]; simp [cE, apcI, ap1, up_eq, tk_a, a1, a2, a5]
  have mA : ∀ a, a ≠ 33 → mE C' M' N p 3 H G K a = M a := fun a a1 => by
    rw [← cs.2 a a1]; simp [mE, apL, tl_n, a1]
  have hj : (tokI C' N p 33 14 * 5 + tokI C' N p 33 15).toNatClampNeg = 5 * a + b := by rw [tk_k _ _ (by decide) (by decide) (by decide) (by decide), tk_k _ _ (by decide) (by decide) (by decide) (by decide), j2, j3, Int32.mul_comm, show (5 : Int32) = nI 5 from rfl, pk_mul, nI_add, nI_clamp (by omega)]
  have hj2 : (tokI C' N p 33 15 * 5 + tokI C' N p 33 14).toNatClampNeg = 5 * b + a := by rw [tk_k _ _ (by decide) (by decide) (by decide) (by decide), tk_k _ _ (by decide) (by decide) (by decide) (by decide), j2, j3, Int32.mul_comm, show (5 : Int32) = nI 5 from rfl, pk_mul, nI_add, nI_clamp (by omega)]
  have c26 : cE C' N p 3 H G K 26 = va_up (va_up (C 26) (5 * a + b) (C' 35 0)) (5 * b + a) (C' 35 0) := by
    rw [← cs.1 26 (by decide) (by decide)]
    have e : cE C' N p 3 H G K = up (up (up (ap1 (tokI C' N p)) 26 (5 * a + b) (tokI C' N p 35 0)) 26 (5 * b + a) (tokI C' N p 35 0)) 33 11 0 := by rw [← hj, ← hj2]; rfl
    rw [e, up_n _ _ _ (by decide), up_s, up_s, tk_a _ _ (by decide)]
    simp [ap1, up_eq, tk_a]
  have c18 : cE C' N p 3 H G K 18 17 = C 18 17 + 1 := by rw [← cs.1 18 (by decide) (by decide)]; simp [cE, apcI, ap1, up_eq, vu_eq, tk_a]
  refine ⟨dH_c d1 (cA _ (by decide)) (cA _ (by decide)) (cA _ (by decide)) (cA _ (by decide)) (mA _ (by decide)) (jF _ (by decide)) (jA _ (by decide)) (jA _ (by decide)) (jA _ (by decide)) (jA _ (by decide)) rfl, dG_c d2 (cA _ (by decide)) (cA _ (by decide)) (cA _ (by decide)) (mA _ (by decide)) (jF _ (by decide)) (jA _ (by decide)) (jA _ (by decide)) (jA _ (by decide)) rfl, dK_c d3 (cA _ (by decide)) (mA _ (by decide)) (jF _ (by decide)) (jA _ (by decide)) rfl, dS_c d4 (cA _ (by decide)) (jA _ (by decide)) (jF _ (by decide)) (jF _ (by decide)), dT_c d5 (cA _ (by decide)) (jF _ (by decide)), ?_, by rw [x.2.2, eF 19 (by omega) (by decide), d7, c18]⟩
  obtain ⟨s, s1, s2, s3⟩ := d6
  obtain ⟨t1, t2⟩ := b_tell (s := s) (p := 5 * a + b) s1 (by omega)
  obtain ⟨t3, t4⟩ := b_tell (s := s ||| 2 ^ (5 * a + b)) (p := 5 * b + a) t2 (by omega)
  refine ⟨_, t4, ?_, fun j hj => ?_⟩
  · rw [x.2.1 46 (by omega) (by decide), e46, s2, ← Int32.or_assoc, t1, t3]
  · obtain ⟨s4, s5, s6, s7⟩ := s3 j hj
    have v0 : ¬ C' 35 0 = -1 := fun z => by rw [z] at l1; exact absurd l1 (by decide)
    rw [b_tb, b_tb, c26, x.1 115 (by decide), e11]
    by_cases z : j = 5 * b + a
    · subst z
      rw [vu_s, vu_s, if_neg (by omega), if_neg v0]
      exact ⟨⟨fun _ => v0, fun _ => Or.inr rfl⟩, rfl, by omega, l2⟩
    · rw [vu_n _ _ z, vu_n _ _ z]
      by_cases y : j = 5 * a + b
      · subst y
        rw [vu_s, vu_s, if_neg (by omega), if_neg v0]
        exact ⟨⟨fun _ => v0, fun _ => Or.inl (Or.inr rfl)⟩, rfl, by omega, l2⟩
      · rw [vu_n _ _ y, vu_n _ _ y]
        refine ⟨⟨fun w => ?_, fun w => Or.inl (Or.inl (s4.mpr w))⟩, s5, s6, s7⟩
        rcases w with (w | w) | w
        · exact s4.mp w
        · exact absurd w y
        · exact absurd w z
theorem D_small {N H G K p w : Nat} {C' J2 : Is} {M' K' : Ls} (d : dA C M I L H G K) (cs : Cst C C' M M') (x : mNx J J2) (eL : K' = L) (w10 : w < 10) (e22 : J 95 22 = I 95 22 ||| ((1 : Int32) <<< (nI w &&& 31))) (hw9 : w = 9 → J 95 20 = C' 35 0 ∧ J 95 21 = C' 35 1 ∧ J 98 = I 98 ∧ 0 ≤ (C' 35 0).toInt ∧ (C' 35 0).toInt ≤ 20 ∧ 0 ≤ (C' 35 1).toInt ∧ (C' 35 1).toInt ≤ 20) (hwn : ¬ w = 9 → J 95 20 = I 95 20 ∧ J 95 21 = I 95 21 ∧ J 98 = va_up (I 98) w (C' 35 0) ∧ (ol3.getD (18 + 3 * w) 0).toInt ≤ (C' 35 0).toInt ∧ (C' 35 0).toInt ≤ (ol4.getD (18 + 3 * w) 0).toInt) (eA : ∀ a, a ≠ 95 → ¬ a = 98 → J a = I a) (eF : ∀ k, k < 3 ∨ 9 < k → ¬ (20 ≤ k ∧ k ≤ 22) → J 95 k = I 95 k) : dA (cE C' N p (kwO w) H G K) (mE C' M' N p (kwO w) H G K) J2 K' H G K := by
  subst eL
  obtain ⟨d1, d2, d3, d4, d5, d6, d7⟩ := d
  have jA : ∀ a, a ≠ 95 ∧ ¬ a = 98 → J2 a = I a := fun a ha => by rw [x.1 a ha.1, eA a ha.1 ha.2]
  have jF : ∀ k, (k < 3 ∨ 9 < k) ∧ ¬ (20 ≤ k ∧ k ≤ 22) ∧ k ≠ 19 → J2 95 k = I 95 k := fun k hk => by rw [x.2.1 k hk.1 hk.2.2, eF k hk.1 hk.2.1]
  have hE : cE C' N p (kwO w) H G K = if w = 9 then up (up (up (up (up (ap1 (tokI C' N p)) 19 12 (C' 35 0)) 20 12 1) 19 13 (C' 35 1)) 20 13 1) 33 11 0 else up (up (up (ap1 (tokI C' N p)) 19 (w + 3) (C' 35 0)) 20 (w + 3) 1) 33 11 0 := by
    unfold cE apcI kwO
    rw [tk_a _ _ (show 35 ≠ 33 by decide)]
    by_cases z : w = 9
    · simp [z]
    · simp only [z, if_false]
      rw [if_neg (by omega), if_neg (by omega), if_neg (by omega), if_neg (by omega), if_neg (by omega), if_neg (by omega)]
      rfl
  have cA : ∀ a, a ≠ 18 ∧ a ≠ 19 ∧ a ≠ 20 ∧ a ≠ 33 ∧ a ≠ 35 → cE C' N p (kwO w) H G K a = C a := fun a ⟨a1, a2, a3, a5, a6⟩ => by
    rw [← cs.1 a a5 a6, hE]; split <;> simp [ap1, up_eq, tk_a, a1, a2, a3, a5]
  have mA : ∀ a, a ≠ 33 → mE C' M' N p (kwO w) H G K a = M a := fun a a1 => by
    have k5 := (kwO_r w10).2.1
    rw [← cs.2 a a1]
    unfold mE apL
    rw [if_neg (by omega), if_neg (by omega), if_neg (by omega), tl_n _ _ a1]
  have c18 : cE C' N p (kwO w) H G K 18 17 = C 18 17 + 1 := by rw [← cs.1 18 (by decide) (by decide), hE]; split <;> simp [ap1, up_eq, vu_eq, tk_a]
  have c19 : cE C' N p (kwO w) H G K 19 = if w = 9 then va_up (va_up (C 19) 12 (C' 35 0)) 13 (C' 35 1) else va_up (C 19) (w + 3) (C' 35 0) := by
    rw [← cs.1 19 (by decide) (by decide), hE]; split <;> simp [ap1, up_eq, tk_a]
  have c20 : cE C' N p (kwO w) H G K 20 = if w = 9 then va_up (va_up (C 20) 12 1) 13 1 else va_up (C 20) (w + 3) 1 := by
    rw [← cs.1 20 (by decide) (by decide), hE]; split <;> simp [ap1, up_eq, tk_a]
  refine ⟨dH_c d1 (cA _ (by decide)) (cA _ (by decide)) (cA _ (by decide)) (cA _ (by decide)) (mA _ (by decide)) (jF _ (by decide)) (jA _ (by decide)) (jA _ (by decide)) (jA _ (by decide)) (jA _ (by decide)) rfl, dG_c d2 (cA _ (by decide)) (cA _ (by decide)) (cA _ (by decide)) (mA _ (by decide)) (jF _ (by decide)) (jA _ (by decide)) (jA _ (by decide)) (jA _ (by decide)) rfl, dK_c d3 (cA _ (by decide)) (mA _ (by decide)) (jF _ (by decide)) (jA _ (by decide)) rfl, ?_, ?_, dR_c d6 (cA _ (by decide)) (jF _ (by decide)) (jA _ (by decide)), by rw [x.2.2, eF 19 (by omega) (by decide), d7, c18]⟩
  · unfold dS
    obtain ⟨g1, g2, g3, g4, g5, g6, g7⟩ := d4
    rw [c19, x.1 98 (by decide), x.2.1 20 (by omega) (by decide), x.2.1 21 (by omega) (by decide)]
    by_cases z : w = 9
    · obtain ⟨y1, y2, y3, y4, y5, y6, y7⟩ := hw9 z
      rw [if_pos z, y1, y2, y3]
      refine ⟨fun i hi => ?_, ?_, ?_, ?_, ?_, ?_, ?_⟩
      · rw [vu_n _ _ (by omega), vu_n _ _ (by omega)]; exact g1 i hi
      · rw [vu_n _ _ (by decide), vu_s]
      · rw [vu_s]
      · rw [vu_n _ _ (by decide), vu_s]; exact y4
      · rw [vu_n _ _ (by decide), vu_s]; exact y5
      · rw [vu_s]; exact y6
      · rw [vu_s]; exact y7
    · obtain ⟨y1, y2, y3, y4, y5⟩ := hwn z
      rw [if_neg z, y1, y2, y3]
      refine ⟨fun i hi => ?_, ?_, ?_, ?_, ?_, ?_, ?_⟩
      · by_cases q : i = w
        · subst q; rw [vu_s, vu_s]; exact ⟨rfl, y4, y5⟩
        · rw [vu_n _ _ q, vu_n _ _ (by omega)]; exact g1 i hi
      all_goals (rw [vu_n _ _ (by omega)]; assumption)
  · obtain ⟨s, s1, s2, s3⟩ := d5
    obtain ⟨t1, _⟩ := b_tell (s := s) (p := w) (by omega) (by omega)
    have p10 : 2 ^ w < 2 ^ 10 := Nat.pow_lt_pow_right (by decide) w10
    refine ⟨s ||| 2 ^ w, Nat.or_lt_two_pow (n := 10) s1 p10, ?_, fun i hi => ?_⟩
    · rw [x.2.1 22 (by omega) (by decide), e22, s2, t1]
    · rw [b_tb, s3 i hi, c20]
      by_cases z : w = 9
      · rw [if_pos z]
        by_cases q : i = 9
        · rw [if_pos q, vu_n _ _ (by decide), vu_s]; exact ⟨fun _ => by decide, fun _ => Or.inr (by omega)⟩
        · rw [if_neg q, vu_n _ _ (by omega), vu_n _ _ (by omega)]; exact ⟨fun y => y.elim id (fun y => by omega), Or.inl⟩
      · rw [if_neg z]
        by_cases q : i = w
        · rw [if_neg (by omega), q, vu_s]; exact ⟨fun _ => by decide, fun _ => Or.inr rfl⟩
        · rw [vu_n _ _ (by split <;> omega)]; exact ⟨fun y => y.elim id (fun y => by omega), Or.inl⟩
end
