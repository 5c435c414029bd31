/-! the model's camp: its contract -/
section
variable {sc : Sc} {I C : Is} {L M : Ls} {tg : Nat}
/-- a camp of the component (its rows) and the model's -/
def cmR (R : Nat → Nat → Int32) (J : Is) : Prop := ∃ H G K : Nat, (H ≤ 5 ∧ G ≤ 4 ∧ K ≤ 4) ∧ (R 0 14 = nI H ∧ R 0 15 = nI G ∧ R 0 16 = nI K) ∧ (J 95 10 = nI H ∧ J 95 11 = nI G ∧ J 95 12 = nI K) ∧ (J 95 13 = R 0 17 ∧ J 95 14 = R 1 12 ∧ J 95 15 = R 1 13 ∧ 0 ≤ (R 1 12).toInt ∧ (R 1 12).toInt ≤ 20 ∧ 0 ≤ (R 1 13).toInt ∧ (R 1 13).toInt ≤ 20) ∧ (∀ i, i < 9 → J 97 i = R 1 (i + 3) ∧ (ol3.getD (18 + 3 * i) 0).toInt ≤ (R 1 (i + 3)).toInt ∧ (R 1 (i + 3)).toInt ≤ (ol4.getD (18 + 3 * i) 0).toInt) ∧ (∀ j, j < 25 → (0 < H → J 106 j = (if j / 5 = j % 5 then 0 else if R 8 j = -1 then 5 else R 8 j)) ∧ -1 ≤ (R 8 j).toInt ∧ (R 8 j).toInt ≤ 60) ∧ (∀ h, h < H → J 102 h = R 4 h ∧ J 103 h = R 5 h ∧ J 104 h = R 6 h ∧ J 105 h = R 7 h ∧ 0 ≤ (R 4 h).toInt ∧ (R 4 h).toInt ≤ 400 ∧ 1 ≤ (R 5 h).toInt ∧ (R 5 h).toInt ≤ 300 ∧ 1 ≤ (R 6 h).toInt ∧ (R 6 h).toInt ≤ 40 ∧ -1 ≤ (R 7 h).toInt ∧ (R 7 h).toInt ≤ 99) ∧ (∀ g, g < G → J 107 g = R 10 g ∧ J 108 g = R 11 g ∧ J 109 g = R 12 g ∧ 0 ≤ (R 10 g).toInt ∧ (R 10 g).toInt ≤ 400 ∧ 0 ≤ (R 11 g).toInt ∧ (R 11 g).toInt ≤ 999 ∧ 0 ≤ (R 12 g).toInt ∧ (R 12 g).toInt ≤ 9999) ∧ (∀ l, l < K → J 110 l = R 14 l ∧ 0 ≤ (R 14 l).toInt ∧ (R 14 l).toInt ≤ 99) ∧ (∀ h, H ≤ h → h < 5 → R 7 h = -1)
/-- what camp leaves in the model -/
def cmV (tg N : Nat) (C : Is) (M : Ls) (I : Is) (L : Ls) : Int32 → Is → Ls → Nat → Prop := fun v J K' tq => tq = tg ∧ J 95 1 = 0 ∧ mfrL L K' ∧ (v = -1 ∧ Flt N 901 C M J ∧ (∀ a, ¬ (a = 95 ∨ a = 98 ∨ (111 ≤ a ∧ a ≤ 119)) → J a = I a) ∧ (∀ k, ¬ ((1 ≤ k ∧ k ≤ 9) ∨ (16 ≤ k ∧ k ≤ 22) ∨ k = 46) → J 95 k = I 95 k) ∨ v = (cM N 901 C M).2.1 18 17 ∧ (cM N 901 C M).1 = 1 ∧ (J 95 8 = 0 ∧ J 95 9 = -1) ∧ cmR (fun k => (cM N 901 C M).2.1 (18 + k)) J ∧ (∀ j, j < nN (J 95 10) → J 130 j = 0) ∧ (∀ k, k = 48 ∨ k = 49 ∨ (69 ≤ k ∧ k ≤ 72) ∨ k = 92 ∨ k = 91 → J 95 k = 0) ∧ (∀ j, j < 5 → J 125 j = 0) ∧ (∀ j, j < 4 → J 126 j = 0) ∧ (∀ j, j < 2 → J 129 j = 0) ∧ (∀ a, ¬ (a = 95 ∨ a = 97 ∨ a = 98 ∨ (102 ≤ a ∧ a ≤ 119) ∨ a = 125 ∨ a = 126 ∨ a = 129 ∨ a = 130) → J a = I a) ∧ (∀ k, ¬ ((1 ≤ k ∧ k ≤ 22) ∨ k = 46 ∨ k = 48 ∨ k = 49 ∨ (69 ≤ k ∧ k ≤ 72) ∨ k = 92 ∨ k = 91) → J 95 k = I 95 k))
theorem k_X12_camp {N : Nat} (h0 : c0R C) (hM : Mq N C 0 0 0 0 0 0) (ht : C 2 = mtp I) (h1 : I 95 1 = nI N) (hb : ∀ j, j < N → -128 ≤ (I 96 j).toInt ∧ (I 96 j).toInt ≤ 127) (hK : kwT M) : Con sc mX12_camp 8 0 0 [.ref 95] (XW I L tg) (gI (cmV tg N C M I L)) := by
  refine Con_of (by decide) (Nat.le_of_ble_eq_true rfl) ?_
  have h9 : N ≤ 900 := hM.2.1
  refine r_aload_n (j := 0) rfl rfl dX12_camp_0 ?_
  refine r_aload_n (j := 0) rfl rfl dX12_camp_1 ?_
  refine w_getI fX12_345 rfl dX12_camp_2 ?_
  refine w_putI fX12_13 rfl (rfl) (rfl) dX12_camp_5 (fun J5 hJ5 => ?_)
  refine r_aload_n (j := 0) rfl rfl dX12_camp_8 ?_
  refine r_iconst (v := 0) rfl dX12_camp_9 ?_
  refine w_putI fX12_345 rfl (rfl) (rfl) dX12_camp_10 (fun J10 hJ10 => ?_)
  refine r_aload_n (j := 0) rfl rfl dX12_camp_13 ?_
  refine r_iconst (v := 0) rfl dX12_camp_14 ?_
  refine w_putI fX12_20 rfl (rfl) (rfl) dX12_camp_15 (fun J15 hJ15 => ?_)
  refine r_aload_n (j := 0) rfl rfl dX12_camp_18 ?_
  refine r_iconst (v := 0) rfl dX12_camp_19 ?_
  refine w_putI fX12_3 rfl (rfl) (rfl) dX12_camp_20 (fun J20 hJ20 => ?_)
  refine r_aload_n (j := 0) rfl rfl dX12_camp_23 ?_
  refine r_iconst (v := (-1)) rfl dX12_camp_24 ?_
  refine w_putI fX12_10 rfl (rfl) (rfl) dX12_camp_25 (fun J25 hJ25 => ?_)
  have a25 : ∀ a, a ≠ 95 → J25 a = I a := fun a ha => by rw [hJ25, hJ20, hJ15, hJ10, hJ5]; simp [up_eq, ha]
  have f25 : ∀ k, ¬ (1 ≤ k ∧ k ≤ 9) → J25 95 k = I 95 k := fun k hk => by
    rw [hJ25, hJ20, hJ15, hJ10, hJ5]
    simp only [up_s]
    rw [vu_n _ _ (by omega), vu_n _ _ (by omega), vu_n _ _ (by omega), vu_n _ _ (by omega), vu_n _ _ (by omega)]
  have w25 : J25 95 1 = 0 ∧ J25 95 2 = nI N ∧ J25 95 4 = nI 0 ∧ J25 95 8 = 0 ∧ J25 95 9 = -1 := by
    rw [hJ25, hJ20, hJ15, hJ10, hJ5]
    simp [up_eq, vu_eq, h1]
    rfl
  clear hJ25 hJ20 hJ15 hJ10 hJ5
  obtain ⟨w1, w2, w4, w8, w9⟩ := w25
  have hB : mB J25 N := ⟨w2, h9, by rw [a25 96 (by decide)]; exact hb, w8, w9⟩
  refine r_aload_n (j := 0) rfl rfl dX12_camp_28 ?_
  refine w_cV0v (k_X12_scan (p := 0) hB.1 hB.2.1 hB.2.2.1 (Nat.zero_le _) w4) (Nat.le_of_ble_eq_true rfl) lX12_59 vmX12_scan rfl (Nat.le_of_ble_eq_true rfl) (Nat.le_of_ble_eq_true rfl) (Nat.le_of_ble_eq_true rfl) dX12_camp_29 (fun J29 K29 hJ29 hK29 => ?_)
  subst hK29
  have s1 : spI J25 J29 := by rw [hJ29]; exact sp_sc _ _
  have S1 : mSc J29 N 0 := by rw [hJ29]; exact mB_sc hB (Nat.zero_le _)
  have t1 : C 2 = mtp J29 := by rw [ht]; funext j; unfold mtp; rw [s1.1 96 (by decide), a25 96 (by decide)]
  clear hJ29
  refine r_aload_n (j := 0) rfl rfl dX12_camp_32 ?_
  refine w_cV0g (k_X12_readCamp h0 hM t1 S1 hK) (Nat.le_of_ble_eq_true rfl) lX12_352 vmX12_readCamp rfl (Nat.le_of_ble_eq_true rfl) (Nat.le_of_ble_eq_true rfl) (Nat.le_of_ble_eq_true rfl) dX12_camp_33 (fun v33 J33 K33 t33 h33 => ?_)
  obtain ⟨r0, r1, r2, r3⟩ := h33
  have a33 : ∀ a, ¬ (a = 95 ∨ a = 98 ∨ (111 ≤ a ∧ a ≤ 119)) → J33 a = I a := fun a ha => by rw [r1.1 a ha, s1.1 a (by omega), a25 a (by omega)]
  have f33 : ∀ k, ¬ ((1 ≤ k ∧ k ≤ 9) ∨ (16 ≤ k ∧ k ≤ 22) ∨ k = 46) → J33 95 k = I 95 k := fun k hk => by rw [r1.2 k (by omega), s1.2 k (by omega), f25 k (by omega)]
  have g33 : J33 95 1 = 0 := by rw [r1.2 1 (by omega), s1.2 1 (by omega), w1]
  refine r_if_ne (tgt := 41) dX12_camp_36 (by decide) (fun c36 => ?_) (fun c36 => ?_)
  · obtain ⟨y1, y2, H, G, K, hBd, hD⟩ : (cM N 901 C M).1 = 1 ∧ (J33 95 8 = 0 ∧ J33 95 9 = -1) ∧ ∃ H G K, cBd (cM N 901 C M).2.1 H G K ∧ dA (cM N 901 C M).2.1 (cM N 901 C M).2.2 J33 K33 H G K := by
      rcases r3 with ⟨z, _⟩ | ⟨_, z⟩
      · exact absurd z c36
      · exact z
    obtain ⟨b1, b2, b3, b4, b5, b6⟩ := hBd
    obtain ⟨⟨d10, d11, d12⟩, ⟨d20, d21⟩, ⟨d30, d31⟩, ⟨d40, d41, d42, d43, d44, d45, d46⟩, _, ⟨_, _, _, d6⟩, d7⟩ := hD
    refine r_aload_n (j := 0) rfl rfl dX12_camp_41 ?_
    refine r_aload_n (j := 0) rfl rfl dX12_camp_42 ?_
    refine w_getI fX12_95 rfl dX12_camp_43 ?_
    refine w_putI fX12_355 rfl (rfl) (rfl) dX12_camp_46 (fun J46 hJ46 => ?_)
    refine r_aload_n (j := 0) rfl rfl dX12_camp_49 ?_
    refine r_aload_n (j := 0) rfl rfl dX12_camp_50 ?_
    refine w_getI fX12_123 rfl dX12_camp_51 ?_
    refine w_putI fX12_358 rfl (rfl) (rfl) dX12_camp_54 (fun J54 hJ54 => ?_)
    refine r_aload_n (j := 0) rfl rfl dX12_camp_57 ?_
    refine r_aload_n (j := 0) rfl rfl dX12_camp_58 ?_
    refine w_getI fX12_144 rfl dX12_camp_59 ?_
    refine w_putI fX12_361 rfl (rfl) (rfl) dX12_camp_62 (fun J62 hJ62 => ?_)
    refine r_aload_n (j := 0) rfl rfl dX12_camp_65 ?_
    refine r_aload_n (j := 0) rfl rfl dX12_camp_66 ?_
    refine w_getI fX12_159 rfl dX12_camp_67 ?_
    refine w_putI fX12_213 rfl (rfl) (rfl) dX12_camp_70 (fun J70 hJ70 => ?_)
    refine r_aload_n (j := 0) rfl rfl dX12_camp_73 ?_
    refine r_aload_n (j := 0) rfl rfl dX12_camp_74 ?_
    refine w_getI fX12_162 rfl dX12_camp_75 ?_
    refine w_putI fX12_216 rfl (rfl) (rfl) dX12_camp_78 (fun J78 hJ78 => ?_)
    refine r_aload_n (j := 0) rfl rfl dX12_camp_81 ?_
    refine r_aload_n (j := 0) rfl rfl dX12_camp_82 ?_
    refine w_getI fX12_174 rfl dX12_camp_83 ?_
    refine w_putI fX12_364 rfl (rfl) (rfl) dX12_camp_86 (fun J86 hJ86 => ?_)
    refine r_iconst (v := 0) rfl dX12_camp_89 ?_
    refine r_istore_n (lv' := fun z => [(1, .int z), (0, .ref 95)]) dX12_camp_90 rfl (Nat.le_of_ble_eq_true rfl) (fun _ => rfl) (fun x1_90 ex1_90 => ?_)
    have a86 : ∀ a, a ≠ 95 → J86 a = J33 a := fun a ha => by rw [hJ86, hJ78, hJ70, hJ62, hJ54, hJ46]; simp [up_eq, ha]
    have f86 : ∀ k, ¬ (10 ≤ k ∧ k ≤ 15) → J86 95 k = J33 95 k := fun k hk => by
      rw [hJ86, hJ78, hJ70, hJ62, hJ54, hJ46]
      simp only [up_s]
      rw [vu_n _ _ (by omega), vu_n _ _ (by omega), vu_n _ _ (by omega), vu_n _ _ (by omega), vu_n _ _ (by omega), vu_n _ _ (by omega)]
    have w86 : J86 95 10 = J33 95 16 ∧ J86 95 11 = J33 95 17 ∧ J86 95 12 = J33 95 18 ∧ J86 95 13 = J33 95 19 ∧ J86 95 14 = J33 95 20 ∧ J86 95 15 = J33 95 21 := by
      rw [hJ86, hJ78, hJ70, hJ62, hJ54, hJ46]
      simp [up_eq, vu_eq]
    clear hJ86 hJ78 hJ70 hJ62 hJ54 hJ46
    obtain ⟨w10, w11, w12, w13, w14, w15⟩ := w86
    rw [d10] at w10
    rw [d20] at w11
    rw [d30] at w12
    refine l_X12_cm1 (I := J86) 9 0 (by omega) J86 x1_90 ex1_90 ⟨cpS_0, fun _ _ => rfl⟩ (fun J1 v1 h1 => ?_)
    refine r_iconst (v := 0) rfl dX12_camp_115 ?_
    refine r_istore_n (lv' := fun z => [(1, .int z), (0, .ref 95)]) dX12_camp_116 rfl (Nat.le_of_ble_eq_true rfl) (fun _ => rfl) (fun x1_116 ex1_116 => ?_)
    refine l_X12_cm2 (I := J1) 25 0 (by omega) J1 x1_116 ex1_116 ⟨cpS_0, fun _ _ => rfl⟩ (fun J2 v2 h2 => ?_)
    have e2 : ∀ a, a ≠ 97 → a ≠ 106 → J2 a = J86 a := fun a z1 z2 => by rw [h2.2 a z2, h1.2 a z1]
    refine r_iconst (v := 0) rfl dX12_camp_141 ?_
    refine r_istore_n (lv' := fun z => [(1, .int z), (0, .ref 95)]) dX12_camp_142 rfl (Nat.le_of_ble_eq_true rfl) (fun _ => rfl) (fun x1_142 ex1_142 => ?_)
    refine l_X12_cm3 (I := J2) (H := H) (by rw [e2 95 (by decide) (by decide)]; exact w10) b2 H 0 (by omega) J2 x1_142 ex1_142 ⟨cpS_0, cpS_0, cpS_0, cpS_0, (ptr_0 _ _).symm, fun _ _ _ => rfl⟩ (fun J3 v3 h3 => ?_)
    obtain ⟨p1, p2, p3, p4, p5, p6⟩ := h3
    have e3 : J3 95 = J86 95 := by rw [p6 95 (by omega) (by omega), e2 95 (by decide) (by decide)]
    refine r_iconst (v := 0) rfl dX12_camp_212 ?_
    refine r_istore_n (lv' := fun z => [(1, .int z), (0, .ref 95)]) dX12_camp_213 rfl (Nat.le_of_ble_eq_true rfl) (fun _ => rfl) (fun x1_213 ex1_213 => ?_)
    refine l_X12_cm4 (I := J3) (H := G) (by rw [e3]; exact w11) b4 G 0 (by omega) J3 x1_213 ex1_213 ⟨cpS_0, cpS_0, cpS_0, fun _ _ => rfl⟩ (fun J4 v4 h4 => ?_)
    obtain ⟨q1, q2, q3, q6⟩ := h4
    have e4 : J4 95 = J86 95 := by rw [q6 95 (by omega), e3]
    refine r_iconst (v := 0) rfl dX12_camp_264 ?_
    refine r_istore_n (lv' := fun z => [(1, .int z), (0, .ref 95)]) dX12_camp_265 rfl (Nat.le_of_ble_eq_true rfl) (fun _ => rfl) (fun x1_265 ex1_265 => ?_)
    refine l_X12_cm5 (I := J4) (H := K) (by rw [e4]; exact w12) b6 K 0 (by omega) J4 x1_265 ex1_265 ⟨cpS_0, fun _ _ => rfl⟩ (fun J5 v5 h5 => ?_)
    have e5 : J5 95 = J86 95 := by rw [h5.2 95 (by decide), e4]
    refine r_aload_n (j := 1) rfl rfl dX12_camp_292 ?_
    refine w_cV0h (k_X12_beginAnew) (Nat.le_of_ble_eq_true rfl) lX12_367 vmX12_beginAnew rfl (Nat.le_of_ble_eq_true rfl) (Nat.le_of_ble_eq_true rfl) (Nat.le_of_ble_eq_true rfl) dX12_camp_293 (fun J293 K293 t293 h293 => ?_)
    obtain ⟨m1, m2, m3, m4, m5, m6, m7, m8⟩ := h293
    refine r_aload_n (j := 1) rfl rfl dX12_camp_296 ?_
    refine w_getI fX12_364 rfl dX12_camp_297 ?_
    refine w_iretG rfl (rfl) (Nat.le_of_ble_eq_true rfl) (Nat.le_of_ble_eq_true rfl) dX12_camp_300 ?_
    have f95 : ∀ k, ¬ (k = 48 ∨ k = 49 ∨ (69 ≤ k ∧ k ≤ 72) ∨ k = 92 ∨ k = 91) → J293 95 k = J86 95 k := fun k hk => by rw [m4 k hk, e5]
    have a293 : ∀ a, ¬ (a = 95 ∨ a = 97 ∨ (102 ≤ a ∧ a ≤ 110) ∨ a = 125 ∨ a = 126 ∨ a = 129 ∨ a = 130) → J293 a = J86 a := fun a ha => by rw [m8 a (by omega) (by omega) (by omega) (by omega), h5.2 a (by omega), q6 a (by omega), p6 a (by omega) (by omega), e2 a (by omega) (by omega)]
    have o5 : ∀ a, a ≠ 95 → a ≠ 125 → a ≠ 126 → a ≠ 129 → a ≠ 110 → ¬ (107 ≤ a ∧ a ≤ 109) → J293 a = J3 a := fun a z1 z2 z3 z4 z5 z6 => by rw [m8 a z1 z2 z3 z4, h5.2 a z5, q6 a z6]
    have o2 : ∀ a, ¬ (102 ≤ a ∧ a ≤ 105) → a ≠ 130 → J3 a = J2 a := p6
    refine ⟨m1.trans r0, by rw [f95 1 (by omega), f86 1 (by omega)]; exact g33, ?_, Or.inr ⟨?_, y1, ⟨by rw [f95 8 (by omega), f86 8 (by omega)]; exact y2.1, by rw [f95 9 (by omega), f86 9 (by omega)]; exact y2.2⟩, ⟨H, G, K, ⟨b2, b4, b6⟩, ⟨b1, b3, b5⟩, ⟨by rw [f95 10 (by omega)]; exact w10, by rw [f95 11 (by omega)]; exact w11, by rw [f95 12 (by omega)]; exact w12⟩, ⟨by rw [f95 13 (by omega), w13]; exact d7, by rw [f95 14 (by omega), w14]; exact d41, by rw [f95 15 (by omega), w15]; exact d42, d43, d44, d45, d46⟩, fun i hi => ?_, fun j hj => ?_, fun h hh => ?_, fun g hg => ?_, fun l hl => ?_, d12⟩, ?_, m3, m5, m6, m7, fun a ha => ?_, fun k hk => ?_⟩⟩
    · rw [m2]; exact r2
    · rw [f95 13 (by omega), w13]; exact d7
    · obtain ⟨z1, z2⟩ := d40 i hi
      refine ⟨?_, z2⟩
      rw [o5 97 (by decide) (by decide) (by decide) (by decide) (by decide) (by omega), o2 97 (by omega) (by decide), h2.2 97 (by decide), h1.1, ptr_t hi, a86 98 (by decide)]
      exact z1
    · obtain ⟨_, z1, z2⟩ := d6 j hj
      refine ⟨fun _ => ?_, z2⟩
      rw [o5 106 (by decide) (by decide) (by decide) (by decide) (by decide) (by omega), o2 106 (by omega) (by decide), h2.1, ptr_t hj, h1.2 115 (by decide), a86 115 (by decide)]
      exact z1
    · obtain ⟨z1, z2, z3, z4, z5, z6⟩ := d11 h hh
      refine ⟨?_, ?_, ?_, ?_, z6⟩
      · rw [o5 102 (by decide) (by decide) (by decide) (by decide) (by decide) (by omega), p1, ptr_t hh, e2 111 (by decide) (by decide), a86 111 (by decide)]; exact z2
      · rw [o5 103 (by decide) (by decide) (by decide) (by decide) (by decide) (by omega), p2, ptr_t hh, e2 112 (by decide) (by decide), a86 112 (by decide)]; exact z3
      · rw [o5 104 (by decide) (by decide) (by decide) (by decide) (by decide) (by omega), p3, ptr_t hh, e2 113 (by decide) (by decide), a86 113 (by decide)]; exact z4
      · rw [o5 105 (by decide) (by decide) (by decide) (by decide) (by decide) (by omega), p4, ptr_t hh, e2 114 (by decide) (by decide), a86 114 (by decide)]; exact z5
    · obtain ⟨z1, z2, z3, z4, z6⟩ := d21 g hg
      have u : ∀ a, 116 ≤ a ∧ a ≤ 118 → J3 a = J33 a := fun a ha => by rw [o2 a (by omega) (by omega), e2 a (by omega) (by omega), a86 a (by omega)]
      refine ⟨?_, ?_, ?_, z6⟩
      · rw [m8 107 (by decide) (by decide) (by decide) (by decide), h5.2 107 (by decide), q1, ptr_t hg, u 116 (by omega)]; exact z2
      · rw [m8 108 (by decide) (by decide) (by decide) (by decide), h5.2 108 (by decide), q2, ptr_t hg, u 117 (by omega)]; exact z3
      · rw [m8 109 (by decide) (by decide) (by decide) (by decide), h5.2 109 (by decide), q3, ptr_t hg, u 118 (by omega)]; exact z4
    · obtain ⟨z1, z2, z3⟩ := d31 l hl
      refine ⟨?_, z3⟩
      rw [m8 110 (by decide) (by decide) (by decide) (by decide), h5.1, ptr_t hl, q6 119 (by omega), o2 119 (by omega) (by decide), e2 119 (by decide) (by decide), a86 119 (by decide)]
      exact z2
    · intro j hj
      have : nN (J293 95 10) = H := by rw [f95 10 (by omega), w10]; exact nI_clamp (by omega)
      rw [o5 130 (by decide) (by decide) (by decide) (by decide) (by decide) (by omega), p5, ptr_t (by omega)]
      rfl
    · rw [a293 a (by omega), a86 a (by omega), a33 a (by omega)]
    · rw [f95 k (by omega), f86 k (by omega), f33 k (by omega)]
  · refine r_iconst (v := (-1)) rfl dX12_camp_39 ?_
    refine w_iretG rfl (rfl) (Nat.le_of_ble_eq_true rfl) (Nat.le_of_ble_eq_true rfl) dX12_camp_40 ?_
    refine ⟨r0, g33, r2, Or.inl ⟨rfl, ?_, a33, f33⟩⟩
    rcases r3 with ⟨_, z⟩ | ⟨z, _⟩
    · exact z
    · rw [z] at c36; exact absurd c36 (by decide)
/-- what the component's machine leaves -/
theorem cM_fr {N : Nat} : ∀ n (C : Is) (M : Ls), (∀ a, ¬ (18 ≤ a ∧ a ≤ 35) → (cM N n C M).2.1 a = C a) ∧ frL M (cM N n C M).2.2 ∧ (¬ (cM N n C M).1 = 0 → (cM N n C M).2.1 33 4 = C 33 4 ∧ (cM N n C M).2.1 33 5 = C 33 5) := by
  intro n
  induction n with
  | zero => intro C M; exact ⟨fun _ _ => rfl, frL_r, fun z => absurd rfl z⟩
  | succ n ih =>
    intro C M
    have fr := ac_fr (I := tokI C N (nN (C 33 6))) (L := tokL C M N (nN (C 33 6))) (nN (tokI C N (nN (C 33 6)) 33 12)) (nN (tokI C N (nN (C 33 6)) 33 11)) (nN (tokI C N (nN (C 33 6)) 18 14)) (nN (tokI C N (nN (C 33 6)) 18 15)) (nN (tokI C N (nN (C 33 6)) 18 16))
    have fr : frI (tokI C N (nN (C 33 6))) (cS (tokI C N (nN (C 33 6))) (tokL C M N (nN (C 33 6)))).2.1 ∧ frL (tokL C M N (nN (C 33 6))) (cS (tokI C N (nN (C 33 6))) (tokL C M N (nN (C 33 6)))).2.2 := fr
    have a1 : ∀ a, ¬ (18 ≤ a ∧ a ≤ 35) → (cS (tokI C N (nN (C 33 6))) (tokL C M N (nN (C 33 6)))).2.1 a = C a := fun a ha => by rw [fr.1.1 a ha, tk_a _ _ (by omega)]
    have a4 : ∀ k, k = 4 ∨ k = 5 → (cS (tokI C N (nN (C 33 6))) (tokL C M N (nN (C 33 6)))).2.1 33 k = C 33 k := fun k hk => by rw [fr.1.2 k (by omega), tk_k _ _ (by omega) (by omega) (by omega) (by omega)]
    have aL := frL_t (tl_fr (I := C) (L := M) N (nN (C 33 6))) fr.2
    rw [cM]
    split
    · exact ⟨fun a ha => tk_a _ _ (by omega), tl_fr _ _, fun _ => ⟨tk_k (k := 4) N (nN (C 33 6)) (by decide) (by decide) (by decide) (by decide), tk_k (k := 5) N (nN (C 33 6)) (by decide) (by decide) (by decide) (by decide)⟩⟩
    · split
      · obtain ⟨i1, i2, i3⟩ := ih (cS (tokI C N (nN (C 33 6))) (tokL C M N (nN (C 33 6)))).2.1 (cS (tokI C N (nN (C 33 6))) (tokL C M N (nN (C 33 6)))).2.2
        exact ⟨fun a ha => by rw [i1 a ha, a1 a ha], frL_t aL i2, fun z => ⟨by rw [(i3 z).1, a4 4 (by omega)], by rw [(i3 z).2, a4 5 (by omega)]⟩⟩
      · refine ⟨fun a ha => ?_, aL, fun z => absurd rfl z⟩
        show up (up _ 33 4 _) 33 5 _ a = C a
        rw [up_n _ _ _ (by omega), up_n _ _ _ (by omega), a1 a ha]
end
