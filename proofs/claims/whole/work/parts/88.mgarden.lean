/-! the model reads a garden -/
section
variable {sc : Sc} {I C : Is} {L M : Ls} {tg : Nat}
/-- a garden that was read -/
def suG (N H G K : Nat) (I : Is) (L : Ls) : Is → Ls → Is → Ls → Nat → Prop := fun C' M' J K' p' => Mq N C' p' 1 5 H G K ∧ G < 4 ∧ J 95 17 = nI (G + 1) ∧ J 116 = va_up (I 116) G (C' 35 0) ∧ J 117 = va_up (I 117) G (C' 35 1) ∧ J 118 = va_up (I 118) G (C' 35 2) ∧ K' = up L 100 G (M' 33 13) ∧ (∀ a, a ≠ 95 → ¬ (116 ≤ a ∧ a ≤ 118) → J a = I a) ∧ (∀ k, k < 3 ∨ 9 < k → k ≠ 17 → J 95 k = I 95 k) ∧ 0 ≤ (C' 35 0).toInt ∧ (C' 35 0).toInt ≤ 400 ∧ 0 ≤ (C' 35 1).toInt ∧ (C' 35 1).toInt ≤ 999 ∧ 0 ≤ (C' 35 2).toInt ∧ (C' 35 2).toInt ≤ 9999
theorem k_X12_readGarden {N p k0 H G K n : Nat} (hM : Mq N C p k0 0 H G K) (h4c : ¬ lxT (mtp I) N (lxQ (mtp I) N p) = 4) (ht : C 2 = mtp I) (hS : mSc I N p) (hn : N - p < n) (hw : kwF (tokI C N p) (tokL C M N p) = nI 1) (hd : dG C M I L G) : Con sc mX12_readGarden 4 0 0 [.ref 95] (XW I L tg) (gI (phF tg N n C M I L (suG N H G K I L))) := by
  refine Con_of (by decide) (Nat.le_of_ble_eq_true rfl) ?_
  obtain ⟨kf, kt⟩ := kwd_s hM h4c ht hS hn (by decide) hw
  have e16 : I 95 17 = nI G := hd.1
  obtain ⟨_, _, hH, h5, _⟩ := hM.2.2.2.2.2.2.2.2.2.1
  have ak5 : akR C (nI 1) = if G < 4 then 0 else 4 := by
    unfold akR rmC
    rw [if_neg (by decide), if_neg (fun z => absurd z.1 (by decide)), hH, nI_toInt (by omega)]
    by_cases z : G < 4
    · rw [if_pos z, if_pos ⟨fun y => absurd y (by decide), fun _ => by omega, fun y => absurd y (by decide)⟩]
    · rw [if_neg z, if_neg (fun y => z (by have := y.2.1 rfl; omega))]
  have hB := mSc_B hS
  refine r_aload_n (j := 0) rfl rfl dX12_readGarden_0 ?_
  refine w_getI fX12_123 rfl dX12_readGarden_1 ?_
  refine r_iconst (v := 4) rfl dX12_readGarden_4 ?_
  refine r_icmp_ne (tgt := 14) dX12_readGarden_5 (by decide) (fun c5 => ?_) (fun c5 => ?_)
  · have hH5 : G < 4 := by
      have : ¬ G = 4 := fun z => c5 (by rw [e16, z]; rfl)
      omega
    rw [if_pos hH5] at ak5
    obtain ⟨m1, C1, M1, p1, q1, hM1, hn1, h41, hp1, cs1⟩ := kt ak5
    refine r_aload_n (j := 0) rfl rfl dX12_readGarden_14 ?_
    refine w_cV0v (k_X12_scan (p := p1) hB.1 hB.2.1 hB.2.2.1 hp1 h41) (Nat.le_of_ble_eq_true rfl) lX12_59 vmX12_scan rfl (Nat.le_of_ble_eq_true rfl) (Nat.le_of_ble_eq_true rfl) (Nat.le_of_ble_eq_true rfl) dX12_readGarden_15 (fun J15 K15 hJ15 hK15 => ?_)
    subst hK15
    have s1 : spI I J15 := by rw [hJ15]; exact sp_sc _ _
    have S1 : mSc J15 N p1 := by rw [hJ15]; exact mB_sc hB hp1
    have t1 : C1 2 = mtp J15 := by rw [cs1.1 2 (by decide) (by decide), sp_mtp s1]; exact ht
    have g16 : J15 95 17 = nI G := by rw [s1.2 17 (by omega)]; exact e16
    clear hJ15
    obtain ⟨ff, fs⟩ := fre_s (M := M1) (L := K15) (b := 100) (a := 27) (c := G) hM1 (Or.inr (Or.inl ⟨rfl, rfl, rfl⟩)) t1 S1 hn1 (fun j hj => by rw [cs1.2 27 (by decide)]; exact (hd.2 j hj).1) rfl
    refine r_aload_n (j := 0) rfl rfl dX12_readGarden_18 ?_
    refine r_aload_n (j := 0) rfl rfl dX12_readGarden_19 ?_
    refine w_getR (b := 100) fX12_126 rfl rfl dX12_readGarden_20 ?_
    refine r_aload_n (j := 0) rfl rfl dX12_readGarden_23 ?_
    refine w_getI fX12_123 rfl dX12_readGarden_24 ?_
    refine w_cV2s (k_X12_fresh (a := 100) (M := 4) (K := G) (mSc_tk S1) S1.2.2.1 rfl (by decide) g16 hH5) (Nat.le_of_ble_eq_true rfl) lX12_102 vmX12_fresh rfl (Nat.le_of_ble_eq_true rfl) (Nat.le_of_ble_eq_true rfl) (Nat.le_of_ble_eq_true rfl) dX12_readGarden_27 (fun J27 K27 hJ27 hK27 => ?_)
    subst hK27
    generalize hww : nmW (mtp J15) (lxD (mtp J15) N (lxQ (mtp J15) N p1) - lxQ (mtp J15) N p1) (lxQ (mtp J15) N p1) 0 = w at *; generalize hr : mfR J15 K15 100 G w = r at *
    have s2 : spI J15 J27 := by rw [hJ27]; exact sp_mf _ _ _
    refine r_if_eq (tgt := 44) dX12_readGarden_30 (by decide) (fun c30 => ?_) (fun c30 => ?_)
    · refine r_iconst (v := 0) rfl dX12_readGarden_44 ?_
      refine w_iretG rfl (rfl) (Nat.le_of_ble_eq_true rfl) (Nat.le_of_ble_eq_true rfl) dX12_readGarden_45 ?_
      have hz := bI_0.mp c30
      refine ⟨rfl, mfr_sp (spI_t s1 s2), mfrL_mf (by decide), Or.inl ⟨rfl, ?_⟩⟩
      rw [hJ27]
      unfold mfI
      rw [if_neg hz]
      exact Flt_e q1 (ff hz)
    · have hz := bI_1.mp c30
      obtain ⟨m2, C2, M2, p2, q2, hM2, hn2, h42, hp2, cs2, w2⟩ := fs hz
      have ep : lxD (mtp J15) N (lxQ (mtp J15) N p1) = p2 := by
        have hTk := mSc_tk S1
        have a := hTk.2.2.2.1
        have b := hTk.2.2.2.2.2
        have c := hTk.2.1
        exact (nI_ij (by omega) (by omega)).mp (a.symm.trans h42)
      have S2 : mSc J27 N p2 := by rw [hJ27, hz, ep]; exact mB_sc (mSc_B S1) hp2
      have t2 : C2 2 = mtp J27 := by rw [cs2.1 2 (by decide) (by decide), sp_mtp s2]; exact t1
      have q2' := q1.trans q2
      have cs2' := Cst_t cs1 cs2
      have eK : mfL K15 100 G w r = up K15 100 G w := by rw [hz]; rfl
      rw [eK]
      refine r_aload_n (j := 0) rfl rfl dX12_readGarden_33 ?_
      refine r_iconst (v := 0) rfl dX12_readGarden_34 ?_
      refine r_sipush (v := 400) rfl dX12_readGarden_35 ?_
      refine w_cV2s (k_X12_number S2.1 S2.2.1 S2.2.2.1 (mSc_tk S2).2.2.2.2.2 S2.2.2.2.2.2.1) (Nat.le_of_ble_eq_true rfl) lX12_106 vmX12_number rfl (Nat.le_of_ble_eq_true rfl) (Nat.le_of_ble_eq_true rfl) (Nat.le_of_ble_eq_true rfl) dX12_readGarden_38 (fun J38 K38 hJ38 hK38 => ?_)
      subst hK38
      obtain ⟨s3, f3, g3⟩ := num_t (i := 0) q2' hM2 rfl (by decide) t2 S2 hn2 cs2' rfl rfl hJ38
      refine r_if_ne (tgt := 46) dX12_readGarden_41 (by decide) (fun c41 => ?_) (fun c41 => ?_)
      · obtain ⟨m3, C3, M3, p3, q3, hM3, hn3, t3, S3, cs3, o3, v3, _, nm3, lo3, hi3⟩ := g3 c41
        have g38 : J38 95 17 = nI G := by rw [s3.2 17 (by omega), s2.2 17 (by omega)]; exact g16
        have i38 : (J38 95 17).toInt = G := by rw [g38, nI_toInt (by omega)]
        have b38 : (J38 95 17).toNatClampNeg = G := by rw [g38, nI_clamp (by omega)]
        have r38 : mfr I J38 := mfr_sp (spI_t s1 (spI_t s2 s3))
        refine r_aload_n (j := 0) rfl rfl dX12_readGarden_46 ?_
        refine w_getR (b := 116) fX12_129 rfl rfl dX12_readGarden_47 ?_
        refine r_aload_n (j := 0) rfl rfl dX12_readGarden_50 ?_
        refine w_getI fX12_123 rfl dX12_readGarden_51 ?_
        refine r_aload_n (j := 0) rfl rfl dX12_readGarden_54 ?_
        refine w_getI fX12_56 rfl dX12_readGarden_55 ?_
        refine w_iast rfl (up_in i38 hH5) dX12_readGarden_58 (fun J58 hJ58 => ?_)
        rw [b38] at hJ58
        have S4 : mSc J58 N p3 := mSc_up S3 (by rw [hJ58, up_n _ _ _ (by decide)]) (fun k _ => by rw [hJ58, up_n _ _ _ (by decide)])
        have t4 : C3 2 = mtp J58 := by rw [t3]; funext j; unfold mtp; rw [hJ58, up_n _ _ _ (by decide)]
        have r58 : mfr I J58 := by rw [hJ58]; exact mfr_t r38 (mfr_up (by omega))
        refine r_aload_n (j := 0) rfl rfl dX12_readGarden_59 ?_
        refine r_iconst (v := 0) rfl dX12_readGarden_60 ?_
        refine r_sipush (v := 999) rfl dX12_readGarden_61 ?_
        refine w_cV2s (k_X12_number S4.1 S4.2.1 S4.2.2.1 (mSc_tk S4).2.2.2.2.2 S4.2.2.2.2.2.1) (Nat.le_of_ble_eq_true rfl) lX12_106 vmX12_number rfl (Nat.le_of_ble_eq_true rfl) (Nat.le_of_ble_eq_true rfl) (Nat.le_of_ble_eq_true rfl) dX12_readGarden_64 (fun J64 K64 hJ64 hK64 => ?_)
        subst hK64
        obtain ⟨s4, f4, g4⟩ := num_t (i := 1) q3 hM3 rfl (by decide) t4 S4 hn3 cs3 rfl rfl hJ64
        refine r_if_ne (tgt := 72) dX12_readGarden_67 (by decide) (fun c67 => ?_) (fun c67 => ?_)
        · obtain ⟨m5, C5, M5, p5, q5, hM5, hn5, t5, S5, cs5, o5, v5, _, nm5, lo5, hi5⟩ := g4 c67
          have g64 : J64 95 17 = nI G := by rw [s4.2 17 (by omega), hJ58, up_n _ _ _ (by decide)]; exact g38
          have i64 : (J64 95 17).toInt = G := by rw [g64, nI_toInt (by omega)]
          have b64 : (J64 95 17).toNatClampNeg = G := by rw [g64, nI_clamp (by omega)]
          have r64 : mfr I J64 := mfr_t r58 (mfr_sp s4)
          refine r_aload_n (j := 0) rfl rfl dX12_readGarden_72 ?_
          refine w_getR (b := 117) fX12_132 rfl rfl dX12_readGarden_73 ?_
          refine r_aload_n (j := 0) rfl rfl dX12_readGarden_76 ?_
          refine w_getI fX12_123 rfl dX12_readGarden_77 ?_
          refine r_aload_n (j := 0) rfl rfl dX12_readGarden_80 ?_
          refine w_getI fX12_56 rfl dX12_readGarden_81 ?_
          refine w_iast rfl (up_in i64 hH5) dX12_readGarden_84 (fun J84 hJ84 => ?_)
          rw [b64] at hJ84
          have S6 : mSc J84 N p5 := mSc_up S5 (by rw [hJ84, up_n _ _ _ (by decide)]) (fun k _ => by rw [hJ84, up_n _ _ _ (by decide)])
          have t6 : C5 2 = mtp J84 := by rw [t5]; funext j; unfold mtp; rw [hJ84, up_n _ _ _ (by decide)]
          have r84 : mfr I J84 := by rw [hJ84]; exact mfr_t r64 (mfr_up (by omega))
          refine r_aload_n (j := 0) rfl rfl dX12_readGarden_85 ?_
          refine r_iconst (v := 0) rfl dX12_readGarden_86 ?_
          refine r_sipush (v := 9999) rfl dX12_readGarden_87 ?_
          refine w_cV2s (k_X12_number S6.1 S6.2.1 S6.2.2.1 (mSc_tk S6).2.2.2.2.2 S6.2.2.2.2.2.1) (Nat.le_of_ble_eq_true rfl) lX12_106 vmX12_number rfl (Nat.le_of_ble_eq_true rfl) (Nat.le_of_ble_eq_true rfl) (Nat.le_of_ble_eq_true rfl) dX12_readGarden_90 (fun J90 K90 hJ90 hK90 => ?_)
          subst hK90
          obtain ⟨s6, f6, g6⟩ := num_t (i := 2) q5 hM5 rfl (by decide) t6 S6 hn5 cs5 rfl rfl hJ90
          refine r_if_ne (tgt := 98) dX12_readGarden_93 (by decide) (fun c93 => ?_) (fun c93 => ?_)
          · obtain ⟨m7, C7, M7, p7, q7, hM7, hn7, t7, S7, cs7, o7, v7, _, nm7, lo7, hi7⟩ := g6 c93
            have g90 : J90 95 17 = nI G := by rw [s6.2 17 (by omega), hJ84, up_n _ _ _ (by decide)]; exact g64
            have i90 : (J90 95 17).toInt = G := by rw [g90, nI_toInt (by omega)]
            have b90 : (J90 95 17).toNatClampNeg = G := by rw [g90, nI_clamp (by omega)]
            have r90 : mfr I J90 := mfr_t r84 (mfr_sp s6)
            refine r_aload_n (j := 0) rfl rfl dX12_readGarden_98 ?_
            refine w_getR (b := 118) fX12_135 rfl rfl dX12_readGarden_99 ?_
            refine r_aload_n (j := 0) rfl rfl dX12_readGarden_102 ?_
            refine w_getI fX12_123 rfl dX12_readGarden_103 ?_
            refine r_aload_n (j := 0) rfl rfl dX12_readGarden_106 ?_
            refine w_getI fX12_56 rfl dX12_readGarden_107 ?_
            refine w_iast rfl (up_in i90 hH5) dX12_readGarden_110 (fun J110 hJ110 => ?_)
            rw [b90] at hJ110
            have g110 : J110 95 17 = nI G := by rw [hJ110, up_n _ _ _ (by decide)]; exact g90
            refine r_aload_n (j := 0) rfl rfl dX12_readGarden_111 ?_
            refine r_dup rfl dX12_readGarden_112 ?_
            refine w_getI fX12_123 rfl dX12_readGarden_113 ?_
            refine r_iconst (v := 1) rfl dX12_readGarden_116 ?_
            refine r_iadd dX12_readGarden_117 ?_
            refine w_putI fX12_123 rfl (rfl) (rfl) dX12_readGarden_118 (fun J118 hJ118 => ?_)
            refine r_iconst (v := 1) rfl dX12_readGarden_121 ?_
            refine w_iretG rfl (rfl) (Nat.le_of_ble_eq_true rfl) (Nat.le_of_ble_eq_true rfl) dX12_readGarden_122 ?_
            rw [g110, nI_1] at hJ118
            have r118 : mfr I J118 := by rw [hJ118, hJ110]; exact mfr_t (mfr_t r90 (mfr_up (by omega))) (mfr_up (by omega))
            refine ⟨rfl, r118, mfrL_up (by decide), Or.inr ⟨rfl, m7, C7, M7, p7, q7, hn7, ?_, cs7, hM7, hH5, ?_⟩⟩
            · refine mSc_up S7 ?_ (fun k hk => ?_)
              · rw [hJ118, hJ110]; simp [up_eq]
              · rw [hJ118, up_s, vu_n _ _ (by omega), hJ110]; simp [up_eq]
            · have a38 : ∀ a, a ≠ 95 → J38 a = I a := fun a ha => by rw [s3.1 a ha, s2.1 a ha, s1.1 a ha]
              have x0 : C7 35 0 = J38 95 7 := by rw [o7 0 (by decide), o5 0 (by decide), v3]
              have x1 : C7 35 1 = J64 95 7 := by rw [o7 1 (by decide), v5]
              have xw : M7 33 13 = w := by rw [nm7, nm5, nm3, w2]
              rw [x0, x1, v7, xw]
              refine ⟨?_, ?_, ?_, ?_, rfl, ?_, ?_, lo3, hi3, lo5, hi5, lo7, hi7⟩
              · rw [hJ118, up_s, vu_s]
              · rw [hJ118, hJ110, up_n _ _ _ (by decide), up_n _ _ _ (by decide), s6.1 _ (by decide), hJ84, up_n _ _ _ (by decide), s4.1 _ (by decide), hJ58, up_s, a38 _ (by decide)]
              · rw [hJ118, hJ110, up_n _ _ _ (by decide), up_n _ _ _ (by decide), s6.1 _ (by decide), hJ84, up_s, s4.1 _ (by decide), hJ58, up_n _ _ _ (by decide), a38 _ (by decide)]
              · rw [hJ118, hJ110, up_n _ _ _ (by decide), up_s, s6.1 _ (by decide), hJ84, up_n _ _ _ (by decide), s4.1 _ (by decide), hJ58, up_n _ _ _ (by decide), a38 _ (by decide)]
              · intro a a1 a2
                rw [hJ118, up_n _ _ _ a1, hJ110, up_n _ _ _ (by omega), s6.1 _ a1, hJ84, up_n _ _ _ (by omega), s4.1 _ a1, hJ58, up_n _ _ _ (by omega), a38 _ a1]
              · intro k k1 k2
                rw [hJ118, up_s, vu_n _ _ k2, hJ110, up_n _ _ _ (by decide), s6.2 _ k1, hJ84, up_n _ _ _ (by decide), s4.2 _ k1, hJ58, up_n _ _ _ (by decide), s3.2 _ k1, s2.2 _ k1, s1.2 _ k1]
          · refine r_iconst (v := 0) rfl dX12_readGarden_96 ?_
            refine w_iretG rfl (rfl) (Nat.le_of_ble_eq_true rfl) (Nat.le_of_ble_eq_true rfl) dX12_readGarden_97 ?_
            exact ⟨rfl, mfr_t r84 (mfr_sp s6), mfrL_up (by decide), Or.inl ⟨rfl, f6 c93⟩⟩
        · refine r_iconst (v := 0) rfl dX12_readGarden_70 ?_
          refine w_iretG rfl (rfl) (Nat.le_of_ble_eq_true rfl) (Nat.le_of_ble_eq_true rfl) dX12_readGarden_71 ?_
          exact ⟨rfl, mfr_t r58 (mfr_sp s4), mfrL_up (by decide), Or.inl ⟨rfl, f4 c67⟩⟩
      · refine r_iconst (v := 0) rfl dX12_readGarden_44 ?_
        refine w_iretG rfl (rfl) (Nat.le_of_ble_eq_true rfl) (Nat.le_of_ble_eq_true rfl) dX12_readGarden_45 ?_
        exact ⟨rfl, mfr_sp (spI_t s1 (spI_t s2 s3)), mfrL_up (by decide), Or.inl ⟨rfl, f3 c41⟩⟩
  · refine r_aload_n (j := 0) rfl rfl dX12_readGarden_8 ?_
    refine r_iconst (v := 4) rfl dX12_readGarden_9 ?_
    refine w_cV1s (k_X12_bad) (Nat.le_of_ble_eq_true rfl) lX12_49 vmX12_bad rfl (Nat.le_of_ble_eq_true rfl) (Nat.le_of_ble_eq_true rfl) (Nat.le_of_ble_eq_true rfl) dX12_readGarden_10 (fun J10 K10 hJ10 hK10 => ?_)
    subst hK10
    refine w_iretG rfl (rfl) (Nat.le_of_ble_eq_true rfl) (Nat.le_of_ble_eq_true rfl) dX12_readGarden_13 ?_
    have h5' : ¬ G < 4 := (by intro z; have : nI G = nI 4 := (by rw [← e16]; exact c5); have := (nI_ij (by omega) (by omega)).mp this; omega); rw [if_neg h5'] at ak5; exact ⟨rfl, by rw [hJ10]; exact mfr_sp (sp_bd _), mfrL_r, Or.inl ⟨rfl, by rw [hJ10]; rw [ak5] at kf; exact kf (by decide)⟩⟩
end
