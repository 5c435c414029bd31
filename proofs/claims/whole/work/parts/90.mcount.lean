/-! the model reads a count -/
section
variable {sc : Sc} {I C : Is} {L M : Ls} {tg : Nat}
/-- a count that was read -/
def suC (N H G K : Nat) (I : Is) (L : Ls) : Is → Ls → Is → Ls → Nat → Prop := fun C' _ J K' p' => Mq N C' p' 2 3 H G K ∧ K' = L ∧ (∃ j, j < H ∧ C' 33 14 = nI j ∧ J 114 = va_up (I 114) j (C' 35 0)) ∧ (∀ a, a ≠ 95 → ¬ a = 114 → J a = I a) ∧ (∀ k, k < 3 ∨ 9 < k → J 95 k = I 95 k) ∧ 0 ≤ (C' 35 0).toInt ∧ (C' 35 0).toInt ≤ 99
theorem k_X12_readCount {N p k0 H G K n : Nat} (hM : Mq N C p k0 0 H G K) (h4c : ¬ lxT (mtp I) N (lxQ (mtp I) N p) = 4) (ht : C 2 = mtp I) (hS : mSc I N p) (hn : N - p < n) (hw : kwF (tokI C N p) (tokL C M N p) = nI 2) (hd : dH C M I L H) : Con sc mX12_readCount 4 0 0 [.ref 95] (XW I L tg) (gI (phF tg N n C M I L (suC N H G K I L))) := by
  refine Con_of (by decide) (Nat.le_of_ble_eq_true rfl) ?_
  obtain ⟨kf, kt⟩ := kwd_s hM h4c ht hS hn (by decide) hw
  have e16 : I 95 16 = nI H := hd.1
  obtain ⟨hH, h5, _⟩ := hM.2.2.2.2.2.2.2.2.2.1
  have ak5 : akR C (nI 2) = 0 := by
    unfold akR rmC
    rw [if_neg (by decide), if_neg (fun z => absurd z.1 (by decide)), if_pos ⟨fun y => absurd y (by decide), fun y => absurd y (by decide), fun y => absurd y (by decide)⟩]
  have hB := mSc_B hS
  obtain ⟨m1, C1, M1, p1, q1, hM1, hn1, h41, hp1, cs1⟩ := kt ak5
  refine r_aload_n (j := 0) rfl rfl dX12_readCount_0 ?_
  refine w_cV0v (k_X12_scan (p := p1) hB.1 hB.2.1 hB.2.2.1 hp1 h41) (Nat.le_of_ble_eq_true rfl) lX12_59 vmX12_scan rfl (Nat.le_of_ble_eq_true rfl) (Nat.le_of_ble_eq_true rfl) (Nat.le_of_ble_eq_true rfl) dX12_readCount_1 (fun J1 K1 hJ1 hK1 => ?_)
  subst hK1
  have s1 : spI I J1 := by rw [hJ1]; exact sp_sc _ _
  have S1 : mSc J1 N p1 := by rw [hJ1]; exact mB_sc hB hp1
  have t1 : C1 2 = mtp J1 := by rw [cs1.1 2 (by decide) (by decide), sp_mtp s1]; exact ht
  have g16 : J1 95 16 = nI H := by rw [s1.2 16 (by omega)]; exact e16
  clear hJ1
  have hs := fun (r : Int32) hr => hut_s (M := M1) (L := K1) (r := r) hM1 (Or.inl ⟨rfl, rfl⟩) t1 S1 hn1 (fun j hj => by rw [cs1.2 21 (by decide)]; exact (hd.2.1 j hj).1) rfl hr
  have fi := ixN_r (K1 99) (nmW (mtp J1) (lxD (mtp J1) N (lxQ (mtp J1) N p1) - lxQ (mtp J1) N p1) (lxQ (mtp J1) N p1) 0) H 0
  refine r_aload_n (j := 0) rfl rfl dX12_readCount_4 ?_
  refine w_getI fX12_27 rfl dX12_readCount_5 ?_
  refine r_iconst (v := 1) rfl dX12_readCount_8 ?_
  refine r_icmp_eq (tgt := 18) dX12_readCount_9 (by decide) (fun c9 => ?_) (fun c9 => ?_)
  · refine r_aload_n (j := 0) rfl rfl dX12_readCount_18 ?_
    refine r_aload_n (j := 0) rfl rfl dX12_readCount_19 ?_
    refine w_getR (b := 99) fX12_98 rfl rfl dX12_readCount_20 ?_
    refine r_aload_n (j := 0) rfl rfl dX12_readCount_23 ?_
    refine w_getI fX12_95 rfl dX12_readCount_24 ?_
    refine w_cV2p (k_X12_find (a := 99) (M := 5) (K := H) (mSc_tk S1) rfl (by decide) (by rw [g16, nI_toInt (by omega)]) h5) (Nat.le_of_ble_eq_true rfl) lX12_67 vmX12_find rfl (Nat.le_of_ble_eq_true rfl) (Nat.le_of_ble_eq_true rfl) (Nat.le_of_ble_eq_true rfl) dX12_readCount_27 ?_
    refine r_istore_n (lv' := fun z => [(1, .int z), (0, .ref 95)]) dX12_readCount_30 rfl (Nat.le_of_ble_eq_true rfl) (fun _ => rfl) (fun x1_30 ex1_30 => ?_)
    rw [← ex1_30] at fi hs
    have fr : ¬ x1_30 = -1 → ∃ j, j < H ∧ x1_30 = nI j ∧ J1 114 j = C1 25 j := by
      intro z
      rcases fi with y | ⟨j, _, y2, y3, _⟩
      · exact absurd y z
      · exact ⟨j, by omega, y3, by rw [s1.1 114 (by decide), cs1.1 25 (by decide) (by decide)]; exact (hd.2.1 j (by omega)).2.2.2.2.1⟩
    refine r_iload_n (j := 0) rfl rfl dX12_readCount_31 ?_
    refine r_iconst (v := (-1)) rfl dX12_readCount_32 ?_
    refine r_icmp_eq (tgt := 52) dX12_readCount_33 (by decide) (fun c33 => ?_) (fun c33 => ?_)
    · refine r_iload_n (j := 0) rfl rfl dX12_readCount_52 ?_
      refine r_iconst (v := (-1)) rfl dX12_readCount_53 ?_
      refine r_icmp_ne (tgt := 63) dX12_readCount_54 (by decide) (fun c54 => ?_) (fun c54 => ?_)
      · exact absurd c33 c54
      · refine r_aload_n (j := 1) rfl rfl dX12_readCount_57 ?_
        refine r_iconst (v := 5) rfl dX12_readCount_58 ?_
        refine w_cV1s (k_X12_bad) (Nat.le_of_ble_eq_true rfl) lX12_49 vmX12_bad rfl (Nat.le_of_ble_eq_true rfl) (Nat.le_of_ble_eq_true rfl) (Nat.le_of_ble_eq_true rfl) dX12_readCount_59 (fun J59 K59 hJ59 hK59 => ?_)
        subst hK59
        refine w_iretG rfl (rfl) (Nat.le_of_ble_eq_true rfl) (Nat.le_of_ble_eq_true rfl) dX12_readCount_62 ?_
        exact ⟨rfl, by rw [hJ59]; exact mfr_t (mfr_sp s1) (mfr_sp (sp_bd _)), mfrL_r, Or.inl ⟨rfl, by rw [hJ59]; exact Flt_e q1 ((hs 5 (by simp [c9, c33])).1 (by decide))⟩⟩
    · refine r_aload_n (j := 1) rfl rfl dX12_readCount_36 ?_
      refine w_getR (b := 114) fX12_120 rfl rfl dX12_readCount_37 ?_
      refine r_iload_n (j := 0) rfl rfl dX12_readCount_40 ?_
      refine w_iald rfl (by obtain ⟨j, j1, j2, _⟩ := fr c33; rw [j2, vp_in_iff, nI_toInt (by omega)]; omega) dX12_readCount_41 ?_
      refine r_iconst (v := (-1)) rfl dX12_readCount_42 ?_
      refine r_icmp_eq (tgt := 52) dX12_readCount_43 (by decide) (fun c43 => ?_) (fun c43 => ?_)
      · obtain ⟨j, j1, j2, j3⟩ := fr c33
        have hcl : x1_30.toNatClampNeg = j := by rw [j2, nI_clamp (by omega)]
        rw [hcl, j3] at c43
        obtain ⟨m2, C2, M2, p2, q2, hM2, hn2, h42, hp2, cs2, w2⟩ := (hs 0 (by simp [c9, c33, hcl, c43])).2 rfl
        have w2 : C2 33 14 = x1_30 := w2
        have B1 := mSc_B S1
        refine r_iload_n (j := 0) rfl rfl dX12_readCount_52 ?_
        refine r_iconst (v := (-1)) rfl dX12_readCount_53 ?_
        refine r_icmp_ne (tgt := 63) dX12_readCount_54 (by decide) (fun c54 => ?_) (fun c54 => ?_)
        · refine r_aload_n (j := 1) rfl rfl dX12_readCount_63 ?_
          refine w_cV0v (k_X12_scan (p := p2) B1.1 B1.2.1 B1.2.2.1 hp2 h42) (Nat.le_of_ble_eq_true rfl) lX12_59 vmX12_scan rfl (Nat.le_of_ble_eq_true rfl) (Nat.le_of_ble_eq_true rfl) (Nat.le_of_ble_eq_true rfl) dX12_readCount_64 (fun J64 K64 hJ64 hK64 => ?_)
          subst hK64
          have s2 : spI J1 J64 := by rw [hJ64]; exact sp_sc _ _
          have S2 : mSc J64 N p2 := by rw [hJ64]; exact mB_sc B1 hp2
          have t2 : C2 2 = mtp J64 := by rw [cs2.1 2 (by decide) (by decide), sp_mtp s2]; exact t1
          have q2' := q1.trans q2
          have cs2' := Cst_t cs1 cs2
          clear hJ64
          refine r_aload_n (j := 1) rfl rfl dX12_readCount_67 ?_
          refine r_iconst (v := 0) rfl dX12_readCount_68 ?_
          refine r_bipush (v := 99) rfl dX12_readCount_69 ?_
          refine w_cV2s (k_X12_number S2.1 S2.2.1 S2.2.2.1 (mSc_tk S2).2.2.2.2.2 S2.2.2.2.2.2.1) (Nat.le_of_ble_eq_true rfl) lX12_106 vmX12_number rfl (Nat.le_of_ble_eq_true rfl) (Nat.le_of_ble_eq_true rfl) (Nat.le_of_ble_eq_true rfl) dX12_readCount_71 (fun J71 K71 hJ71 hK71 => ?_)
          subst hK71
          obtain ⟨s3, f3, g3⟩ := num_t (i := 0) q2' hM2 rfl (by decide) t2 S2 hn2 cs2' rfl rfl hJ71
          refine r_if_ne (tgt := 79) dX12_readCount_74 (by decide) (fun c74 => ?_) (fun c74 => ?_)
          · refine r_aload_n (j := 1) rfl rfl dX12_readCount_79 ?_
            refine w_getR (b := 114) fX12_120 rfl rfl dX12_readCount_80 ?_
            refine r_iload_n (j := 0) rfl rfl dX12_readCount_83 ?_
            refine r_aload_n (j := 1) rfl rfl dX12_readCount_84 ?_
            refine w_getI fX12_56 rfl dX12_readCount_85 ?_
            refine w_iast rfl (by rw [j2, vp_in_iff, nI_toInt (by omega)]; omega) dX12_readCount_88 (fun J88 hJ88 => ?_)
            refine r_iconst (v := 1) rfl dX12_readCount_89 ?_
            refine w_iretG rfl (rfl) (Nat.le_of_ble_eq_true rfl) (Nat.le_of_ble_eq_true rfl) dX12_readCount_90 ?_
            obtain ⟨m3, C3, M3, p3, q3, hM3, hn3, t3, S3, cs3, o3, v3, f33, nm3, lo3, hi3⟩ := g3 c74
            rw [hcl] at hJ88
            have a71 : ∀ a, a ≠ 95 → J71 a = I a := fun a ha => by rw [s3.1 a ha, s2.1 a ha, s1.1 a ha]
            refine ⟨rfl, by rw [hJ88]; exact mfr_t (mfr_sp (spI_t s1 (spI_t s2 s3))) (mfr_up (by omega)), mfrL_r, Or.inr ⟨rfl, m3, C3, M3, p3, q3, hn3, ?_, cs3, hM3, rfl, ⟨j, j1, ?_, ?_⟩, ?_, ?_, ?_, ?_⟩⟩
            · exact mSc_up S3 (by rw [hJ88, up_n _ _ _ (by decide)]) (fun k _ => by rw [hJ88, up_n _ _ _ (by decide)])
            · rw [f33 14 (by decide) (by decide) (by decide) (by decide) (by decide), w2, j2]
            · rw [hJ88, up_s, v3, a71 _ (by decide)]
            · intro a a1 a2; rw [hJ88, up_n _ _ _ a2, a71 _ a1]
            · intro k hk; rw [hJ88, up_n _ _ _ (by decide), s3.2 _ hk, s2.2 _ hk, s1.2 _ hk]
            · rw [v3]; exact lo3
            · rw [v3]; exact hi3
          · refine r_iconst (v := 0) rfl dX12_readCount_77 ?_
            refine w_iretG rfl (rfl) (Nat.le_of_ble_eq_true rfl) (Nat.le_of_ble_eq_true rfl) dX12_readCount_78 ?_
            exact ⟨rfl, mfr_sp (spI_t s1 (spI_t s2 s3)), mfrL_r, Or.inl ⟨rfl, f3 c74⟩⟩
        · exact absurd c54 c33
      · refine r_aload_n (j := 1) rfl rfl dX12_readCount_46 ?_
        refine r_iconst (v := 3) rfl dX12_readCount_47 ?_
        refine w_cV1s (k_X12_bad) (Nat.le_of_ble_eq_true rfl) lX12_49 vmX12_bad rfl (Nat.le_of_ble_eq_true rfl) (Nat.le_of_ble_eq_true rfl) (Nat.le_of_ble_eq_true rfl) dX12_readCount_48 (fun J48 K48 hJ48 hK48 => ?_)
        subst hK48
        refine w_iretG rfl (rfl) (Nat.le_of_ble_eq_true rfl) (Nat.le_of_ble_eq_true rfl) dX12_readCount_51 ?_
        obtain ⟨j, j1, j2, j3⟩ := fr c33
        have hcl : x1_30.toNatClampNeg = j := by rw [j2, nI_clamp (by omega)]
        rw [hcl, j3] at c43
        exact ⟨rfl, by rw [hJ48]; exact mfr_t (mfr_sp s1) (mfr_sp (sp_bd _)), mfrL_r, Or.inl ⟨rfl, by rw [hJ48]; exact Flt_e q1 ((hs 3 (by simp [c9, c33, hcl, c43])).1 (by decide))⟩⟩
  · refine r_aload_n (j := 0) rfl rfl dX12_readCount_12 ?_
    refine r_iconst (v := 1) rfl dX12_readCount_13 ?_
    refine w_cV1s (k_X12_bad) (Nat.le_of_ble_eq_true rfl) lX12_49 vmX12_bad rfl (Nat.le_of_ble_eq_true rfl) (Nat.le_of_ble_eq_true rfl) (Nat.le_of_ble_eq_true rfl) dX12_readCount_14 (fun J14 K14 hJ14 hK14 => ?_)
    subst hK14
    refine w_iretG rfl (rfl) (Nat.le_of_ble_eq_true rfl) (Nat.le_of_ble_eq_true rfl) dX12_readCount_17 ?_
    exact ⟨rfl, by rw [hJ14]; exact mfr_t (mfr_sp s1) (mfr_sp (sp_bd _)), mfrL_r, Or.inl ⟨rfl, by rw [hJ14]; exact Flt_e q1 ((hs 1 (by simp [c9])).1 (by decide))⟩⟩
end
