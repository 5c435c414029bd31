/-! the model reads a LOOK -/
section
variable {sc : Sc} {I C : Is} {L M : Ls} {tg : Nat}
/-- a LOOK that was read -/
def suK (N H G K : Nat) (I : Is) (L : Ls) : Is → Ls → Is → Ls → Nat → Prop := fun C' M' J K' p' => Mq N C' p' 4 3 H G K ∧ K < 4 ∧ J 95 18 = nI (K + 1) ∧ J 119 = va_up (I 119) K (C' 35 0) ∧ K' = up L 101 K (M' 33 13) ∧ (∀ a, a ≠ 95 → ¬ a = 119 → J a = I a) ∧ (∀ k, k < 3 ∨ 9 < k → k ≠ 18 → J 95 k = I 95 k) ∧ 0 ≤ (C' 35 0).toInt ∧ (C' 35 0).toInt ≤ 99
theorem k_X12_readLook {N p k0 H G K n : Nat} (hM : Mq N C p k0 0 H G K) (h4c : ¬ lxT (mtp I) N (lxQ (mtp I) N p) = 4) (ht : C 2 = mtp I) (hS : mSc I N p) (hn : N - p < n) (hw : kwF (tokI C N p) (tokL C M N p) = nI 4) (hd : dK C M I L K) : Con sc mX12_readLook 4 0 0 [.ref 95] (XW I L tg) (gI (phF tg N n C M I L (suK N H G K I L))) := by
  refine Con_of (by decide) (Nat.le_of_ble_eq_true rfl) ?_
  obtain ⟨kf, kt⟩ := kwd_s hM h4c ht hS hn (by decide) hw
  have e16 : I 95 18 = nI K := hd.1
  obtain ⟨_, _, _, _, hH, h5⟩ := hM.2.2.2.2.2.2.2.2.2.1
  have ak5 : akR C (nI 4) = if K < 4 then 0 else 4 := by
    unfold akR rmC
    rw [if_neg (by decide), if_neg (fun z => absurd z.1 (by decide)), hH, nI_toInt (by omega)]
    by_cases z : K < 4
    · rw [if_pos z, if_pos ⟨fun y => absurd y (by decide), fun y => absurd y (by decide), fun _ => by omega⟩]
    · rw [if_neg z, if_neg (fun y => z (by have := y.2.2 rfl; omega))]
  have hB := mSc_B hS
  refine r_aload_n (j := 0) rfl rfl dX12_readLook_0 ?_
  refine w_getI fX12_144 rfl dX12_readLook_1 ?_
  refine r_iconst (v := 4) rfl dX12_readLook_4 ?_
  refine r_icmp_ne (tgt := 14) dX12_readLook_5 (by decide) (fun c5 => ?_) (fun c5 => ?_)
  · have hH5 : K < 4 := by
      have : ¬ K = 4 := fun z => c5 (by rw [e16, z]; rfl)
      omega
    rw [if_pos hH5] at ak5
    obtain ⟨m1, C1, M1, p1, q1, hM1, hn1, h41, hp1, cs1⟩ := kt ak5
    refine r_aload_n (j := 0) rfl rfl dX12_readLook_14 ?_
    refine w_cV0v (k_X12_scan (p := p1) hB.1 hB.2.1 hB.2.2.1 hp1 h41) (Nat.le_of_ble_eq_true rfl) lX12_59 vmX12_scan rfl (Nat.le_of_ble_eq_true rfl) (Nat.le_of_ble_eq_true rfl) (Nat.le_of_ble_eq_true rfl) dX12_readLook_15 (fun J15 K15 hJ15 hK15 => ?_)
    subst hK15
    have s1 : spI I J15 := by rw [hJ15]; exact sp_sc _ _
    have S1 : mSc J15 N p1 := by rw [hJ15]; exact mB_sc hB hp1
    have t1 : C1 2 = mtp J15 := by rw [cs1.1 2 (by decide) (by decide), sp_mtp s1]; exact ht
    have g16 : J15 95 18 = nI K := by rw [s1.2 18 (by omega)]; exact e16
    clear hJ15
    obtain ⟨ff, fs⟩ := fre_s (M := M1) (L := K15) (b := 101) (a := 31) (c := K) hM1 (Or.inr (Or.inr ⟨rfl, rfl, rfl⟩)) t1 S1 hn1 (fun j hj => by rw [cs1.2 31 (by decide)]; exact (hd.2 j hj).1) rfl
    refine r_aload_n (j := 0) rfl rfl dX12_readLook_18 ?_
    refine r_aload_n (j := 0) rfl rfl dX12_readLook_19 ?_
    refine w_getR (b := 101) fX12_147 rfl rfl dX12_readLook_20 ?_
    refine r_aload_n (j := 0) rfl rfl dX12_readLook_23 ?_
    refine w_getI fX12_144 rfl dX12_readLook_24 ?_
    refine w_cV2s (k_X12_fresh (a := 101) (M := 4) (K := K) (mSc_tk S1) S1.2.2.1 rfl (by decide) g16 hH5) (Nat.le_of_ble_eq_true rfl) lX12_102 vmX12_fresh rfl (Nat.le_of_ble_eq_true rfl) (Nat.le_of_ble_eq_true rfl) (Nat.le_of_ble_eq_true rfl) dX12_readLook_27 (fun J27 K27 hJ27 hK27 => ?_)
    subst hK27
    generalize hww : nmW (mtp J15) (lxD (mtp J15) N (lxQ (mtp J15) N p1) - lxQ (mtp J15) N p1) (lxQ (mtp J15) N p1) 0 = w at *; generalize hr : mfR J15 K15 101 K w = r at *
    have s2 : spI J15 J27 := by rw [hJ27]; exact sp_mf _ _ _
    refine r_if_eq (tgt := 43) dX12_readLook_30 (by decide) (fun c30 => ?_) (fun c30 => ?_)
    · refine r_iconst (v := 0) rfl dX12_readLook_43 ?_
      refine w_iretG rfl (rfl) (Nat.le_of_ble_eq_true rfl) (Nat.le_of_ble_eq_true rfl) dX12_readLook_44 ?_
      have hz := bI_0.mp c30
      refine ⟨rfl, mfr_sp (spI_t s1 s2), mfrL_mf (by decide), Or.inl ⟨rfl, ?_⟩⟩
      rw [hJ27]
      unfold mfI
      rw [if_neg hz]
      exact Flt_e q1 (ff hz)
    · have hz := bI_1.mp c30
      obtain ⟨m2, C2, M2, p2, q2, hM2, hn2, h42, hp2, cs2, w2⟩ := fs hz
      have ep : lxD (mtp J15) N (lxQ (mtp J15) N p1) = p2 := by
        have hTk := mSc_tk S1
        have a := hTk.2.2.2.1
        have b := hTk.2.2.2.2.2
        have c := hTk.2.1
        exact (nI_ij (by omega) (by omega)).mp (a.symm.trans h42)
      have S2 : mSc J27 N p2 := by rw [hJ27, hz, ep]; exact mB_sc (mSc_B S1) hp2
      have t2 : C2 2 = mtp J27 := by rw [cs2.1 2 (by decide) (by decide), sp_mtp s2]; exact t1
      have q2' := q1.trans q2
      have cs2' := Cst_t cs1 cs2
      have eK : mfL K15 101 K w r = up K15 101 K w := by rw [hz]; rfl
      rw [eK]
      refine r_aload_n (j := 0) rfl rfl dX12_readLook_33 ?_
      refine r_iconst (v := 0) rfl dX12_readLook_34 ?_
      refine r_bipush (v := 99) rfl dX12_readLook_35 ?_
      refine w_cV2s (k_X12_number S2.1 S2.2.1 S2.2.2.1 (mSc_tk S2).2.2.2.2.2 S2.2.2.2.2.2.1) (Nat.le_of_ble_eq_true rfl) lX12_106 vmX12_number rfl (Nat.le_of_ble_eq_true rfl) (Nat.le_of_ble_eq_true rfl) (Nat.le_of_ble_eq_true rfl) dX12_readLook_37 (fun J37 K37 hJ37 hK37 => ?_)
      subst hK37
      obtain ⟨s3, f3, g3⟩ := num_t (i := 0) q2' hM2 rfl (by decide) t2 S2 hn2 cs2' rfl rfl hJ37
      refine r_if_ne (tgt := 45) dX12_readLook_40 (by decide) (fun c40 => ?_) (fun c40 => ?_)
      · obtain ⟨m3, C3, M3, p3, q3, hM3, hn3, t3, S3, cs3, o3, v3, _, nm3, lo3, hi3⟩ := g3 c40
        have g37 : J37 95 18 = nI K := by rw [s3.2 18 (by omega), s2.2 18 (by omega)]; exact g16
        have i37 : (J37 95 18).toInt = K := by rw [g37, nI_toInt (by omega)]
        have b37 : (J37 95 18).toNatClampNeg = K := by rw [g37, nI_clamp (by omega)]
        have r37 : mfr I J37 := mfr_sp (spI_t s1 (spI_t s2 s3))
        refine r_aload_n (j := 0) rfl rfl dX12_readLook_45 ?_
        refine w_getR (b := 119) fX12_150 rfl rfl dX12_readLook_46 ?_
        refine r_aload_n (j := 0) rfl rfl dX12_readLook_49 ?_
        refine w_getI fX12_144 rfl dX12_readLook_50 ?_
        refine r_aload_n (j := 0) rfl rfl dX12_readLook_53 ?_
        refine w_getI fX12_56 rfl dX12_readLook_54 ?_
        refine w_iast rfl (up_in i37 hH5) dX12_readLook_57 (fun J57 hJ57 => ?_)
        rw [b37] at hJ57
        have g57 : J57 95 18 = nI K := by rw [hJ57, up_n _ _ _ (by decide)]; exact g37
        refine r_aload_n (j := 0) rfl rfl dX12_readLook_58 ?_
        refine r_dup rfl dX12_readLook_59 ?_
        refine w_getI fX12_144 rfl dX12_readLook_60 ?_
        refine r_iconst (v := 1) rfl dX12_readLook_63 ?_
        refine r_iadd dX12_readLook_64 ?_
        refine w_putI fX12_144 rfl (rfl) (rfl) dX12_readLook_65 (fun J65 hJ65 => ?_)
        refine r_iconst (v := 1) rfl dX12_readLook_68 ?_
        refine w_iretG rfl (rfl) (Nat.le_of_ble_eq_true rfl) (Nat.le_of_ble_eq_true rfl) dX12_readLook_69 ?_
        rw [g57, nI_1] at hJ65
        have r65 : mfr I J65 := by rw [hJ65, hJ57]; exact mfr_t (mfr_t r37 (mfr_up (by omega))) (mfr_up (by omega))
        refine ⟨rfl, r65, mfrL_up (by decide), Or.inr ⟨rfl, m3, C3, M3, p3, q3, hn3, ?_, cs3, hM3, hH5, ?_⟩⟩
        · refine mSc_up S3 ?_ (fun k hk => ?_)
          · rw [hJ65, hJ57]; simp [up_eq]
          · rw [hJ65, up_s, vu_n _ _ (by omega), hJ57]; simp [up_eq]
        · have a37 : ∀ a, a ≠ 95 → J37 a = I a := fun a ha => by rw [s3.1 a ha, s2.1 a ha, s1.1 a ha]
          have xw : M3 33 13 = w := by rw [nm3, w2]
          rw [v3, xw]
          refine ⟨?_, ?_, rfl, ?_, ?_, lo3, hi3⟩
          · rw [hJ65, up_s, vu_s]
          · rw [hJ65, hJ57, up_n _ _ _ (by decide), up_s, a37 _ (by decide)]
          · intro a a1 a2
            rw [hJ65, up_n _ _ _ a1, hJ57, up_n _ _ _ a2, a37 _ a1]
          · intro k k1 k2
            rw [hJ65, up_s, vu_n _ _ k2, hJ57, up_n _ _ _ (by decide), s3.2 _ k1, s2.2 _ k1, s1.2 _ k1]
      · refine r_iconst (v := 0) rfl dX12_readLook_43 ?_
        refine w_iretG rfl (rfl) (Nat.le_of_ble_eq_true rfl) (Nat.le_of_ble_eq_true rfl) dX12_readLook_44 ?_
        exact ⟨rfl, mfr_sp (spI_t s1 (spI_t s2 s3)), mfrL_up (by decide), Or.inl ⟨rfl, f3 c40⟩⟩
  · refine r_aload_n (j := 0) rfl rfl dX12_readLook_8 ?_
    refine r_iconst (v := 4) rfl dX12_readLook_9 ?_
    refine w_cV1s (k_X12_bad) (Nat.le_of_ble_eq_true rfl) lX12_49 vmX12_bad rfl (Nat.le_of_ble_eq_true rfl) (Nat.le_of_ble_eq_true rfl) (Nat.le_of_ble_eq_true rfl) dX12_readLook_10 (fun J10 K10 hJ10 hK10 => ?_)
    subst hK10
    refine w_iretG rfl (rfl) (Nat.le_of_ble_eq_true rfl) (Nat.le_of_ble_eq_true rfl) dX12_readLook_13 ?_
    have h5' : ¬ K < 4 := (by intro z; have : nI K = nI 4 := (by rw [← e16]; exact c5); have := (nI_ij (by omega) (by omega)).mp this; omega); rw [if_neg h5'] at ak5; exact ⟨rfl, by rw [hJ10]; exact mfr_sp (sp_bd _), mfrL_r, Or.inl ⟨rfl, by rw [hJ10]; rw [ak5] at kf; exact kf (by decide)⟩⟩
end
