/-! the model reads a hut -/
section
variable {sc : Sc} {I C : Is} {L M : Ls} {tg : Nat}
/-- what a clause's reading comes to -/
def phF (tg N n : Nat) (C : Is) (M : Ls) (I : Is) (L : Ls) (suc : Is → Ls → Is → Ls → Nat → Prop) : Int32 → Is → Ls → Nat → Prop := fun v J K tq => tq = tg ∧ mfr I J ∧ mfrL L K ∧ (v = 0 ∧ Flt N n C M J ∨ v = 1 ∧ ∃ m C' M' p', cQ N n C M m C' M' ∧ N - p' < m ∧ mSc J N p' ∧ Cst C C' M M' ∧ suc C' M' J K p')
theorem mfrL_r : mfrL L L := fun _ _ => rfl
theorem mfrL_mf {a K : Nat} {w : Int64} {r : Int32} (ha : 99 ≤ a ∧ a ≤ 101) : mfrL L (mfL L a K w r) := by
  intro b hb
  unfold mfL
  split
  · exact up_n _ _ _ (by omega)
  · rfl
theorem mfrL_up {a K : Nat} {w : Int64} (ha : 99 ≤ a ∧ a ≤ 101) : mfrL L (up L a K w) := fun b hb => up_n _ _ _ (by omega)
theorem Flt_e {N n m : Nat} {C C' : Is} {M M' : Ls} {J : Is} (h : cQ N n C M m C' M') (g : Flt N m C' M' J) : Flt N n C M J := by
  unfold Flt at *
  rw [h.1]
  exact g
/-- one number more -/
theorem num_t {N p k s i H G K n m : Nat} {C1 J : Is} {M1 : Ls} {lo hi : Int32} (q : cQ N n C M m C1 M1) (hM : Mq N C1 p k s H G K) (hs : s = wdN k + 1 + i) (hi' : i < nmN k) (ht : C1 2 = mtp I) (hS : mSc I N p) (hn : N - p < m) (cs : Cst C C1 M M1) (hlo : ol3.getD (k * 3 + i) 0 = lo) (hhi : ol4.getD (k * 3 + i) 0 = hi) (hJ : J = mnI I N (lxD (mtp I) N (lxQ (mtp I) N p)) lo hi) : spI I J ∧ (bI (mnR I lo hi = 0) = 0 → Flt N n C M J) ∧ (¬ bI (mnR I lo hi = 0) = 0 → ∃ m' C' M' p', cQ N n C M m' C' M' ∧ Mq N C' p' k (s + 1) H G K ∧ N - p' < m' ∧ C' 2 = mtp J ∧ mSc J N p' ∧ Cst C C' M M' ∧ (∀ j, j ≠ i → C' 35 j = C1 35 j) ∧ C' 35 i = J 95 7 ∧ (∀ j, j ≠ 6 → j ≠ 7 → j ≠ 8 → j ≠ 10 → j ≠ 11 → C' 33 j = C1 33 j) ∧ M' 33 13 = M1 33 13 ∧ lo.toInt ≤ (J 95 7).toInt ∧ (J 95 7).toInt ≤ hi.toInt) := by
  obtain ⟨f, g⟩ := num_s (M := M1) hM hs hi' ht hS hn hlo hhi
  have sp : spI I J := by rw [hJ]; exact sp_mn _ _ _ _
  refine ⟨sp, fun h => ?_, fun h => ?_⟩
  · have h := bI_0.mp h
    rw [hJ, mn_bd h]
    exact Flt_e q (f h)
  · have h := bI_1.mp h
    obtain ⟨m', C', M', p', e1, e2, e3, e4, e5, e6, e7, e8, e9, e10, e11, e12⟩ := g h
    have hTk := mSc_tk hS
    have ep : lxD (mtp I) N (lxQ (mtp I) N p) = p' := by
      have a := hTk.2.2.2.1
      have b := hTk.2.2.2.2.2
      have c := hTk.2.1
      exact (nI_ij (by omega) (by omega)).mp (a.symm.trans e4)
    rw [ep] at hJ
    have j7 : J 95 7 = I 95 6 := by rw [hJ]; exact mn_7 h
    have eC : C' 2 = C1 2 := e6.1 2 (by decide) (by decide)
    exact ⟨m', C', M', p', q.trans e1, e2, e3, by rw [eC, ht, sp_mtp sp], by rw [hJ]; exact mn_sc h (mSc_B hS) e5, Cst_t cs e6, e7, by rw [e8, j7], e9, e10, by rw [j7]; exact e11, by rw [j7]; exact e12⟩
/-- a hut that was read -/
def suH (N H G K : Nat) (I : Is) (L : Ls) : Is → Ls → Is → Ls → Nat → Prop := fun C' M' J K' p' => Mq N C' p' 0 5 H G K ∧ H < 5 ∧ J 95 16 = nI (H + 1) ∧ J 111 = va_up (I 111) H (C' 35 0) ∧ J 112 = va_up (I 112) H (C' 35 1) ∧ J 113 = va_up (I 113) H (C' 35 2) ∧ J 114 = va_up (I 114) H (-1) ∧ K' = up L 99 H (M' 33 13) ∧ (∀ a, a ≠ 95 → ¬ (111 ≤ a ∧ a ≤ 114) → J a = I a) ∧ (∀ k, k < 3 ∨ 9 < k → k ≠ 16 → J 95 k = I 95 k) ∧ 0 ≤ (C' 35 0).toInt ∧ (C' 35 0).toInt ≤ 400 ∧ 1 ≤ (C' 35 1).toInt ∧ (C' 35 1).toInt ≤ 300 ∧ 1 ≤ (C' 35 2).toInt ∧ (C' 35 2).toInt ≤ 40
theorem k_X12_readHut {N p k0 H G K n : Nat} (hM : Mq N C p k0 0 H G K) (h4c : ¬ lxT (mtp I) N (lxQ (mtp I) N p) = 4) (ht : C 2 = mtp I) (hS : mSc I N p) (hn : N - p < n) (hw : kwF (tokI C N p) (tokL C M N p) = nI 0) (hd : dH C M I L H) : Con sc mX12_readHut 4 0 0 [.ref 95] (XW I L tg) (gI (phF tg N n C M I L (suH N H G K I L))) := by
  refine Con_of (by decide) (Nat.le_of_ble_eq_true rfl) ?_
  obtain ⟨kf, kt⟩ := kwd_s hM h4c ht hS hn (by decide) hw
  have e16 : I 95 16 = nI H := hd.1
  obtain ⟨hH, h5, _⟩ := hM.2.2.2.2.2.2.2.2.2.1
  have ak5 : akR C (nI 0) = if H < 5 then 0 else 4 := by
    unfold akR rmC
    rw [if_neg (by decide), if_neg (fun z => absurd z.1 (by decide)), hH, nI_toInt (by omega)]
    by_cases z : H < 5
    · rw [if_pos z, if_pos ⟨fun _ => by omega, fun y => absurd y (by decide), fun y => absurd y (by decide)⟩]
    · rw [if_neg z, if_neg (fun y => z (by have := y.1 rfl; omega))]
  have hB := mSc_B hS
  refine r_aload_n (j := 0) rfl rfl dX12_readHut_0 ?_
  refine w_getI fX12_95 rfl dX12_readHut_1 ?_
  refine r_iconst (v := 5) rfl dX12_readHut_4 ?_
  refine r_icmp_ne (tgt := 14) dX12_readHut_5 (by decide) (fun c5 => ?_) (fun c5 => ?_)
  · have hH5 : H < 5 := by
      have : ¬ H = 5 := fun z => c5 (by rw [e16, z]; rfl)
      omega
    rw [if_pos hH5] at ak5
    obtain ⟨m1, C1, M1, p1, q1, hM1, hn1, h41, hp1, cs1⟩ := kt ak5
    refine r_aload_n (j := 0) rfl rfl dX12_readHut_14 ?_
    refine w_cV0v (k_X12_scan (p := p1) hB.1 hB.2.1 hB.2.2.1 hp1 h41) (Nat.le_of_ble_eq_true rfl) lX12_59 vmX12_scan rfl (Nat.le_of_ble_eq_true rfl) (Nat.le_of_ble_eq_true rfl) (Nat.le_of_ble_eq_true rfl) dX12_readHut_15 (fun J15 K15 hJ15 hK15 => ?_)
    subst hK15
    have s1 : spI I J15 := by rw [hJ15]; exact sp_sc _ _
    have S1 : mSc J15 N p1 := by rw [hJ15]; exact mB_sc hB hp1
    have t1 : C1 2 = mtp J15 := by rw [cs1.1 2 (by decide) (by decide), sp_mtp s1]; exact ht
    have g16 : J15 95 16 = nI H := by rw [s1.2 16 (by omega)]; exact e16
    clear hJ15
    obtain ⟨ff, fs⟩ := fre_s (M := M1) (L := K15) (b := 99) (a := 21) (c := H) hM1 (Or.inl ⟨rfl, rfl, rfl⟩) t1 S1 hn1 (fun j hj => by rw [cs1.2 21 (by decide)]; exact (hd.2.1 j hj).1) rfl
    refine r_aload_n (j := 0) rfl rfl dX12_readHut_18 ?_
    refine r_aload_n (j := 0) rfl rfl dX12_readHut_19 ?_
    refine w_getR (b := 99) fX12_98 rfl rfl dX12_readHut_20 ?_
    refine r_aload_n (j := 0) rfl rfl dX12_readHut_23 ?_
    refine w_getI fX12_95 rfl dX12_readHut_24 ?_
    refine w_cV2s (k_X12_fresh (a := 99) (M := 5) (K := H) (mSc_tk S1) S1.2.2.1 rfl (by decide) g16 hH5) (Nat.le_of_ble_eq_true rfl) lX12_102 vmX12_fresh rfl (Nat.le_of_ble_eq_true rfl) (Nat.le_of_ble_eq_true rfl) (Nat.le_of_ble_eq_true rfl) dX12_readHut_27 (fun J27 K27 hJ27 hK27 => ?_)
    subst hK27
    generalize hww : nmW (mtp J15) (lxD (mtp J15) N (lxQ (mtp J15) N p1) - lxQ (mtp J15) N p1) (lxQ (mtp J15) N p1) 0 = w at *; generalize hr : mfR J15 K15 99 H w = r at *
    have s2 : spI J15 J27 := by rw [hJ27]; exact sp_mf _ _ _
    refine r_if_eq (tgt := 44) dX12_readHut_30 (by decide) (fun c30 => ?_) (fun c30 => ?_)
    · refine r_iconst (v := 0) rfl dX12_readHut_44 ?_
      refine w_iretG rfl (rfl) (Nat.le_of_ble_eq_true rfl) (Nat.le_of_ble_eq_true rfl) dX12_readHut_45 ?_
      have hz := bI_0.mp c30
      refine ⟨rfl, mfr_sp (spI_t s1 s2), mfrL_mf (by decide), Or.inl ⟨rfl, ?_⟩⟩
      rw [hJ27]
      unfold mfI
      rw [if_neg hz]
      exact Flt_e q1 (ff hz)
    · have hz := bI_1.mp c30
      obtain ⟨m2, C2, M2, p2, q2, hM2, hn2, h42, hp2, cs2, w2⟩ := fs hz
      have ep : lxD (mtp J15) N (lxQ (mtp J15) N p1) = p2 := by
        have hTk := mSc_tk S1
        have a := hTk.2.2.2.1
        have b := hTk.2.2.2.2.2
        have c := hTk.2.1
        exact (nI_ij (by omega) (by omega)).mp (a.symm.trans h42)
      have S2 : mSc J27 N p2 := by rw [hJ27, hz, ep]; exact mB_sc (mSc_B S1) hp2
      have t2 : C2 2 = mtp J27 := by rw [cs2.1 2 (by decide) (by decide), sp_mtp s2]; exact t1
      have q2' := q1.trans q2
      have cs2' := Cst_t cs1 cs2
      have eK : mfL K15 99 H w r = up K15 99 H w := by rw [hz]; rfl
      rw [eK]
      refine r_aload_n (j := 0) rfl rfl dX12_readHut_33 ?_
      refine r_iconst (v := 0) rfl dX12_readHut_34 ?_
      refine r_sipush (v := 400) rfl dX12_readHut_35 ?_
      refine w_cV2s (k_X12_number S2.1 S2.2.1 S2.2.2.1 (mSc_tk S2).2.2.2.2.2 S2.2.2.2.2.2.1) (Nat.le_of_ble_eq_true rfl) lX12_106 vmX12_number rfl (Nat.le_of_ble_eq_true rfl) (Nat.le_of_ble_eq_true rfl) (Nat.le_of_ble_eq_true rfl) dX12_readHut_38 (fun J38 K38 hJ38 hK38 => ?_)
      subst hK38
      obtain ⟨s3, f3, g3⟩ := num_t (i := 0) q2' hM2 rfl (by decide) t2 S2 hn2 cs2' rfl rfl hJ38
      refine r_if_ne (tgt := 46) dX12_readHut_41 (by decide) (fun c41 => ?_) (fun c41 => ?_)
      · obtain ⟨m3, C3, M3, p3, q3, hM3, hn3, t3, S3, cs3, o3, v3, _, nm3, lo3, hi3⟩ := g3 c41
        have g38 : J38 95 16 = nI H := by rw [s3.2 16 (by omega), s2.2 16 (by omega)]; exact g16
        have i38 : (J38 95 16).toInt = H := by rw [g38, nI_toInt (by omega)]
        have b38 : (J38 95 16).toNatClampNeg = H := by rw [g38, nI_clamp (by omega)]
        have r38 : mfr I J38 := mfr_sp (spI_t s1 (spI_t s2 s3))
        refine r_aload_n (j := 0) rfl rfl dX12_readHut_46 ?_
        refine w_getR (b := 111) fX12_110 rfl rfl dX12_readHut_47 ?_
        refine r_aload_n (j := 0) rfl rfl dX12_readHut_50 ?_
        refine w_getI fX12_95 rfl dX12_readHut_51 ?_
        refine r_aload_n (j := 0) rfl rfl dX12_readHut_54 ?_
        refine w_getI fX12_56 rfl dX12_readHut_55 ?_
        refine w_iast rfl (up_in i38 hH5) dX12_readHut_58 (fun J58 hJ58 => ?_)
        rw [b38] at hJ58
        have S4 : mSc J58 N p3 := mSc_up S3 (by rw [hJ58, up_n _ _ _ (by decide)]) (fun k _ => by rw [hJ58, up_n _ _ _ (by decide)])
        have t4 : C3 2 = mtp J58 := by rw [t3]; funext j; unfold mtp; rw [hJ58, up_n _ _ _ (by decide)]
        have r58 : mfr I J58 := by rw [hJ58]; exact mfr_t r38 (mfr_up (by omega))
        refine r_aload_n (j := 0) rfl rfl dX12_readHut_59 ?_
        refine r_iconst (v := 1) rfl dX12_readHut_60 ?_
        refine r_sipush (v := 300) rfl dX12_readHut_61 ?_
        refine w_cV2s (k_X12_number S4.1 S4.2.1 S4.2.2.1 (mSc_tk S4).2.2.2.2.2 S4.2.2.2.2.2.1) (Nat.le_of_ble_eq_true rfl) lX12_106 vmX12_number rfl (Nat.le_of_ble_eq_true rfl) (Nat.le_of_ble_eq_true rfl) (Nat.le_of_ble_eq_true rfl) dX12_readHut_64 (fun J64 K64 hJ64 hK64 => ?_)
        subst hK64
        obtain ⟨s4, f4, g4⟩ := num_t (i := 1) q3 hM3 rfl (by decide) t4 S4 hn3 cs3 rfl rfl hJ64
        refine r_if_ne (tgt := 72) dX12_readHut_67 (by decide) (fun c67 => ?_) (fun c67 => ?_)
        · obtain ⟨m5, C5, M5, p5, q5, hM5, hn5, t5, S5, cs5, o5, v5, _, nm5, lo5, hi5⟩ := g4 c67
          have g64 : J64 95 16 = nI H := by rw [s4.2 16 (by omega), hJ58, up_n _ _ _ (by decide)]; exact g38
          have i64 : (J64 95 16).toInt = H := by rw [g64, nI_toInt (by omega)]
          have b64 : (J64 95 16).toNatClampNeg = H := by rw [g64, nI_clamp (by omega)]
          have r64 : mfr I J64 := mfr_t r58 (mfr_sp s4)
          refine r_aload_n (j := 0) rfl rfl dX12_readHut_72 ?_
          refine w_getR (b := 112) fX12_114 rfl rfl dX12_readHut_73 ?_
          refine r_aload_n (j := 0) rfl rfl dX12_readHut_76 ?_
          refine w_getI fX12_95 rfl dX12_readHut_77 ?_
          refine r_aload_n (j := 0) rfl rfl dX12_readHut_80 ?_
          refine w_getI fX12_56 rfl dX12_readHut_81 ?_
          refine w_iast rfl (up_in i64 hH5) dX12_readHut_84 (fun J84 hJ84 => ?_)
          rw [b64] at hJ84
          have S6 : mSc J84 N p5 := mSc_up S5 (by rw [hJ84, up_n _ _ _ (by decide)]) (fun k _ => by rw [hJ84, up_n _ _ _ (by decide)])
          have t6 : C5 2 = mtp J84 := by rw [t5]; funext j; unfold mtp; rw [hJ84, up_n _ _ _ (by decide)]
          have r84 : mfr I J84 := by rw [hJ84]; exact mfr_t r64 (mfr_up (by omega))
          refine r_aload_n (j := 0) rfl rfl dX12_readHut_85 ?_
          refine r_iconst (v := 1) rfl dX12_readHut_86 ?_
          refine r_bipush (v := 40) rfl dX12_readHut_87 ?_
          refine w_cV2s (k_X12_number S6.1 S6.2.1 S6.2.2.1 (mSc_tk S6).2.2.2.2.2 S6.2.2.2.2.2.1) (Nat.le_of_ble_eq_true rfl) lX12_106 vmX12_number rfl (Nat.le_of_ble_eq_true rfl) (Nat.le_of_ble_eq_true rfl) (Nat.le_of_ble_eq_true rfl) dX12_readHut_89 (fun J89 K89 hJ89 hK89 => ?_)
          subst hK89
          obtain ⟨s6, f6, g6⟩ := num_t (i := 2) q5 hM5 rfl (by decide) t6 S6 hn5 cs5 rfl rfl hJ89
          refine r_if_ne (tgt := 97) dX12_readHut_92 (by decide) (fun c92 => ?_) (fun c92 => ?_)
          · obtain ⟨m7, C7, M7, p7, q7, hM7, hn7, t7, S7, cs7, o7, v7, _, nm7, lo7, hi7⟩ := g6 c92
            have g89 : J89 95 16 = nI H := by rw [s6.2 16 (by omega), hJ84, up_n _ _ _ (by decide)]; exact g64
            have i89 : (J89 95 16).toInt = H := by rw [g89, nI_toInt (by omega)]
            have b89 : (J89 95 16).toNatClampNeg = H := by rw [g89, nI_clamp (by omega)]
            have r89 : mfr I J89 := mfr_t r84 (mfr_sp s6)
            refine r_aload_n (j := 0) rfl rfl dX12_readHut_97 ?_
            refine w_getR (b := 113) fX12_117 rfl rfl dX12_readHut_98 ?_
            refine r_aload_n (j := 0) rfl rfl dX12_readHut_101 ?_
            refine w_getI fX12_95 rfl dX12_readHut_102 ?_
            refine r_aload_n (j := 0) rfl rfl dX12_readHut_105 ?_
            refine w_getI fX12_56 rfl dX12_readHut_106 ?_
            refine w_iast rfl (up_in i89 hH5) dX12_readHut_109 (fun J109 hJ109 => ?_)
            rw [b89] at hJ109
            have g109 : J109 95 16 = nI H := by rw [hJ109, up_n _ _ _ (by decide)]; exact g89
            have i109 : (J109 95 16).toInt = H := by rw [g109, nI_toInt (by omega)]
            have b109 : (J109 95 16).toNatClampNeg = H := by rw [g109, nI_clamp (by omega)]
            refine r_aload_n (j := 0) rfl rfl dX12_readHut_110 ?_
            refine w_getR (b := 114) fX12_120 rfl rfl dX12_readHut_111 ?_
            refine r_aload_n (j := 0) rfl rfl dX12_readHut_114 ?_
            refine w_getI fX12_95 rfl dX12_readHut_115 ?_
            refine r_iconst (v := (-1)) rfl dX12_readHut_118 ?_
            refine w_iast rfl (up_in i109 hH5) dX12_readHut_119 (fun J119 hJ119 => ?_)
            rw [b109] at hJ119
            have g119 : J119 95 16 = nI H := by rw [hJ119, up_n _ _ _ (by decide)]; exact g109
            refine r_aload_n (j := 0) rfl rfl dX12_readHut_120 ?_
            refine r_dup rfl dX12_readHut_121 ?_
            refine w_getI fX12_95 rfl dX12_readHut_122 ?_
            refine r_iconst (v := 1) rfl dX12_readHut_125 ?_
            refine r_iadd dX12_readHut_126 ?_
            refine w_putI fX12_95 rfl (rfl) (rfl) dX12_readHut_127 (fun J127 hJ127 => ?_)
            refine r_iconst (v := 1) rfl dX12_readHut_130 ?_
            refine w_iretG rfl (rfl) (Nat.le_of_ble_eq_true rfl) (Nat.le_of_ble_eq_true rfl) dX12_readHut_131 ?_
            rw [g119, nI_1] at hJ127
            have r127 : mfr I J127 := by rw [hJ127, hJ119, hJ109]; exact mfr_t (mfr_t (mfr_t r89 (mfr_up (by omega))) (mfr_up (by omega))) (mfr_up (by omega))
            refine ⟨rfl, r127, mfrL_up (by decide), Or.inr ⟨rfl, m7, C7, M7, p7, q7, hn7, ?_, cs7, hM7, hH5, ?_⟩⟩
            · refine mSc_up S7 ?_ (fun k hk => ?_)
              · rw [hJ127, hJ119, hJ109]; simp [up_eq]
              · rw [hJ127, up_s, vu_n _ _ (by omega), hJ119, hJ109]; simp [up_eq]
            · have a38 : ∀ a, a ≠ 95 → J38 a = I a := fun a ha => by rw [s3.1 a ha, s2.1 a ha, s1.1 a ha]
              have x0 : C7 35 0 = J38 95 7 := by rw [o7 0 (by decide), o5 0 (by decide), v3]
              have x1 : C7 35 1 = J64 95 7 := by rw [o7 1 (by decide), v5]
              have xw : M7 33 13 = w := by rw [nm7, nm5, nm3, w2]
              rw [x0, x1, v7, xw]
              refine ⟨?_, ?_, ?_, ?_, ?_, rfl, ?_, ?_, lo3, hi3, lo5, hi5, lo7, hi7⟩
              · rw [hJ127, up_s, vu_s]
              · rw [hJ127, hJ119, hJ109, up_n _ _ _ (by decide), up_n _ _ _ (by decide), up_n _ _ _ (by decide), s6.1 _ (by decide), hJ84, up_n _ _ _ (by decide), s4.1 _ (by decide), hJ58, up_s, a38 _ (by decide)]
              · rw [hJ127, hJ119, hJ109, up_n _ _ _ (by decide), up_n _ _ _ (by decide), up_n _ _ _ (by decide), s6.1 _ (by decide), hJ84, up_s, s4.1 _ (by decide), hJ58, up_n _ _ _ (by decide), a38 _ (by decide)]
              · rw [hJ127, hJ119, hJ109, up_n _ _ _ (by decide), up_n _ _ _ (by decide), up_s, s6.1 _ (by decide), hJ84, up_n _ _ _ (by decide), s4.1 _ (by decide), hJ58, up_n _ _ _ (by decide), a38 _ (by decide)]
              · rw [hJ127, up_n _ _ _ (by decide), hJ119, up_s, hJ109, up_n _ _ _ (by decide), s6.1 _ (by decide), hJ84, up_n _ _ _ (by decide), s4.1 _ (by decide), hJ58, up_n _ _ _ (by decide), a38 _ (by decide)]
              · intro a a1 a2
                rw [hJ127, up_n _ _ _ a1, hJ119, up_n _ _ _ (by omega), hJ109, up_n _ _ _ (by omega), s6.1 _ a1, hJ84, up_n _ _ _ (by omega), s4.1 _ a1, hJ58, up_n _ _ _ (by omega), a38 _ a1]
              · intro k k1 k2
                rw [hJ127, up_s, vu_n _ _ k2, hJ119, up_n _ _ _ (by decide), hJ109, up_n _ _ _ (by decide), s6.2 _ k1, hJ84, up_n _ _ _ (by decide), s4.2 _ k1, hJ58, up_n _ _ _ (by decide), s3.2 _ k1, s2.2 _ k1, s1.2 _ k1]
          · refine r_iconst (v := 0) rfl dX12_readHut_95 ?_
            refine w_iretG rfl (rfl) (Nat.le_of_ble_eq_true rfl) (Nat.le_of_ble_eq_true rfl) dX12_readHut_96 ?_
            exact ⟨rfl, mfr_t r84 (mfr_sp s6), mfrL_up (by decide), Or.inl ⟨rfl, f6 c92⟩⟩
        · refine r_iconst (v := 0) rfl dX12_readHut_70 ?_
          refine w_iretG rfl (rfl) (Nat.le_of_ble_eq_true rfl) (Nat.le_of_ble_eq_true rfl) dX12_readHut_71 ?_
          exact ⟨rfl, mfr_t r58 (mfr_sp s4), mfrL_up (by decide), Or.inl ⟨rfl, f4 c67⟩⟩
      · refine r_iconst (v := 0) rfl dX12_readHut_44 ?_
        refine w_iretG rfl (rfl) (Nat.le_of_ble_eq_true rfl) (Nat.le_of_ble_eq_true rfl) dX12_readHut_45 ?_
        exact ⟨rfl, mfr_sp (spI_t s1 (spI_t s2 s3)), mfrL_up (by decide), Or.inl ⟨rfl, f3 c41⟩⟩
  · refine r_aload_n (j := 0) rfl rfl dX12_readHut_8 ?_
    refine r_iconst (v := 4) rfl dX12_readHut_9 ?_
    refine w_cV1s (k_X12_bad) (Nat.le_of_ble_eq_true rfl) lX12_49 vmX12_bad rfl (Nat.le_of_ble_eq_true rfl) (Nat.le_of_ble_eq_true rfl) (Nat.le_of_ble_eq_true rfl) dX12_readHut_10 (fun J10 K10 hJ10 hK10 => ?_)
    subst hK10
    refine w_iretG rfl (rfl) (Nat.le_of_ble_eq_true rfl) (Nat.le_of_ble_eq_true rfl) dX12_readHut_13 ?_
    have h5' : ¬ H < 5 := (by intro z; have : nI H = nI 5 := (by rw [← e16]; exact c5); have := (nI_ij (by omega) (by omega)).mp this; omega); rw [if_neg h5'] at ak5; exact ⟨rfl, by rw [hJ10]; exact mfr_sp (sp_bd _), mfrL_r, Or.inl ⟨rfl, by rw [hJ10]; rw [ak5] at kf; exact kf (by decide)⟩⟩
end
