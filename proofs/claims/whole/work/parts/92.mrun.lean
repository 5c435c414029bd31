/-! the model reads a run -/
section
variable {sc : Sc} {I C : Is} {L M : Ls} {tg : Nat}
/-- a run that was read -/
def suR (N H G K : Nat) (I : Is) (L : Ls) : Is → Ls → Is → Ls → Nat → Prop := fun C' _ J K' p' => Mq N C' p' 3 4 H G K ∧ K' = L ∧ (∃ a b, a < H ∧ b < H ∧ a ≠ b ∧ C' 33 14 = nI a ∧ C' 33 15 = nI b ∧ J 115 = va_up (va_up (I 115) (5 * a + b) (C' 35 0)) (5 * b + a) (C' 35 0) ∧ J 95 46 = I 95 46 ||| (((1 : Int32) <<< (nI (5 * a + b) &&& 31)) ||| ((1 : Int32) <<< (nI (5 * b + a) &&& 31)))) ∧ (∀ a, a ≠ 95 → ¬ a = 115 → J a = I a) ∧ (∀ k, k < 3 ∨ 9 < k → k ≠ 46 → J 95 k = I 95 k) ∧ 0 ≤ (C' 35 0).toInt ∧ (C' 35 0).toInt ≤ 60
theorem k_X12_readRun {N p k0 H G K n : Nat} (hM : Mq N C p k0 0 H G K) (h4c : ¬ lxT (mtp I) N (lxQ (mtp I) N p) = 4) (ht : C 2 = mtp I) (hS : mSc I N p) (hn : N - p < n) (hw : kwF (tokI C N p) (tokL C M N p) = nI 3) (hd : dH C M I L H) (hR : dR C I) : Con sc mX12_readRun 4 0 0 [.ref 95] (XW I L tg) (gI (phF tg N n C M I L (suR N H G K I L))) := by
  refine Con_of (by decide) (Nat.le_of_ble_eq_true rfl) ?_
  obtain ⟨kf, kt⟩ := kwd_s hM h4c ht hS hn (by decide) hw
  have e16 : I 95 16 = nI H := hd.1
  obtain ⟨hH, h5, _⟩ := hM.2.2.2.2.2.2.2.2.2.1
  have ak5 : akR C (nI 3) = 0 := by
    unfold akR rmC
    rw [if_neg (by decide), if_neg (fun z => absurd z.1 (by decide)), if_pos ⟨fun y => absurd y (by decide), fun y => absurd y (by decide), fun y => absurd y (by decide)⟩]
  have hB := mSc_B hS
  obtain ⟨m1, C1, M1, p1, q1, hM1, hn1, h41, hp1, cs1⟩ := kt ak5
  refine r_aload_n (j := 0) rfl rfl dX12_readRun_0 ?_
  refine w_cV0v (k_X12_scan (p := p1) hB.1 hB.2.1 hB.2.2.1 hp1 h41) (Nat.le_of_ble_eq_true rfl) lX12_59 vmX12_scan rfl (Nat.le_of_ble_eq_true rfl) (Nat.le_of_ble_eq_true rfl) (Nat.le_of_ble_eq_true rfl) dX12_readRun_1 (fun J1 K1 hJ1 hK1 => ?_)
  subst hK1
  have s1 : spI I J1 := by rw [hJ1]; exact sp_sc _ _
  have S1 : mSc J1 N p1 := by rw [hJ1]; exact mB_sc hB hp1
  have t1 : C1 2 = mtp J1 := by rw [cs1.1 2 (by decide) (by decide), sp_mtp s1]; exact ht
  have g16 : J1 95 16 = nI H := by rw [s1.2 16 (by omega)]; exact e16
  clear hJ1
  have hs := fun (r : Int32) hr => hut_s (M := M1) (L := K1) (r := r) hM1 (Or.inr ⟨rfl, Or.inl rfl⟩) t1 S1 hn1 (fun j hj => by rw [cs1.2 21 (by decide)]; exact (hd.2.1 j hj).1) rfl hr
  have fi := ixN_r (K1 99) (nmW (mtp J1) (lxD (mtp J1) N (lxQ (mtp J1) N p1) - lxQ (mtp J1) N p1) (lxQ (mtp J1) N p1) 0) H 0
  have B1 := mSc_B S1
  refine r_aload_n (j := 0) rfl rfl dX12_readRun_4 ?_
  refine w_getI fX12_27 rfl dX12_readRun_5 ?_
  refine r_iconst (v := 1) rfl dX12_readRun_8 ?_
  refine r_icmp_eq (tgt := 18) dX12_readRun_9 (by decide) (fun c9 => ?_) (fun c9 => ?_)
  · refine r_aload_n (j := 0) rfl rfl dX12_readRun_18 ?_
    refine r_aload_n (j := 0) rfl rfl dX12_readRun_19 ?_
    refine w_getR (b := 99) fX12_98 rfl rfl dX12_readRun_20 ?_
    refine r_aload_n (j := 0) rfl rfl dX12_readRun_23 ?_
    refine w_getI fX12_95 rfl dX12_readRun_24 ?_
    refine w_cV2p (k_X12_find (a := 99) (M := 5) (K := H) (mSc_tk S1) rfl (by decide) (by rw [g16, nI_toInt (by omega)]) h5) (Nat.le_of_ble_eq_true rfl) lX12_67 vmX12_find rfl (Nat.le_of_ble_eq_true rfl) (Nat.le_of_ble_eq_true rfl) (Nat.le_of_ble_eq_true rfl) dX12_readRun_27 ?_
    refine r_istore_n (lv' := fun z => [(1, .int z), (0, .ref 95)]) dX12_readRun_30 rfl (Nat.le_of_ble_eq_true rfl) (fun _ => rfl) (fun x1_30 ex1_30 => ?_)
    rw [← ex1_30] at fi hs
    refine r_iload_n (j := 0) rfl rfl dX12_readRun_31 ?_
    refine r_iconst (v := (-1)) rfl dX12_readRun_32 ?_
    refine r_icmp_ne (tgt := 42) dX12_readRun_33 (by decide) (fun c33 => ?_) (fun c33 => ?_)
    · obtain ⟨a, a1, a2⟩ : ∃ a, a < H ∧ x1_30 = nI a := by
        rcases fi with y | ⟨j, _, y2, y3, _⟩
        · exact absurd y c33
        · exact ⟨j, by omega, y3⟩
      obtain ⟨m2, C2, M2, p2, q2, hM2, hn2, h42, hp2, cs2, w2⟩ := (hs 0 (by simp [c9, c33])).2 rfl
      have w2 : C2 33 14 = x1_30 := w2
      refine r_aload_n (j := 1) rfl rfl dX12_readRun_42 ?_
      refine w_cV0v (k_X12_scan (p := p2) B1.1 B1.2.1 B1.2.2.1 hp2 h42) (Nat.le_of_ble_eq_true rfl) lX12_59 vmX12_scan rfl (Nat.le_of_ble_eq_true rfl) (Nat.le_of_ble_eq_true rfl) (Nat.le_of_ble_eq_true rfl) dX12_readRun_43 (fun J43 K43 hJ43 hK43 => ?_)
      subst hK43
      have s2 : spI J1 J43 := by rw [hJ43]; exact sp_sc _ _
      have S2 : mSc J43 N p2 := by rw [hJ43]; exact mB_sc B1 hp2
      have t2 : C2 2 = mtp J43 := by rw [cs2.1 2 (by decide) (by decide), sp_mtp s2]; exact t1
      have h16 : J43 95 16 = nI H := by rw [s2.2 16 (by omega)]; exact g16
      have q2' := q1.trans q2
      have cs2' := Cst_t cs1 cs2
      clear hJ43
      have hs2 := fun (r : Int32) hr => hut_s (M := M2) (L := K43) (r := r) hM2 (Or.inr ⟨rfl, Or.inr rfl⟩) t2 S2 hn2 (fun j hj => by rw [cs2'.2 21 (by decide)]; exact (hd.2.1 j hj).1) rfl hr
      have fi2 := ixN_r (K43 99) (nmW (mtp J43) (lxD (mtp J43) N (lxQ (mtp J43) N p2) - lxQ (mtp J43) N p2) (lxQ (mtp J43) N p2) 0) H 0
      have B2 := mSc_B S2
      refine r_aload_n (j := 1) rfl rfl dX12_readRun_46 ?_
      refine w_getI fX12_27 rfl dX12_readRun_47 ?_
      refine r_iconst (v := 1) rfl dX12_readRun_50 ?_
      refine r_icmp_eq (tgt := 60) dX12_readRun_51 (by decide) (fun c51 => ?_) (fun c51 => ?_)
      · refine r_aload_n (j := 1) rfl rfl dX12_readRun_60 ?_
        refine r_aload_n (j := 1) rfl rfl dX12_readRun_61 ?_
        refine w_getR (b := 99) fX12_98 rfl rfl dX12_readRun_62 ?_
        refine r_aload_n (j := 1) rfl rfl dX12_readRun_65 ?_
        refine w_getI fX12_95 rfl dX12_readRun_66 ?_
        refine w_cV2p (k_X12_find (a := 99) (M := 5) (K := H) (mSc_tk S2) rfl (by decide) (by rw [h16, nI_toInt (by omega)]) h5) (Nat.le_of_ble_eq_true rfl) lX12_67 vmX12_find rfl (Nat.le_of_ble_eq_true rfl) (Nat.le_of_ble_eq_true rfl) (Nat.le_of_ble_eq_true rfl) dX12_readRun_69 ?_
        refine r_istore_n (lv' := fun z => [(2, .int z), (1, .int x1_30), (0, .ref 95)]) dX12_readRun_72 rfl (Nat.le_of_ble_eq_true rfl) (fun _ => rfl) (fun x2_72 ex2_72 => ?_)
        rw [← ex2_72] at fi2 hs2
        refine r_iload_n (j := 0) rfl rfl dX12_readRun_73 ?_
        refine r_iconst (v := (-1)) rfl dX12_readRun_74 ?_
        refine r_icmp_eq (tgt := 105) dX12_readRun_75 (by decide) (fun c75 => ?_) (fun c75 => ?_)
        · refine r_iload_n (j := 0) rfl rfl dX12_readRun_105 ?_
          refine r_iconst (v := (-1)) rfl dX12_readRun_106 ?_
          refine r_icmp_ne (tgt := 116) dX12_readRun_107 (by decide) (fun c107 => ?_) (fun c107 => ?_)
          · exact absurd c75 c107
          · refine r_aload_n (j := 2) rfl rfl dX12_readRun_110 ?_
            refine r_iconst (v := 5) rfl dX12_readRun_111 ?_
            refine w_cV1s (k_X12_bad) (Nat.le_of_ble_eq_true rfl) lX12_49 vmX12_bad rfl (Nat.le_of_ble_eq_true rfl) (Nat.le_of_ble_eq_true rfl) (Nat.le_of_ble_eq_true rfl) dX12_readRun_112 (fun J112 K112 hJ112 hK112 => ?_)
            subst hK112
            refine w_iretG rfl (rfl) (Nat.le_of_ble_eq_true rfl) (Nat.le_of_ble_eq_true rfl) dX12_readRun_115 ?_
            exact ⟨rfl, by rw [hJ112]; exact mfr_t (mfr_sp (spI_t s1 s2)) (mfr_sp (sp_bd _)), mfrL_r, Or.inl ⟨rfl, by rw [hJ112]; exact Flt_e q2' ((hs2 5 (by simp [c51, c75])).1 (by decide))⟩⟩
        · refine r_iload_n (j := 1) rfl rfl dX12_readRun_78 ?_
          refine r_iload_n (j := 0) rfl rfl dX12_readRun_79 ?_
          refine r_icmp_eq (tgt := 99) dX12_readRun_80 (by decide) (fun c80 => ?_) (fun c80 => ?_)
          · refine r_aload_n (j := 2) rfl rfl dX12_readRun_99 ?_
            refine r_iconst (v := 3) rfl dX12_readRun_100 ?_
            refine w_cV1s (k_X12_bad) (Nat.le_of_ble_eq_true rfl) lX12_49 vmX12_bad rfl (Nat.le_of_ble_eq_true rfl) (Nat.le_of_ble_eq_true rfl) (Nat.le_of_ble_eq_true rfl) dX12_readRun_101 (fun J101 K101 hJ101 hK101 => ?_)
            subst hK101
            refine w_iretG rfl (rfl) (Nat.le_of_ble_eq_true rfl) (Nat.le_of_ble_eq_true rfl) dX12_readRun_104 ?_
            exact ⟨rfl, by rw [hJ101]; exact mfr_t (mfr_sp (spI_t s1 s2)) (mfr_sp (sp_bd _)), mfrL_r, Or.inl ⟨rfl, by rw [hJ101]; exact Flt_e q2' ((hs2 3 (by simp [c51, c75, w2, c80])).1 (by decide))⟩⟩
          · obtain ⟨b, b1, b2⟩ : ∃ b, b < H ∧ x2_72 = nI b := by
              rcases fi2 with y | ⟨j, _, y2, y3, _⟩
              · exact absurd y c75
              · exact ⟨j, by omega, y3⟩
            obtain ⟨s, sl, se, sj⟩ := hR
            have e46 : J43 95 46 = nI s := by rw [s2.2 46 (by omega), s1.2 46 (by omega)]; exact se
            have eix : (5 : Int32) * x1_30 + x2_72 = nI (5 * a + b) := by rw [a2, b2, show (5 : Int32) = nI 5 from rfl, pk_mul, nI_add]
            have eiy : (C2 33 14 * 5 + x2_72).toNatClampNeg = 5 * a + b := by rw [w2, Int32.mul_comm, eix, nI_clamp (by omega)]
            have e26 : C2 26 = C 26 := cs2'.1 26 (by decide) (by decide)
            refine r_aload_n (j := 2) rfl rfl dX12_readRun_83 ?_
            refine w_getI fX12_138 rfl dX12_readRun_84 ?_
            refine r_iconst (v := 5) rfl dX12_readRun_87 ?_
            refine r_iload_n (j := 1) rfl rfl dX12_readRun_88 ?_
            refine r_imul dX12_readRun_89 ?_
            refine r_iload_n (j := 0) rfl rfl dX12_readRun_90 ?_
            refine r_iadd dX12_readRun_91 ?_
            refine r_ishr dX12_readRun_92 ?_
            refine r_iconst (v := 1) rfl dX12_readRun_93 ?_
            refine r_iand dX12_readRun_94 ?_
            refine r_iconst (v := 1) rfl dX12_readRun_95 ?_
            rw [e46, eix]
            refine r_icmp_ne (tgt := 105) dX12_readRun_96 (by decide) (fun c96 => ?_) (fun c96 => ?_)
            · rw [b_is sl (by omega)] at c96
              have hz : C2 26 (C2 33 14 * 5 + x2_72).toNatClampNeg = -1 := by rw [eiy, e26]; exact Decidable.not_not.mp (fun y => c96 ((sj _ (by omega)).1.mpr y))
              have hne : ¬ x2_72 = C2 33 14 := fun y => c80 (by rw [y, w2])
              obtain ⟨m3, C3, M3, p3, q3, hM3, hn3, h43, hp3, cs3, w3⟩ := (hs2 0 (by simp [c51, c75, hz, hne])).2 rfl
              have w3 : C3 33 14 = C2 33 14 ∧ C3 33 15 = x2_72 := w3
              have hab : a ≠ b := fun y => c80 (by rw [a2, b2, y])
              have eiz : (5 : Int32) * x2_72 + x1_30 = nI (5 * b + a) := by rw [a2, b2, show (5 : Int32) = nI 5 from rfl, pk_mul, nI_add]
              refine r_iload_n (j := 0) rfl rfl dX12_readRun_105 ?_
              refine r_iconst (v := (-1)) rfl dX12_readRun_106 ?_
              refine r_icmp_ne (tgt := 116) dX12_readRun_107 (by decide) (fun c107 => ?_) (fun c107 => ?_)
              · refine r_aload_n (j := 2) rfl rfl dX12_readRun_116 ?_
                refine r_dup rfl dX12_readRun_117 ?_
                refine w_getI fX12_138 rfl dX12_readRun_118 ?_
                refine r_iconst (v := 1) rfl dX12_readRun_121 ?_
                refine r_iconst (v := 5) rfl dX12_readRun_122 ?_
                refine r_iload_n (j := 1) rfl rfl dX12_readRun_123 ?_
                refine r_imul dX12_readRun_124 ?_
                refine r_iload_n (j := 0) rfl rfl dX12_readRun_125 ?_
                refine r_iadd dX12_readRun_126 ?_
                refine r_ishl dX12_readRun_127 ?_
                refine r_iconst (v := 1) rfl dX12_readRun_128 ?_
                refine r_iconst (v := 5) rfl dX12_readRun_129 ?_
                refine r_iload_n (j := 0) rfl rfl dX12_readRun_130 ?_
                refine r_imul dX12_readRun_131 ?_
                refine r_iload_n (j := 1) rfl rfl dX12_readRun_132 ?_
                refine r_iadd dX12_readRun_133 ?_
                refine r_ishl dX12_readRun_134 ?_
                refine r_ior dX12_readRun_135 ?_
                refine r_ior dX12_readRun_136 ?_
                refine w_putI fX12_138 rfl (rfl) (rfl) dX12_readRun_137 (fun J137 hJ137 => ?_)
                rw [eix, eiz] at hJ137
                have B3 : mB J137 N := by unfold mB; rw [hJ137, up_s, vu_n _ _ (show 2 ≠ 46 by decide), vu_n _ _ (show 8 ≠ 46 by decide), vu_n _ _ (show 9 ≠ 46 by decide), up_n _ _ _ (show 96 ≠ 95 by decide)]; exact B2
                have m3' : mtp J137 = mtp J43 := by funext j; unfold mtp; rw [hJ137, up_n _ _ _ (by decide)]
                have r137 : mfr I J137 := by rw [hJ137]; exact mfr_t (mfr_sp (spI_t s1 s2)) (mfr_up (by omega))
                have j137 : J137 95 4 = nI p3 := by rw [hJ137, up_s, vu_n _ _ (by decide)]; exact h43
                refine r_aload_n (j := 2) rfl rfl dX12_readRun_140 ?_
                refine w_cV0v (k_X12_scan (p := p3) B3.1 B3.2.1 B3.2.2.1 hp3 j137) (Nat.le_of_ble_eq_true rfl) lX12_59 vmX12_scan rfl (Nat.le_of_ble_eq_true rfl) (Nat.le_of_ble_eq_true rfl) (Nat.le_of_ble_eq_true rfl) dX12_readRun_141 (fun J141 K141 hJ141 hK141 => ?_)
                subst hK141
                have s4 : spI J137 J141 := by rw [hJ141]; exact sp_sc _ _
                have S4 : mSc J141 N p3 := by rw [hJ141]; exact mB_sc B3 hp3
                have t4 : C3 2 = mtp J141 := by rw [cs3.1 2 (by decide) (by decide), sp_mtp s4, m3']; exact t2
                have q3' := q2'.trans q3
                have cs3' := Cst_t cs2' cs3
                clear hJ141
                refine r_aload_n (j := 2) rfl rfl dX12_readRun_144 ?_
                refine r_iconst (v := 0) rfl dX12_readRun_145 ?_
                refine r_bipush (v := 60) rfl dX12_readRun_146 ?_
                refine w_cV2s (k_X12_number S4.1 S4.2.1 S4.2.2.1 (mSc_tk S4).2.2.2.2.2 S4.2.2.2.2.2.1) (Nat.le_of_ble_eq_true rfl) lX12_106 vmX12_number rfl (Nat.le_of_ble_eq_true rfl) (Nat.le_of_ble_eq_true rfl) (Nat.le_of_ble_eq_true rfl) dX12_readRun_148 (fun J148 K148 hJ148 hK148 => ?_)
                subst hK148
                obtain ⟨s5, f5, g5⟩ := num_t (i := 0) q3' hM3 rfl (by decide) t4 S4 hn3 cs3' rfl rfl hJ148
                refine r_if_ne (tgt := 156) dX12_readRun_151 (by decide) (fun c151 => ?_) (fun c151 => ?_)
                · refine r_aload_n (j := 2) rfl rfl dX12_readRun_156 ?_
                  refine w_getR (b := 115) fX12_141 rfl rfl dX12_readRun_157 ?_
                  refine r_iconst (v := 5) rfl dX12_readRun_160 ?_
                  refine r_iload_n (j := 1) rfl rfl dX12_readRun_161 ?_
                  refine r_imul dX12_readRun_162 ?_
                  refine r_iload_n (j := 0) rfl rfl dX12_readRun_163 ?_
                  refine r_iadd dX12_readRun_164 ?_
                  refine r_aload_n (j := 2) rfl rfl dX12_readRun_165 ?_
                  refine w_getI fX12_56 rfl dX12_readRun_166 ?_
                  refine w_iast rfl (by rw [eix, vp_in_iff, nI_toInt (by omega)]; omega) dX12_readRun_169 (fun J169 hJ169 => ?_)
                  refine r_aload_n (j := 2) rfl rfl dX12_readRun_170 ?_
                  refine w_getR (b := 115) fX12_141 rfl rfl dX12_readRun_171 ?_
                  refine r_iconst (v := 5) rfl dX12_readRun_174 ?_
                  refine r_iload_n (j := 0) rfl rfl dX12_readRun_175 ?_
                  refine r_imul dX12_readRun_176 ?_
                  refine r_iload_n (j := 1) rfl rfl dX12_readRun_177 ?_
                  refine r_iadd dX12_readRun_178 ?_
                  refine r_aload_n (j := 2) rfl rfl dX12_readRun_179 ?_
                  refine w_getI fX12_56 rfl dX12_readRun_180 ?_
                  refine w_iast rfl (by rw [eiz, vp_in_iff, nI_toInt (by omega)]; omega) dX12_readRun_183 (fun J183 hJ183 => ?_)
                  refine r_iconst (v := 1) rfl dX12_readRun_184 ?_
                  refine w_iretG rfl (rfl) (Nat.le_of_ble_eq_true rfl) (Nat.le_of_ble_eq_true rfl) dX12_readRun_185 ?_
                  obtain ⟨m6, C6, M6, p6, q6, hM6, hn6, t6, S6, cs6, o6, v6, f66, nm6, lo6, hi6⟩ := g5 c151
                  rw [eix, nI_clamp (by omega)] at hJ169
                  have j7 : J169 95 7 = J148 95 7 := by rw [hJ169, up_n _ _ _ (by decide)]
                  rw [eiz, nI_clamp (by omega), j7] at hJ183
                  have a148 : ∀ a, a ≠ 95 → J148 a = I a := fun a ha => by rw [s5.1 a ha, s4.1 a ha, hJ137, up_n _ _ _ ha, s2.1 a ha, s1.1 a ha]
                  refine ⟨rfl, by rw [hJ183, hJ169]; exact mfr_t (mfr_t (mfr_t r137 (mfr_sp (spI_t s4 s5))) (mfr_up (by omega))) (mfr_up (by omega)), mfrL_r, Or.inr ⟨rfl, m6, C6, M6, p6, q6, hn6, ?_, cs6, hM6, rfl, ⟨a, b, a1, b1, hab, ?_, ?_, ?_, ?_⟩, ?_, ?_, ?_, ?_⟩⟩
                  · exact mSc_up S6 (by rw [hJ183, hJ169]; simp [up_eq]) (fun k _ => by rw [hJ183, hJ169]; simp [up_eq])
                  · rw [f66 14 (by decide) (by decide) (by decide) (by decide) (by decide), w3.1, w2, a2]
                  · rw [f66 15 (by decide) (by decide) (by decide) (by decide) (by decide), w3.2, b2]
                  · rw [hJ183, up_s, hJ169, up_s, v6, a148 _ (by decide)]
                  · rw [hJ183, up_n _ _ _ (by decide), hJ169, up_n _ _ _ (by decide), s5.2 46 (by omega), s4.2 46 (by omega), hJ137, up_s, vu_s, e46, se]
                  · intro c c1 c2; rw [hJ183, up_n _ _ _ c2, hJ169, up_n _ _ _ c2, a148 _ c1]
                  · intro k hk k2; rw [hJ183, up_n _ _ _ (by decide), hJ169, up_n _ _ _ (by decide), s5.2 _ hk, s4.2 _ hk, hJ137, up_s, vu_n _ _ k2, s2.2 _ hk, s1.2 _ hk]
                  · rw [v6]; exact lo6
                  · rw [v6]; exact hi6
                · refine r_iconst (v := 0) rfl dX12_readRun_154 ?_
                  refine w_iretG rfl (rfl) (Nat.le_of_ble_eq_true rfl) (Nat.le_of_ble_eq_true rfl) dX12_readRun_155 ?_
                  exact ⟨rfl, mfr_t r137 (mfr_sp (spI_t s4 s5)), mfrL_r, Or.inl ⟨rfl, f5 c151⟩⟩
              · exact absurd c107 c75
            · rw [b_is sl (by omega)] at c96
              have hz : ¬ C2 26 (C2 33 14 * 5 + x2_72).toNatClampNeg = -1 := by rw [eiy, e26]; exact (sj _ (by omega)).1.mp c96
              refine r_aload_n (j := 2) rfl rfl dX12_readRun_99 ?_
              refine r_iconst (v := 3) rfl dX12_readRun_100 ?_
              refine w_cV1s (k_X12_bad) (Nat.le_of_ble_eq_true rfl) lX12_49 vmX12_bad rfl (Nat.le_of_ble_eq_true rfl) (Nat.le_of_ble_eq_true rfl) (Nat.le_of_ble_eq_true rfl) dX12_readRun_101 (fun J101 K101 hJ101 hK101 => ?_)
              subst hK101
              refine w_iretG rfl (rfl) (Nat.le_of_ble_eq_true rfl) (Nat.le_of_ble_eq_true rfl) dX12_readRun_104 ?_
              exact ⟨rfl, by rw [hJ101]; exact mfr_t (mfr_sp (spI_t s1 s2)) (mfr_sp (sp_bd _)), mfrL_r, Or.inl ⟨rfl, by rw [hJ101]; exact Flt_e q2' ((hs2 3 (by simp [c51, c75, hz])).1 (by decide))⟩⟩
      · refine r_aload_n (j := 1) rfl rfl dX12_readRun_54 ?_
        refine r_iconst (v := 1) rfl dX12_readRun_55 ?_
        refine w_cV1s (k_X12_bad) (Nat.le_of_ble_eq_true rfl) lX12_49 vmX12_bad rfl (Nat.le_of_ble_eq_true rfl) (Nat.le_of_ble_eq_true rfl) (Nat.le_of_ble_eq_true rfl) dX12_readRun_56 (fun J56 K56 hJ56 hK56 => ?_)
        subst hK56
        refine w_iretG rfl (rfl) (Nat.le_of_ble_eq_true rfl) (Nat.le_of_ble_eq_true rfl) dX12_readRun_59 ?_
        exact ⟨rfl, by rw [hJ56]; exact mfr_t (mfr_sp (spI_t s1 s2)) (mfr_sp (sp_bd _)), mfrL_r, Or.inl ⟨rfl, by rw [hJ56]; exact Flt_e q2' ((hs2 1 (by simp [c51])).1 (by decide))⟩⟩
    · refine r_aload_n (j := 1) rfl rfl dX12_readRun_36 ?_
      refine r_iconst (v := 5) rfl dX12_readRun_37 ?_
      refine w_cV1s (k_X12_bad) (Nat.le_of_ble_eq_true rfl) lX12_49 vmX12_bad rfl (Nat.le_of_ble_eq_true rfl) (Nat.le_of_ble_eq_true rfl) (Nat.le_of_ble_eq_true rfl) dX12_readRun_38 (fun J38 K38 hJ38 hK38 => ?_)
      subst hK38
      refine w_iretG rfl (rfl) (Nat.le_of_ble_eq_true rfl) (Nat.le_of_ble_eq_true rfl) dX12_readRun_41 ?_
      exact ⟨rfl, by rw [hJ38]; exact mfr_t (mfr_sp s1) (mfr_sp (sp_bd _)), mfrL_r, Or.inl ⟨rfl, by rw [hJ38]; exact Flt_e q1 ((hs 5 (by simp [c9, c33])).1 (by decide))⟩⟩
  · refine r_aload_n (j := 0) rfl rfl dX12_readRun_12 ?_
    refine r_iconst (v := 1) rfl dX12_readRun_13 ?_
    refine w_cV1s (k_X12_bad) (Nat.le_of_ble_eq_true rfl) lX12_49 vmX12_bad rfl (Nat.le_of_ble_eq_true rfl) (Nat.le_of_ble_eq_true rfl) (Nat.le_of_ble_eq_true rfl) dX12_readRun_14 (fun J14 K14 hJ14 hK14 => ?_)
    subst hK14
    refine w_iretG rfl (rfl) (Nat.le_of_ble_eq_true rfl) (Nat.le_of_ble_eq_true rfl) dX12_readRun_17 ?_
    exact ⟨rfl, by rw [hJ14]; exact mfr_t (mfr_sp s1) (mfr_sp (sp_bd _)), mfrL_r, Or.inl ⟨rfl, by rw [hJ14]; exact Flt_e q1 ((hs 1 (by simp [c9])).1 (by decide))⟩⟩
end
