/-! the model reads a small word -/
section
variable {sc : Sc} {I C : Is} {L M : Ls} {tg : Nat}
/-- a small word's keyword -/
def kwO (w : Nat) : Nat := if w = 9 then 5 else w + 6
theorem kwO_r {w : Nat} (h : w < 10) : kwO w < 15 ∧ 5 ≤ kwO w ∧ txN (kwO w) = w + 1 ∧ wdN (kwO w) = 0 := by
  have : ∀ w, w < 10 → kwO w < 15 ∧ 5 ≤ kwO w ∧ txN (kwO w) = w + 1 ∧ wdN (kwO w) = 0 := by decide
  exact this w h
theorem kwO_s {k : Nat} (h5 : 5 ≤ k) (h : k < 15) : ∃ w, w < 10 ∧ kwO w = k := by
  by_cases z : k = 5
  · exact ⟨9, by decide, z.symm⟩
  · exact ⟨k - 6, by omega, by unfold kwO; rw [if_neg (by omega)]; omega⟩
theorem wa_r {q e : Nat} : (waV I q e = -1 ∧ ∀ w, w < 10 → ¬ isW I q e (w + 1)) ∨ ∃ w, w < 10 ∧ waV I q e = nI w ∧ isW I q e (w + 1) := by
  unfold waV
  by_cases h1 : isW I q e 1
  · exact Or.inr ⟨0, by decide, by rw [if_pos h1]; rfl, h1⟩
  rw [if_neg h1]
  by_cases h2 : isW I q e 2
  · exact Or.inr ⟨1, by decide, by rw [if_pos h2]; rfl, h2⟩
  rw [if_neg h2]
  by_cases h3 : isW I q e 3
  · exact Or.inr ⟨2, by decide, by rw [if_pos h3]; rfl, h3⟩
  rw [if_neg h3]
  by_cases h4 : isW I q e 4
  · exact Or.inr ⟨3, by decide, by rw [if_pos h4]; rfl, h4⟩
  rw [if_neg h4]
  by_cases h5 : isW I q e 5
  · exact Or.inr ⟨4, by decide, by rw [if_pos h5]; rfl, h5⟩
  rw [if_neg h5]
  by_cases h6 : isW I q e 6
  · exact Or.inr ⟨5, by decide, by rw [if_pos h6]; rfl, h6⟩
  rw [if_neg h6]
  by_cases h7 : isW I q e 7
  · exact Or.inr ⟨6, by decide, by rw [if_pos h7]; rfl, h7⟩
  rw [if_neg h7]
  by_cases h8 : isW I q e 8
  · exact Or.inr ⟨7, by decide, by rw [if_pos h8]; rfl, h8⟩
  rw [if_neg h8]
  by_cases h9 : isW I q e 9
  · exact Or.inr ⟨8, by decide, by rw [if_pos h9]; rfl, h9⟩
  rw [if_neg h9]
  by_cases h10 : isW I q e 10
  · exact Or.inr ⟨9, by decide, by rw [if_pos h10]; rfl, h10⟩
  rw [if_neg h10]
  refine Or.inl ⟨rfl, fun w hw => ?_⟩
  rcases (show w = 0 ∨ w = 1 ∨ w = 2 ∨ w = 3 ∨ w = 4 ∨ w = 5 ∨ w = 6 ∨ w = 7 ∨ w = 8 ∨ w = 9 by omega) with rfl | rfl | rfl | rfl | rfl | rfl | rfl | rfl | rfl | rfl <;> assumption
theorem ak_sm {w : Nat} (h : w < 10) : akR C (nI (kwO w)) = if C 20 (if w = 9 then 12 else w + 3) = 0 then 0 else 3 := by
  obtain ⟨k1, k2, _⟩ := kwO_r h
  have k5 : 5 ≤ (nI (kwO w)).toInt := by rw [nI_toInt (by omega)]; omega
  have kn : ∀ j, j < 5 → ¬ nI (kwO w) = nI j := fun j hj y => by have := (nI_ij (by omega) (by omega)).mp y; omega
  have est : (stO (nI (kwO w))).toNatClampNeg = if w = 9 then 12 else w + 3 := by
    have : ∀ w, w < 10 → (stO (nI (kwO w))).toNatClampNeg = if w = 9 then 12 else w + 3 := by decide +kernel
    exact this w h
  unfold akR
  rw [if_neg (nI_nn (by omega)), est]
  have rm : rmC C (nI (kwO w)) := ⟨fun y => absurd y (kn 0 (by decide)), fun y => absurd y (kn 1 (by decide)), fun y => absurd y (kn 4 (by decide))⟩
  by_cases z : C 20 (if w = 9 then 12 else w + 3) = 0
  · rw [if_neg (fun y => y.2 z), if_pos rm, if_pos z]
  · rw [if_pos ⟨k5, z⟩, if_neg z]
/-- a small word that was read -/
def suS (N H G K : Nat) (I : Is) (L : Ls) : Is → Ls → Is → Ls → Nat → Prop := fun C' _ J K' p' => K' = L ∧ (∃ w, w < 10 ∧ Mq N C' p' (kwO w) (nmN (kwO w) + 1) H G K ∧ J 95 22 = I 95 22 ||| ((1 : Int32) <<< (nI w &&& 31)) ∧ (w = 9 → J 95 20 = C' 35 0 ∧ J 95 21 = C' 35 1 ∧ J 98 = I 98 ∧ 0 ≤ (C' 35 0).toInt ∧ (C' 35 0).toInt ≤ 20 ∧ 0 ≤ (C' 35 1).toInt ∧ (C' 35 1).toInt ≤ 20) ∧ (¬ w = 9 → J 95 20 = I 95 20 ∧ J 95 21 = I 95 21 ∧ J 98 = va_up (I 98) w (C' 35 0) ∧ (ol3.getD (18 + 3 * w) 0).toInt ≤ (C' 35 0).toInt ∧ (C' 35 0).toInt ≤ (ol4.getD (18 + 3 * w) 0).toInt)) ∧ (∀ a, a ≠ 95 → ¬ a = 98 → J a = I a) ∧ (∀ k, k < 3 ∨ 9 < k → ¬ (20 ≤ k ∧ k ≤ 22) → J 95 k = I 95 k)
theorem k_X12_readSmall {N p k0 H G K n : Nat} (hM : Mq N C p k0 0 H G K) (h4c : ¬ lxT (mtp I) N (lxQ (mtp I) N p) = 4) (ht : C 2 = mtp I) (hS : mSc I N p) (hn : N - p < n) (hK : kwT M) (hw : ∀ k, k < 5 → ¬ isW I (lxQ (mtp I) N p) (lxD (mtp I) N (lxQ (mtp I) N p)) (txN k)) (hT : dT C I) : Con sc mX12_readSmall 6 0 0 [.ref 95] (XW I L tg) (gI (phF tg N n C M I L (suS N H G K I L))) := by
  refine Con_of (by decide) (Nat.le_of_ble_eq_true rfl) ?_
  obtain ⟨kw1, kw2⟩ := kw_is (C := C) hK ht hS
  have hB := mSc_B hS
  have hwa := wa_r (I := I) (q := lxQ (mtp I) N p) (e := lxD (mtp I) N (lxQ (mtp I) N p))
  obtain ⟨s, s10, se, sj⟩ := hT
  refine r_aload_n (j := 0) rfl rfl dX12_readSmall_0 ?_
  refine w_cV0p (k_X12_wordAt (mSc_tk hS)) (Nat.le_of_ble_eq_true rfl) lX12_153 vmX12_wordAt rfl (Nat.le_of_ble_eq_true rfl) (Nat.le_of_ble_eq_true rfl) (Nat.le_of_ble_eq_true rfl) dX12_readSmall_1 ?_
  refine r_istore_n (lv' := fun z => [(1, .int z), (0, .ref 95)]) dX12_readSmall_4 rfl (Nat.le_of_ble_eq_true rfl) (fun _ => rfl) (fun x1_4 ex1_4 => ?_)
  rw [← ex1_4] at hwa
  refine r_iload_n (j := 0) rfl rfl dX12_readSmall_5 ?_
  refine r_iconst (v := (-1)) rfl dX12_readSmall_6 ?_
  refine r_icmp_ne (tgt := 16) dX12_readSmall_7 (by decide) (fun c7 => ?_) (fun c7 => ?_)
  · obtain ⟨w, w10, ew, hwd⟩ : ∃ w, w < 10 ∧ x1_4 = nI w ∧ isW I (lxQ (mtp I) N p) (lxD (mtp I) N (lxQ (mtp I) N p)) (w + 1) := by
      rcases hwa with ⟨y, _⟩ | y
      · exact absurd y c7
      · exact y
    subst ew
    obtain ⟨o1, o2, o3, o4⟩ := kwO_r w10
    have hkw := kw1 (kwO w) o1 (by rw [o3]; exact hwd)
    obtain ⟨kf, kt⟩ := kwd_s hM h4c ht hS hn o1 hkw
    rw [ak_sm w10] at kf kt
    have hbit := sj w w10
    refine r_aload_n (j := 1) rfl rfl dX12_readSmall_16 ?_
    refine w_getI fX12_156 rfl dX12_readSmall_17 ?_
    refine r_iload_n (j := 0) rfl rfl dX12_readSmall_20 ?_
    refine r_ishr dX12_readSmall_21 ?_
    refine r_iconst (v := 1) rfl dX12_readSmall_22 ?_
    refine r_iand dX12_readSmall_23 ?_
    refine r_iconst (v := 1) rfl dX12_readSmall_24 ?_
    rw [se]
    refine r_icmp_ne (tgt := 34) dX12_readSmall_25 (by decide) (fun c25 => ?_) (fun c25 => ?_)
    · rw [b_is (by omega) (by omega), hbit, Decidable.not_not] at c25
      rw [if_pos c25] at kt
      obtain ⟨m1, C1, M1, p1, q1, hM1, hn1, h41, hp1, cs1⟩ := kt rfl
      clear kf kt kw1 kw2
      refine r_aload_n (j := 1) rfl rfl dX12_readSmall_34 ?_
      refine r_dup rfl dX12_readSmall_35 ?_
      refine w_getI fX12_156 rfl dX12_readSmall_36 ?_
      refine r_iconst (v := 1) rfl dX12_readSmall_39 ?_
      refine r_iload_n (j := 0) rfl rfl dX12_readSmall_40 ?_
      refine r_ishl dX12_readSmall_41 ?_
      refine r_ior dX12_readSmall_42 ?_
      refine w_putI fX12_156 rfl (rfl) (rfl) dX12_readSmall_43 (fun J43 hJ43 => ?_)
      have B3 : mB J43 N := by unfold mB; rw [hJ43, up_s, vu_n _ _ (show 2 ≠ 22 by decide), vu_n _ _ (show 8 ≠ 22 by decide), vu_n _ _ (show 9 ≠ 22 by decide), up_n _ _ _ (show 96 ≠ 95 by decide)]; exact hB
      have m3' : mtp J43 = mtp I := by funext j; unfold mtp; rw [hJ43, up_n _ _ _ (by decide)]
      have r43 : mfr I J43 := by rw [hJ43]; exact mfr_up (by omega)
      have j43 : J43 95 4 = nI p1 := by rw [hJ43, up_s, vu_n _ _ (by decide)]; exact h41
      refine r_aload_n (j := 1) rfl rfl dX12_readSmall_46 ?_
      refine w_cV0v (k_X12_scan (p := p1) B3.1 B3.2.1 B3.2.2.1 hp1 j43) (Nat.le_of_ble_eq_true rfl) lX12_59 vmX12_scan rfl (Nat.le_of_ble_eq_true rfl) (Nat.le_of_ble_eq_true rfl) (Nat.le_of_ble_eq_true rfl) dX12_readSmall_47 (fun J47 K47 hJ47 hK47 => ?_)
      subst hK47
      have s4 : spI J43 J47 := by rw [hJ47]; exact sp_sc _ _
      have S4 : mSc J47 N p1 := by rw [hJ47]; exact mB_sc B3 hp1
      have t4 : C1 2 = mtp J47 := by rw [cs1.1 2 (by decide) (by decide), sp_mtp s4, m3']; exact ht
      have a47 : ∀ a, a ≠ 95 → J47 a = I a := fun a ha => by rw [s4.1 a ha, hJ43, up_n _ _ _ ha]
      have f47 : ∀ k, k < 3 ∨ 9 < k → k ≠ 22 → J47 95 k = I 95 k := fun k hk h2 => by rw [s4.2 k hk, hJ43, up_s, vu_n _ _ h2]
      have g47 : J47 95 22 = I 95 22 ||| ((1 : Int32) <<< (nI w &&& 31)) := by rw [s4.2 22 (by omega), hJ43, up_s, vu_s]
      have r47 : mfr I J47 := mfr_t r43 (mfr_sp s4)
      clear hJ47
      refine r_iload_n (j := 0) rfl rfl dX12_readSmall_50 ?_
      refine r_bipush (v := 9) rfl dX12_readSmall_51 ?_
      refine r_icmp_ne (tgt := 98) dX12_readSmall_53 (by decide) (fun c53 => ?_) (fun c53 => ?_)
      · have w9 : w < 9 := by
          have : ¬ w = 9 := fun z => c53 (by rw [z]; rfl)
          omega
        have o5 : kwO w = w + 6 := if_neg (by omega)
        rw [o5] at hM1
        have eL : (w + 6) * 3 + 0 = 18 + 3 * w := by omega
        have n6 : nmN (w + 6) = 1 := by unfold nmN; rw [if_neg (by omega), if_neg (by omega)]
        have d6 : wdN (w + 6) = 0 := by rw [← o5]; exact o4
        refine r_aload_n (j := 1) rfl rfl dX12_readSmall_98 ?_
        refine r_iload_n (j := 0) rfl rfl dX12_readSmall_99 ?_
        refine w_cS1p (k_X12_least rfl w9) (Nat.le_of_ble_eq_true rfl) lX12_165 mtX12_least (Nat.le_of_ble_eq_true rfl) (Nat.le_of_ble_eq_true rfl) (Nat.le_of_ble_eq_true rfl) dX12_readSmall_100 ?_
        refine r_iload_n (j := 0) rfl rfl dX12_readSmall_103 ?_
        refine w_cS1p (k_X12_greatest rfl w9) (Nat.le_of_ble_eq_true rfl) lX12_168 mtX12_greatest (Nat.le_of_ble_eq_true rfl) (Nat.le_of_ble_eq_true rfl) (Nat.le_of_ble_eq_true rfl) dX12_readSmall_104 ?_
        refine w_cV2s (k_X12_number S4.1 S4.2.1 S4.2.2.1 (mSc_tk S4).2.2.2.2.2 S4.2.2.2.2.2.1) (Nat.le_of_ble_eq_true rfl) lX12_106 vmX12_number rfl (Nat.le_of_ble_eq_true rfl) (Nat.le_of_ble_eq_true rfl) (Nat.le_of_ble_eq_true rfl) dX12_readSmall_107 (fun J107 K107 hJ107 hK107 => ?_)
        subst hK107
        obtain ⟨s5, f5, g5⟩ := num_t (i := 0) q1 hM1 (by omega) (by omega) t4 S4 hn1 cs1 (by rw [eL]) (by rw [eL]) hJ107
        refine r_if_ne (tgt := 115) dX12_readSmall_110 (by decide) (fun c110 => ?_) (fun c110 => ?_)
        · refine r_aload_n (j := 1) rfl rfl dX12_readSmall_115 ?_
          refine w_getR (b := 98) fX12_171 rfl rfl dX12_readSmall_116 ?_
          refine r_iload_n (j := 0) rfl rfl dX12_readSmall_119 ?_
          refine r_aload_n (j := 1) rfl rfl dX12_readSmall_120 ?_
          refine w_getI fX12_56 rfl dX12_readSmall_121 ?_
          refine w_iast rfl (up_in (i := w) (nI_toInt (by omega)) w9) dX12_readSmall_124 (fun J124 hJ124 => ?_)
          refine r_iconst (v := 1) rfl dX12_readSmall_125 ?_
          refine w_iretG rfl (rfl) (Nat.le_of_ble_eq_true rfl) (Nat.le_of_ble_eq_true rfl) dX12_readSmall_126 ?_
          obtain ⟨m6, C6, M6, p6, q6, hM6, hn6, t6, S6, cs6, o6, v6, f66, nm6, lo6, hi6⟩ := g5 c110
          rw [nI_clamp (by omega)] at hJ124
          refine ⟨rfl, by rw [hJ124]; exact mfr_t (mfr_t r47 (mfr_sp s5)) (mfr_up (by omega)), mfrL_r, Or.inr ⟨rfl, m6, C6, M6, p6, q6, hn6, ?_, cs6, rfl, ⟨w, w10, ?_, ?_, fun z => absurd z (by omega), fun _ => ⟨?_, ?_, ?_, ?_, ?_⟩⟩, ?_, ?_⟩⟩
          · exact mSc_up S6 (by rw [hJ124, up_n _ _ _ (by decide)]) (fun k _ => by rw [hJ124, up_n _ _ _ (by decide)])
          · rw [o5, n6]; exact hM6
          · rw [hJ124, up_n _ _ _ (by decide), s5.2 22 (by omega), g47]
          · rw [hJ124, up_n _ _ _ (by decide), s5.2 20 (by omega), f47 20 (by omega) (by decide)]
          · rw [hJ124, up_n _ _ _ (by decide), s5.2 21 (by omega), f47 21 (by omega) (by decide)]
          · rw [hJ124, up_s, s5.1 98 (by decide), a47 98 (by decide), v6]
          · rw [v6]; exact lo6
          · rw [v6]; exact hi6
          · intro a a1 a2; rw [hJ124, up_n _ _ _ a2, s5.1 a a1, a47 a a1]
          · intro k k1 k2; rw [hJ124, up_n _ _ _ (by decide), s5.2 k k1, f47 k k1 (by omega)]
        · refine r_iconst (v := 0) rfl dX12_readSmall_113 ?_
          refine w_iretG rfl (rfl) (Nat.le_of_ble_eq_true rfl) (Nat.le_of_ble_eq_true rfl) dX12_readSmall_114 ?_
          exact ⟨rfl, mfr_t r47 (mfr_sp s5), mfrL_r, Or.inl ⟨rfl, f5 c110⟩⟩
      · obtain rfl : w = 9 := (nI_ij (by omega) (by omega)).mp (show nI w = nI 9 from c53)
        refine r_aload_n (j := 1) rfl rfl dX12_readSmall_56 ?_
        refine r_iconst (v := 0) rfl dX12_readSmall_57 ?_
        refine r_bipush (v := 20) rfl dX12_readSmall_58 ?_
        refine w_cV2s (k_X12_number S4.1 S4.2.1 S4.2.2.1 (mSc_tk S4).2.2.2.2.2 S4.2.2.2.2.2.1) (Nat.le_of_ble_eq_true rfl) lX12_106 vmX12_number rfl (Nat.le_of_ble_eq_true rfl) (Nat.le_of_ble_eq_true rfl) (Nat.le_of_ble_eq_true rfl) dX12_readSmall_60 (fun J60 K60 hJ60 hK60 => ?_)
        subst hK60
        obtain ⟨s5, f5, g5⟩ := num_t (i := 0) q1 hM1 rfl (by decide) t4 S4 hn1 cs1 rfl rfl hJ60
        refine r_if_ne (tgt := 68) dX12_readSmall_63 (by decide) (fun c63 => ?_) (fun c63 => ?_)
        · obtain ⟨m6, C6, M6, p6, q6, hM6, hn6, t6, S6, cs6, o6, v6, f66, nm6, lo6, hi6⟩ := g5 c63
          refine r_aload_n (j := 1) rfl rfl dX12_readSmall_68 ?_
          refine r_aload_n (j := 1) rfl rfl dX12_readSmall_69 ?_
          refine w_getI fX12_56 rfl dX12_readSmall_70 ?_
          refine w_putI fX12_159 rfl (rfl) (rfl) dX12_readSmall_73 (fun J73 hJ73 => ?_)
          have S7 : mSc J73 N p6 := mSc_up S6 (by rw [hJ73, up_n _ _ _ (by decide)]) (fun k _ => by rw [hJ73, up_s, vu_n _ _ (by omega)])
          have t7 : C6 2 = mtp J73 := by rw [t6]; funext j; unfold mtp; rw [hJ73, up_n _ _ _ (by decide)]
          have r73 : mfr I J73 := by rw [hJ73]; exact mfr_t (mfr_t r47 (mfr_sp s5)) (mfr_up (by omega))
          refine r_aload_n (j := 1) rfl rfl dX12_readSmall_76 ?_
          refine r_iconst (v := 0) rfl dX12_readSmall_77 ?_
          refine r_bipush (v := 20) rfl dX12_readSmall_78 ?_
          refine w_cV2s (k_X12_number S7.1 S7.2.1 S7.2.2.1 (mSc_tk S7).2.2.2.2.2 S7.2.2.2.2.2.1) (Nat.le_of_ble_eq_true rfl) lX12_106 vmX12_number rfl (Nat.le_of_ble_eq_true rfl) (Nat.le_of_ble_eq_true rfl) (Nat.le_of_ble_eq_true rfl) dX12_readSmall_80 (fun J80 K80 hJ80 hK80 => ?_)
          subst hK80
          obtain ⟨s8, f8, g8⟩ := num_t (i := 1) q6 hM6 rfl (by decide) t7 S7 hn6 cs6 rfl rfl hJ80
          refine r_if_ne (tgt := 88) dX12_readSmall_83 (by decide) (fun c83 => ?_) (fun c83 => ?_)
          · refine r_aload_n (j := 1) rfl rfl dX12_readSmall_88 ?_
            refine r_aload_n (j := 1) rfl rfl dX12_readSmall_89 ?_
            refine w_getI fX12_56 rfl dX12_readSmall_90 ?_
            refine w_putI fX12_162 rfl (rfl) (rfl) dX12_readSmall_93 (fun J93 hJ93 => ?_)
            refine r_iconst (v := 1) rfl dX12_readSmall_96 ?_
            refine w_iretG rfl (rfl) (Nat.le_of_ble_eq_true rfl) (Nat.le_of_ble_eq_true rfl) dX12_readSmall_97 ?_
            obtain ⟨m9, C9, M9, p9, q9, hM9, hn9, t9, S9, cs9, o9, v9, f99, nm9, lo9, hi9⟩ := g8 c83
            have x0 : C9 35 0 = J60 95 7 := by rw [o9 0 (by decide), v6]
            have a60 : ∀ a, a ≠ 95 → J93 a = I a := fun a ha => by rw [hJ93, up_n _ _ _ ha, s8.1 a ha, hJ73, up_n _ _ _ ha, s5.1 a ha, a47 a ha]
            have b93 : ∀ k, k < 3 ∨ 9 < k → k ≠ 21 → k ≠ 20 → J93 95 k = J47 95 k := fun k hk h1 h2 => by rw [hJ93, up_s, vu_n _ _ h1, s8.2 k hk, hJ73, up_s, vu_n _ _ h2, s5.2 k hk]
            refine ⟨rfl, by rw [hJ93]; exact mfr_t (mfr_t r73 (mfr_sp s8)) (mfr_up (by omega)), mfrL_r, Or.inr ⟨rfl, m9, C9, M9, p9, q9, hn9, ?_, cs9, rfl, ⟨9, by decide, hM9, ?_, fun _ => ⟨?_, ?_, ?_, ?_, ?_, ?_, ?_⟩, fun z => absurd rfl z⟩, fun a a1 a2 => a60 a a1, ?_⟩⟩
            · exact mSc_up S9 (by rw [hJ93, up_n _ _ _ (by decide)]) (fun k _ => by rw [hJ93, up_s, vu_n _ _ (by omega)])
            · rw [b93 22 (by omega) (by decide) (by decide), g47]
            · rw [hJ93, up_s, vu_n _ _ (by decide), s8.2 20 (by omega), hJ73, up_s, vu_s, x0]
            · rw [hJ93, up_s, vu_s, v9]
            · exact a60 98 (by decide)
            · rw [x0]; exact lo6
            · rw [x0]; exact hi6
            · rw [v9]; exact lo9
            · rw [v9]; exact hi9
            · intro k k1 k2; rw [b93 k k1 (by omega) (by omega), f47 k k1 (by omega)]
          · refine r_iconst (v := 0) rfl dX12_readSmall_86 ?_
            refine w_iretG rfl (rfl) (Nat.le_of_ble_eq_true rfl) (Nat.le_of_ble_eq_true rfl) dX12_readSmall_87 ?_
            exact ⟨rfl, mfr_t r73 (mfr_sp s8), mfrL_r, Or.inl ⟨rfl, f8 c83⟩⟩
        · refine r_iconst (v := 0) rfl dX12_readSmall_66 ?_
          refine w_iretG rfl (rfl) (Nat.le_of_ble_eq_true rfl) (Nat.le_of_ble_eq_true rfl) dX12_readSmall_67 ?_
          exact ⟨rfl, mfr_t r47 (mfr_sp s5), mfrL_r, Or.inl ⟨rfl, f5 c63⟩⟩
    · refine r_aload_n (j := 1) rfl rfl dX12_readSmall_28 ?_
      refine r_iconst (v := 3) rfl dX12_readSmall_29 ?_
      refine w_cV1s (k_X12_bad) (Nat.le_of_ble_eq_true rfl) lX12_49 vmX12_bad rfl (Nat.le_of_ble_eq_true rfl) (Nat.le_of_ble_eq_true rfl) (Nat.le_of_ble_eq_true rfl) dX12_readSmall_30 (fun J30 K30 hJ30 hK30 => ?_)
      subst hK30
      refine w_iretG rfl (rfl) (Nat.le_of_ble_eq_true rfl) (Nat.le_of_ble_eq_true rfl) dX12_readSmall_33 ?_
      rw [b_is (by omega) (by omega), hbit] at c25
      refine ⟨rfl, by rw [hJ30]; exact mfr_sp (sp_bd _), mfrL_r, Or.inl ⟨rfl, ?_⟩⟩
      rw [hJ30]
      rw [if_neg c25] at kf
      exact kf (by decide)
  · refine r_aload_n (j := 1) rfl rfl dX12_readSmall_10 ?_
    refine r_iconst (v := 1) rfl dX12_readSmall_11 ?_
    refine w_cV1s (k_X12_bad) (Nat.le_of_ble_eq_true rfl) lX12_49 vmX12_bad rfl (Nat.le_of_ble_eq_true rfl) (Nat.le_of_ble_eq_true rfl) (Nat.le_of_ble_eq_true rfl) dX12_readSmall_12 (fun J12 K12 hJ12 hK12 => ?_)
    subst hK12
    refine w_iretG rfl (rfl) (Nat.le_of_ble_eq_true rfl) (Nat.le_of_ble_eq_true rfl) dX12_readSmall_15 ?_
    have hkw : kwF (tokI C N p) (tokL C M N p) = -1 := by
      refine kw2 (fun k hk hz => ?_)
      by_cases z : k < 5
      · exact hw k z hz
      · obtain ⟨w, w1, w2⟩ := kwO_s (k := k) (by omega) hk
        rcases hwa with ⟨_, y⟩ | ⟨w', _, y, _⟩
        · rw [← w2, (kwO_r w1).2.2.1] at hz; exact y w w1 hz
        · rw [c7] at y; exact nI_nn (by omega) y.symm
    refine ⟨rfl, by rw [hJ12]; exact mfr_sp (sp_bd _), mfrL_r, Or.inl ⟨rfl, ?_⟩⟩
    rw [hJ12]
    refine Flt_s hM (fun z => h4c (by rw [← ht]; exact z.1)) ht hS hn ?_ (by decide)
    rw [acP_k rfl, hkw]
    show akR (tokI C N p) (-1) = 1
    unfold akR
    exact if_pos rfl
end
