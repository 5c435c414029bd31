/-! the model's reader: the small words; words and their numbers -/
section
variable {sc : Sc} {I : Is} {L : Ls} {tg : Nat}
def waV (I : Is) (q e : Nat) : Int32 := if isW I q e 1 then 0 else if isW I q e 2 then 1 else if isW I q e 3 then 2 else if isW I q e 4 then 3 else if isW I q e 5 then 4 else if isW I q e 6 then 5 else if isW I q e 7 then 6 else if isW I q e 8 then 7 else if isW I q e 9 then 8 else if isW I q e 10 then 9 else -1
theorem k_X12_wordAt {N q e : Nat} (hT : mTk I N q e) : Con sc mX12_wordAt 5 0 0 [.ref 95] (XW I L tg) (rI (waV I q e) (XW I L tg)) := by
  refine Con_of (by decide) (Nat.le_of_ble_eq_true rfl) ?_
  refine r_aload_n (j := 0) rfl rfl dX12_wordAt_0 ?_
  refine r_ldcS oR_1 dX12_wordAt_1 ?_
  refine w_cV1p (k_X12_is (j := 1) (by decide) hT) (Nat.le_of_ble_eq_true rfl) lX12_73 vmX12_is rfl (Nat.le_of_ble_eq_true rfl) (Nat.le_of_ble_eq_true rfl) (Nat.le_of_ble_eq_true rfl) dX12_wordAt_3 ?_
  refine r_if_eq (tgt := 13) dX12_wordAt_6 (by decide) (fun c6 => ?_) (fun c6 => ?_)
  · refine r_aload_n (j := 0) rfl rfl dX12_wordAt_13 ?_
    refine r_ldcS oR_2 dX12_wordAt_14 ?_
    refine w_cV1p (k_X12_is (j := 2) (by decide) hT) (Nat.le_of_ble_eq_true rfl) lX12_73 vmX12_is rfl (Nat.le_of_ble_eq_true rfl) (Nat.le_of_ble_eq_true rfl) (Nat.le_of_ble_eq_true rfl) dX12_wordAt_16 ?_
    refine r_if_eq (tgt := 26) dX12_wordAt_19 (by decide) (fun c19 => ?_) (fun c19 => ?_)
    · refine r_aload_n (j := 0) rfl rfl dX12_wordAt_26 ?_
      refine r_ldcS oR_3 dX12_wordAt_27 ?_
      refine w_cV1p (k_X12_is (j := 3) (by decide) hT) (Nat.le_of_ble_eq_true rfl) lX12_73 vmX12_is rfl (Nat.le_of_ble_eq_true rfl) (Nat.le_of_ble_eq_true rfl) (Nat.le_of_ble_eq_true rfl) dX12_wordAt_29 ?_
      refine r_if_eq (tgt := 39) dX12_wordAt_32 (by decide) (fun c32 => ?_) (fun c32 => ?_)
      · refine r_aload_n (j := 0) rfl rfl dX12_wordAt_39 ?_
        refine r_ldcS oR_4 dX12_wordAt_40 ?_
        refine w_cV1p (k_X12_is (j := 4) (by decide) hT) (Nat.le_of_ble_eq_true rfl) lX12_73 vmX12_is rfl (Nat.le_of_ble_eq_true rfl) (Nat.le_of_ble_eq_true rfl) (Nat.le_of_ble_eq_true rfl) dX12_wordAt_42 ?_
        refine r_if_eq (tgt := 52) dX12_wordAt_45 (by decide) (fun c45 => ?_) (fun c45 => ?_)
        · refine r_aload_n (j := 0) rfl rfl dX12_wordAt_52 ?_
          refine r_ldcS oR_5 dX12_wordAt_53 ?_
          refine w_cV1p (k_X12_is (j := 5) (by decide) hT) (Nat.le_of_ble_eq_true rfl) lX12_73 vmX12_is rfl (Nat.le_of_ble_eq_true rfl) (Nat.le_of_ble_eq_true rfl) (Nat.le_of_ble_eq_true rfl) dX12_wordAt_55 ?_
          refine r_if_eq (tgt := 65) dX12_wordAt_58 (by decide) (fun c58 => ?_) (fun c58 => ?_)
          · refine r_aload_n (j := 0) rfl rfl dX12_wordAt_65 ?_
            refine r_ldcS oR_6 dX12_wordAt_66 ?_
            refine w_cV1p (k_X12_is (j := 6) (by decide) hT) (Nat.le_of_ble_eq_true rfl) lX12_73 vmX12_is rfl (Nat.le_of_ble_eq_true rfl) (Nat.le_of_ble_eq_true rfl) (Nat.le_of_ble_eq_true rfl) dX12_wordAt_68 ?_
            refine r_if_eq (tgt := 78) dX12_wordAt_71 (by decide) (fun c71 => ?_) (fun c71 => ?_)
            · refine r_aload_n (j := 0) rfl rfl dX12_wordAt_78 ?_
              refine r_ldcS oR_7 dX12_wordAt_79 ?_
              refine w_cV1p (k_X12_is (j := 7) (by decide) hT) (Nat.le_of_ble_eq_true rfl) lX12_73 vmX12_is rfl (Nat.le_of_ble_eq_true rfl) (Nat.le_of_ble_eq_true rfl) (Nat.le_of_ble_eq_true rfl) dX12_wordAt_81 ?_
              refine r_if_eq (tgt := 92) dX12_wordAt_84 (by decide) (fun c84 => ?_) (fun c84 => ?_)
              · refine r_aload_n (j := 0) rfl rfl dX12_wordAt_92 ?_
                refine r_ldcS oR_8 dX12_wordAt_93 ?_
                refine w_cV1p (k_X12_is (j := 8) (by decide) hT) (Nat.le_of_ble_eq_true rfl) lX12_73 vmX12_is rfl (Nat.le_of_ble_eq_true rfl) (Nat.le_of_ble_eq_true rfl) (Nat.le_of_ble_eq_true rfl) dX12_wordAt_95 ?_
                refine r_if_eq (tgt := 106) dX12_wordAt_98 (by decide) (fun c98 => ?_) (fun c98 => ?_)
                · refine r_aload_n (j := 0) rfl rfl dX12_wordAt_106 ?_
                  refine r_ldcS oR_9 dX12_wordAt_107 ?_
                  refine w_cV1p (k_X12_is (j := 9) (by decide) hT) (Nat.le_of_ble_eq_true rfl) lX12_73 vmX12_is rfl (Nat.le_of_ble_eq_true rfl) (Nat.le_of_ble_eq_true rfl) (Nat.le_of_ble_eq_true rfl) dX12_wordAt_109 ?_
                  refine r_if_eq (tgt := 120) dX12_wordAt_112 (by decide) (fun c112 => ?_) (fun c112 => ?_)
                  · refine r_aload_n (j := 0) rfl rfl dX12_wordAt_120 ?_
                    refine r_ldcS oR_10 dX12_wordAt_121 ?_
                    refine w_cV1p (k_X12_is (j := 10) (by decide) hT) (Nat.le_of_ble_eq_true rfl) lX12_73 vmX12_is rfl (Nat.le_of_ble_eq_true rfl) (Nat.le_of_ble_eq_true rfl) (Nat.le_of_ble_eq_true rfl) dX12_wordAt_123 ?_
                    refine r_if_eq (tgt := 134) dX12_wordAt_126 (by decide) (fun c126 => ?_) (fun c126 => ?_)
                    · refine r_iconst (v := (-1)) rfl dX12_wordAt_134 ?_
                      refine w_iret rfl (rfl) (Nat.le_of_ble_eq_true rfl) (Nat.le_of_ble_eq_true rfl) dX12_wordAt_135 ?_
                      exact ⟨by unfold waV; rw [if_neg (bI_0.mp c6), if_neg (bI_0.mp c19), if_neg (bI_0.mp c32), if_neg (bI_0.mp c45), if_neg (bI_0.mp c58), if_neg (bI_0.mp c71), if_neg (bI_0.mp c84), if_neg (bI_0.mp c98), if_neg (bI_0.mp c112), if_neg (bI_0.mp c126)], rfl, rfl, rfl⟩
                    · refine r_bipush (v := 9) rfl dX12_wordAt_129 ?_
                      refine r_goto (tgt := 135) dX12_wordAt_131 (by decide) ?_
                      refine w_iret rfl (rfl) (Nat.le_of_ble_eq_true rfl) (Nat.le_of_ble_eq_true rfl) dX12_wordAt_135 ?_
                      exact ⟨by unfold waV; rw [if_neg (bI_0.mp c6), if_neg (bI_0.mp c19), if_neg (bI_0.mp c32), if_neg (bI_0.mp c45), if_neg (bI_0.mp c58), if_neg (bI_0.mp c71), if_neg (bI_0.mp c84), if_neg (bI_0.mp c98), if_neg (bI_0.mp c112), if_pos (bI_1.mp c126)], rfl, rfl, rfl⟩
                  · refine r_bipush (v := 8) rfl dX12_wordAt_115 ?_
                    refine r_goto (tgt := 135) dX12_wordAt_117 (by decide) ?_
                    refine w_iret rfl (rfl) (Nat.le_of_ble_eq_true rfl) (Nat.le_of_ble_eq_true rfl) dX12_wordAt_135 ?_
                    exact ⟨by unfold waV; rw [if_neg (bI_0.mp c6), if_neg (bI_0.mp c19), if_neg (bI_0.mp c32), if_neg (bI_0.mp c45), if_neg (bI_0.mp c58), if_neg (bI_0.mp c71), if_neg (bI_0.mp c84), if_neg (bI_0.mp c98), if_pos (bI_1.mp c112)], rfl, rfl, rfl⟩
                · refine r_bipush (v := 7) rfl dX12_wordAt_101 ?_
                  refine r_goto (tgt := 135) dX12_wordAt_103 (by decide) ?_
                  refine w_iret rfl (rfl) (Nat.le_of_ble_eq_true rfl) (Nat.le_of_ble_eq_true rfl) dX12_wordAt_135 ?_
                  exact ⟨by unfold waV; rw [if_neg (bI_0.mp c6), if_neg (bI_0.mp c19), if_neg (bI_0.mp c32), if_neg (bI_0.mp c45), if_neg (bI_0.mp c58), if_neg (bI_0.mp c71), if_neg (bI_0.mp c84), if_pos (bI_1.mp c98)], rfl, rfl, rfl⟩
              · refine r_bipush (v := 6) rfl dX12_wordAt_87 ?_
                refine r_goto (tgt := 135) dX12_wordAt_89 (by decide) ?_
                refine w_iret rfl (rfl) (Nat.le_of_ble_eq_true rfl) (Nat.le_of_ble_eq_true rfl) dX12_wordAt_135 ?_
                exact ⟨by unfold waV; rw [if_neg (bI_0.mp c6), if_neg (bI_0.mp c19), if_neg (bI_0.mp c32), if_neg (bI_0.mp c45), if_neg (bI_0.mp c58), if_neg (bI_0.mp c71), if_pos (bI_1.mp c84)], rfl, rfl, rfl⟩
            · refine r_iconst (v := 5) rfl dX12_wordAt_74 ?_
              refine r_goto (tgt := 135) dX12_wordAt_75 (by decide) ?_
              refine w_iret rfl (rfl) (Nat.le_of_ble_eq_true rfl) (Nat.le_of_ble_eq_true rfl) dX12_wordAt_135 ?_
              exact ⟨by unfold waV; rw [if_neg (bI_0.mp c6), if_neg (bI_0.mp c19), if_neg (bI_0.mp c32), if_neg (bI_0.mp c45), if_neg (bI_0.mp c58), if_pos (bI_1.mp c71)], rfl, rfl, rfl⟩
          · refine r_iconst (v := 4) rfl dX12_wordAt_61 ?_
            refine r_goto (tgt := 135) dX12_wordAt_62 (by decide) ?_
            refine w_iret rfl (rfl) (Nat.le_of_ble_eq_true rfl) (Nat.le_of_ble_eq_true rfl) dX12_wordAt_135 ?_
            exact ⟨by unfold waV; rw [if_neg (bI_0.mp c6), if_neg (bI_0.mp c19), if_neg (bI_0.mp c32), if_neg (bI_0.mp c45), if_pos (bI_1.mp c58)], rfl, rfl, rfl⟩
        · refine r_iconst (v := 3) rfl dX12_wordAt_48 ?_
          refine r_goto (tgt := 135) dX12_wordAt_49 (by decide) ?_
          refine w_iret rfl (rfl) (Nat.le_of_ble_eq_true rfl) (Nat.le_of_ble_eq_true rfl) dX12_wordAt_135 ?_
          exact ⟨by unfold waV; rw [if_neg (bI_0.mp c6), if_neg (bI_0.mp c19), if_neg (bI_0.mp c32), if_pos (bI_1.mp c45)], rfl, rfl, rfl⟩
      · refine r_iconst (v := 2) rfl dX12_wordAt_35 ?_
        refine r_goto (tgt := 135) dX12_wordAt_36 (by decide) ?_
        refine w_iret rfl (rfl) (Nat.le_of_ble_eq_true rfl) (Nat.le_of_ble_eq_true rfl) dX12_wordAt_135 ?_
        exact ⟨by unfold waV; rw [if_neg (bI_0.mp c6), if_neg (bI_0.mp c19), if_pos (bI_1.mp c32)], rfl, rfl, rfl⟩
    · refine r_iconst (v := 1) rfl dX12_wordAt_22 ?_
      refine r_goto (tgt := 135) dX12_wordAt_23 (by decide) ?_
      refine w_iret rfl (rfl) (Nat.le_of_ble_eq_true rfl) (Nat.le_of_ble_eq_true rfl) dX12_wordAt_135 ?_
      exact ⟨by unfold waV; rw [if_neg (bI_0.mp c6), if_pos (bI_1.mp c19)], rfl, rfl, rfl⟩
  · refine r_iconst (v := 0) rfl dX12_wordAt_9 ?_
    refine r_goto (tgt := 135) dX12_wordAt_10 (by decide) ?_
    refine w_iret rfl (rfl) (Nat.le_of_ble_eq_true rfl) (Nat.le_of_ble_eq_true rfl) dX12_wordAt_135 ?_
    exact ⟨by unfold waV; rw [if_pos (bI_1.mp c6)], rfl, rfl, rfl⟩
/-- the text of a keyword, its letters -/
def txN (k : Nat) : Nat := if k < 5 then k + 11 else if k = 5 then 10 else k - 5
def chN (j i : Nat) : Nat := (chL j i).toInt.toNat - 96
theorem ch_r : ∀ j, j < 16 → j ≠ 0 → oL.getD j 0 ≤ 8 ∧ ∀ i, i < oL.getD j 0 → 97 ≤ (chL j i).toInt ∧ (chL j i).toInt ≤ 122 := by decide +kernel
def kwC (k : Nat) : Nat := cd (chN (txN k)) (oL.getD (txN k) 0)
theorem isW_cd {N q e j : Nat} (hj : j < 16) (hj0 : j ≠ 0) (heN : e ≤ N) (hb : ∀ j, j < N → -128 ≤ (I 96 j).toInt ∧ (I 96 j).toInt ≤ 127) (hqe : q ≤ e) (hl : ∀ i, i < e - q → isL (mtp I (q + i))) (h5 : I 95 5 = 1) : isW I q e j ↔ cd (lrN (mtp I) q) (e - q) = cd (chN j) (oL.getD j 0) := by
  obtain ⟨h8, hc⟩ := ch_r j hj hj0
  have same : ∀ i, i < e - q → i < oL.getD j 0 → (I 96 (q + i) = chL j i ↔ lrN (mtp I) q i = chN j i) := by
    intro i h1 h2
    have hci := hc i h2
    have e1 : I 96 (q + i) = chL j i ↔ mtp I (q + i) = chL j i := bt_c (hb _ (by omega)) (by omega)
    obtain ⟨r1, r2, r3⟩ := lrN_r (hl i h1)
    rw [e1]
    constructor
    · intro z; unfold lrN chN; rw [z]
    · intro z
      rw [r3, z, ← Int32.toInt_inj]
      unfold chN
      rw [nI_toInt (by omega)]
      omega
  constructor
  · rintro ⟨⟨_, h1⟩, h2⟩
    rw [h1]
    exact cd_cg _ (fun i hi => (same i (by omega) hi).mp (h2 i hi))
  · intro h
    obtain ⟨h1, h2⟩ := cd_inj _ _ (fun i hi => by have := lrN_r (hl i hi); omega) (fun i hi => by have := hc i hi; unfold chN; omega) h
    exact ⟨⟨h5, h1⟩, fun i hi => (same i (by omega) hi).mpr (h2 i (by omega))⟩
theorem kw_inj : ∀ k, k < 15 → ∀ l, l < 15 → kwC k = kwC l → k = l := by decide +kernel
theorem kw_lt : ∀ k, k < 15 → kwC k < 1099511627776 := by decide +kernel
end
