/-! Integer, String: their contracts -/
theorem k_J0_isLatin1_aae02 {sc : Sc} {I : Is} {L : Ls} {tg j : Nat} (hj : j < 16) : Con sc mJ0_isLatin1_aae02 0 0 0 [.ref (1100 + j)] (XW I L tg) (rI 1 (XW I L tg)) := by
  refine Con_of (by decide) (Nat.le_of_ble_eq_true rfl) ?_
  refine r_gets (v := .int 1) (by decide +kernel) fsJ0_38 dJ0_isLatin1_aae02_0 ?_
  refine r_if_eq (tgt := 17) dJ0_isLatin1_aae02_3 (by decide) (fun c3 => ?_) (fun c3 => ?_)
  · exact absurd c3 (by decide)
  · refine r_aload_n (j := 0) rfl rfl dJ0_isLatin1_aae02_6 ?_
    refine r_scod hj fsJ0_15 dJ0_isLatin1_aae02_7 ?_
    refine r_if_ne (tgt := 17) dJ0_isLatin1_aae02_10 (by decide) (fun c10 => ?_) (fun c10 => ?_)
    · exact absurd rfl c10
    · refine r_iconst (v := 1) rfl dJ0_isLatin1_aae02_13 ?_
      refine r_goto (tgt := 18) dJ0_isLatin1_aae02_14 (by decide) ?_
      refine w_iret rfl (rfl) (Nat.le_of_ble_eq_true rfl) (Nat.le_of_ble_eq_true rfl) dJ0_isLatin1_aae02_18 ?_
      exact ⟨rfl, rfl, rfl, rfl⟩
theorem k_J0_coder_7d493 {sc : Sc} {I : Is} {L : Ls} {tg j : Nat} (hj : j < 16) : Con sc mJ0_coder_7d493 0 0 0 [.ref (1100 + j)] (XW I L tg) (rI 0 (XW I L tg)) := by
  refine Con_of (by decide) (Nat.le_of_ble_eq_true rfl) ?_
  refine r_gets (v := .int 1) (by decide +kernel) fsJ0_38 dJ0_coder_7d493_0 ?_
  refine r_if_eq (tgt := 13) dJ0_coder_7d493_3 (by decide) (fun c3 => ?_) (fun c3 => ?_)
  · exact absurd c3 (by decide)
  · refine r_aload_n (j := 0) rfl rfl dJ0_coder_7d493_6 ?_
    refine r_scod hj fsJ0_15 dJ0_coder_7d493_7 ?_
    refine r_goto (tgt := 14) dJ0_coder_7d493_10 (by decide) ?_
    refine w_iret rfl (rfl) (Nat.le_of_ble_eq_true rfl) (Nat.le_of_ble_eq_true rfl) dJ0_coder_7d493_14 ?_
    exact ⟨rfl, rfl, rfl, rfl⟩
theorem k_J0_length_8abf5 {sc : Sc} {I : Is} {L : Ls} {tg j : Nat} (hj : j < 16) : Con sc mJ0_length_8abf5 1 0 0 [.ref (1100 + j)] (XW I L tg) (rI (nI (oL.getD j 0)) (XW I L tg)) := by
  refine Con_of (by decide) (Nat.le_of_ble_eq_true rfl) ?_
  refine r_aload_n (j := 0) rfl rfl dJ0_length_8abf5_0 ?_
  refine r_sval hj fsJ0_9 dJ0_length_8abf5_1 ?_
  refine r_sblen hj dJ0_length_8abf5_4 ?_
  refine r_aload_n (j := 0) rfl rfl dJ0_length_8abf5_5 ?_
  refine w_cT0p (k_J0_coder_7d493 hj) (Nat.le_of_ble_eq_true rfl) lJ0_335 miJ0_coder_7d493 msJ0_coder_7d493 hj rfl lmJ0_335 (Nat.le_of_ble_eq_true rfl) (Nat.le_of_ble_eq_true rfl) (Nat.le_of_ble_eq_true rfl) dJ0_length_8abf5_6 ?_
  refine r_ishr dJ0_length_8abf5_9 ?_
  refine w_iret rfl (rfl) (Nat.le_of_ble_eq_true rfl) (Nat.le_of_ble_eq_true rfl) dJ0_length_8abf5_10 ?_
  exact ⟨sb_shr0 _, rfl, rfl, rfl⟩
theorem k_J3_checkIndex_8e157 {sc : Sc} {I : Is} {L : Ls} {tg : Nat} {i n : Int32} {q : Value} (hq : q.category = 1) (h1 : 0 ≤ i) (h2 : i < n) : Con sc mJ3_checkIndex_8e157 0 0 0 [.int i, .int n, q] (XW I L tg) (rI i (XW I L tg)) := by
  refine Con_of (by decide) ?_ ?_
  · cases q <;> first | exact Nat.le_of_ble_eq_true rfl | exact absurd hq (by simp [Value.category])
  refine r_lvs [(0, .int i), (1, .int n)] [0, 1] rfl ?_
  refine r_iload_n (j := 0) rfl rfl dJ3_checkIndex_8e157_0 ?_
  refine r_if_lt (tgt := 9) dJ3_checkIndex_8e157_1 (by decide) (fun c1 => ?_) (fun c1 => ?_)
  · exact absurd c1 (Int32.not_lt.mpr h1)
  · refine r_iload_n (j := 0) rfl rfl dJ3_checkIndex_8e157_4 ?_
    refine r_iload_n (j := 1) rfl rfl dJ3_checkIndex_8e157_5 ?_
    refine r_icmp_lt (tgt := 16) dJ3_checkIndex_8e157_6 (by decide) (fun c6 => ?_) (fun c6 => ?_)
    · refine r_iload_n (j := 0) rfl rfl dJ3_checkIndex_8e157_16 ?_
      refine w_iret rfl (rfl) (Nat.le_of_ble_eq_true rfl) (Nat.le_of_ble_eq_true rfl) dJ3_checkIndex_8e157_17 ?_
      exact ⟨rfl, rfl, rfl, rfl⟩
    · exact absurd h2 c6
theorem k_J0_checkIndex_df160 {sc : Sc} {I : Is} {L : Ls} {tg : Nat} {i n : Int32} (h1 : 0 ≤ i) (h2 : i < n) : Con sc mJ0_checkIndex_df160 1 0 0 [.int i, .int n] (XW I L tg) (rV (XW I L tg)) := by
  refine Con_of (by decide) (Nat.le_of_ble_eq_true rfl) ?_
  refine r_iload_n (j := 0) rfl rfl dJ0_checkIndex_df160_0 ?_
  refine r_iload_n (j := 1) rfl rfl dJ0_checkIndex_df160_1 ?_
  refine r_getsQ (C2 := "") fsJ0_1053 dJ0_checkIndex_df160_2 ?_ ?_
  ·
    refine w_cS3p (k_J3_checkIndex_8e157 rfl h1 h2) (Nat.le_of_ble_eq_true rfl) lJ0_1059 mtJ3_checkIndex_8e157 (Nat.le_of_ble_eq_true rfl) (Nat.le_of_ble_eq_true rfl) (Nat.le_of_ble_eq_true rfl) dJ0_checkIndex_df160_5 ?_
    refine r_pop rfl dJ0_checkIndex_df160_8 ?_
    refine w_vret rfl (Nat.le_of_ble_eq_true rfl) (Nat.le_of_ble_eq_true rfl) dJ0_checkIndex_df160_9 ?_
    exact ⟨rfl, rfl, rfl⟩
  ·
    refine w_cS3p (k_J3_checkIndex_8e157 rfl h1 h2) (Nat.le_of_ble_eq_true rfl) lJ0_1059 mtJ3_checkIndex_8e157 (Nat.le_of_ble_eq_true rfl) (Nat.le_of_ble_eq_true rfl) (Nat.le_of_ble_eq_true rfl) dJ0_checkIndex_df160_5 ?_
    refine r_pop rfl dJ0_checkIndex_df160_8 ?_
    refine w_vret rfl (Nat.le_of_ble_eq_true rfl) (Nat.le_of_ble_eq_true rfl) dJ0_checkIndex_df160_9 ?_
    exact ⟨rfl, rfl, rfl⟩
theorem k_J1_charAt_3b067 {sc : Sc} {I : Is} {L : Ls} {tg j : Nat} {i : Int32} (hj : j < 16) (h1 : 0 ≤ i) (h2 : i.toInt < oL.getD j 0) : Con sc mJ1_charAt_3b067 2 0 0 [.ref (1200 + j), .int i] (XW I L tg) (rI ((((oB.getD j []).getD i.toNatClampNeg 0 &&& 255).toUInt32 % 65536).toInt32) (XW I L tg)) := by
  refine Con_of (by decide) (Nat.le_of_ble_eq_true rfl) ?_
  have hz : oL.getD j 0 < 2 ^ 31 := by
    have : ∀ j, j < 16 → oL.getD j 0 < 2 ^ 31 := by decide +kernel
    exact this j hj
  have h0 : 0 ≤ i.toInt := by simpa using i_le.mp h1
  refine r_iload_n (j := 1) rfl rfl dJ1_charAt_3b067_0 ?_
  refine r_aload_n (j := 0) rfl rfl dJ1_charAt_3b067_1 ?_
  refine r_sblen hj dJ1_charAt_3b067_2 ?_
  refine w_cS2v (k_J0_checkIndex_df160 h1 (by rw [i_lt]; show i.toInt < (nI (oL.getD j 0)).toInt; rw [nI_toInt hz]; exact h2)) (Nat.le_of_ble_eq_true rfl) lJ1_9 mtJ0_checkIndex_df160 (Nat.le_of_ble_eq_true rfl) (Nat.le_of_ble_eq_true rfl) (Nat.le_of_ble_eq_true rfl) dJ1_charAt_3b067_3 (fun J3 K3 hJ3 hK3 => ?_)
  subst hK3
  refine r_aload_n (j := 0) rfl rfl dJ1_charAt_3b067_6 ?_
  refine r_iload_n (j := 1) rfl rfl dJ1_charAt_3b067_7 ?_
  refine r_sbld hj (by rw [vp_in_iff]; exact ⟨h0, h2⟩) dJ1_charAt_3b067_8 ?_
  refine r_sipush (v := 255) rfl dJ1_charAt_3b067_9 ?_
  refine r_iand dJ1_charAt_3b067_12 ?_
  refine r_i2c dJ1_charAt_3b067_13 ?_
  refine w_iret rfl (pk_nc _) (Nat.le_of_ble_eq_true rfl) (Nat.le_of_ble_eq_true rfl) dJ1_charAt_3b067_14 ?_
  exact ⟨rfl, hJ3, rfl, rfl⟩
theorem k_J0_charAt_5068e {sc : Sc} {I : Is} {L : Ls} {tg j : Nat} {i : Int32} (hj : j < 16) (h1 : 0 ≤ i) (h2 : i.toInt < oL.getD j 0) : Con sc mJ0_charAt_5068e 3 0 0 [.ref (1100 + j), .int i] (XW I L tg) (rI ((((oB.getD j []).getD i.toNatClampNeg 0 &&& 255).toUInt32 % 65536).toInt32) (XW I L tg)) := by
  refine Con_of (by decide) (Nat.le_of_ble_eq_true rfl) ?_
  refine r_aload_n (j := 0) rfl rfl dJ0_charAt_5068e_0 ?_
  refine w_cT0p (k_J0_isLatin1_aae02 hj) (Nat.le_of_ble_eq_true rfl) lJ0_492 miJ0_isLatin1_aae02 msJ0_isLatin1_aae02 hj rfl lmJ0_492 (Nat.le_of_ble_eq_true rfl) (Nat.le_of_ble_eq_true rfl) (Nat.le_of_ble_eq_true rfl) dJ0_charAt_5068e_1 ?_
  refine r_if_eq (tgt := 16) dJ0_charAt_5068e_4 (by decide) (fun c4 => ?_) (fun c4 => ?_)
  · exact absurd c4 (by decide)
  · refine r_aload_n (j := 0) rfl rfl dJ0_charAt_5068e_7 ?_
    refine r_sval hj fsJ0_9 dJ0_charAt_5068e_8 ?_
    refine r_iload_n (j := 1) rfl rfl dJ0_charAt_5068e_11 ?_
    refine w_cS2p (k_J1_charAt_3b067 hj h1 h2) (Nat.le_of_ble_eq_true rfl) lJ0_495 mtJ1_charAt_3b067 (Nat.le_of_ble_eq_true rfl) (Nat.le_of_ble_eq_true rfl) (Nat.le_of_ble_eq_true rfl) dJ0_charAt_5068e_12 ?_
    refine w_iret rfl (pk_nc _) (Nat.le_of_ble_eq_true rfl) (Nat.le_of_ble_eq_true rfl) dJ0_charAt_5068e_15 ?_
    exact ⟨rfl, rfl, rfl, rfl⟩
