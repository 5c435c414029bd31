/-! methods that the constructors call, in a world that is not yet whole -/
/-! Integer, String: their contracts -/
theorem kv_J0_isLatin1_aae02 {sc : Sc} {I : Is} {L : Ls} {N j : Nat} {Pr : Nat → Nat → Option Nat} (hj : j < 16) : Con sc mJ0_isLatin1_aae02 0 0 0 [.ref (1100 + j)] (XV N I L Pr) (rI 1 (XV N I L Pr)) := by
  refine Con_of (by decide) (Nat.le_of_ble_eq_true rfl) ?_
  refine r_gets (v := .int 1) (by decide +kernel) fsJ0_38 dJ0_isLatin1_aae02_0 ?_
  refine r_if_eq (tgt := 17) dJ0_isLatin1_aae02_3 (by decide) (fun c3 => ?_) (fun c3 => ?_)
  · exact absurd c3 (by decide)
  · refine r_aload_n (j := 0) rfl rfl dJ0_isLatin1_aae02_6 ?_
    refine r_scod hj fsJ0_15 dJ0_isLatin1_aae02_7 ?_
    refine r_if_ne (tgt := 17) dJ0_isLatin1_aae02_10 (by decide) (fun c10 => ?_) (fun c10 => ?_)
    · exact absurd rfl c10
    · refine r_iconst (v := 1) rfl dJ0_isLatin1_aae02_13 ?_
      refine r_goto (tgt := 18) dJ0_isLatin1_aae02_14 (by decide) ?_
      refine v_iret rfl (rfl) (Nat.le_of_ble_eq_true rfl) (Nat.le_of_ble_eq_true rfl) dJ0_isLatin1_aae02_18 ?_
      exact ⟨rfl, rfl, rfl, rfl⟩
theorem kv_J0_coder_7d493 {sc : Sc} {I : Is} {L : Ls} {N j : Nat} {Pr : Nat → Nat → Option Nat} (hj : j < 16) : Con sc mJ0_coder_7d493 0 0 0 [.ref (1100 + j)] (XV N I L Pr) (rI 0 (XV N I L Pr)) := by
  refine Con_of (by decide) (Nat.le_of_ble_eq_true rfl) ?_
  refine r_gets (v := .int 1) (by decide +kernel) fsJ0_38 dJ0_coder_7d493_0 ?_
  refine r_if_eq (tgt := 13) dJ0_coder_7d493_3 (by decide) (fun c3 => ?_) (fun c3 => ?_)
  · exact absurd c3 (by decide)
  · refine r_aload_n (j := 0) rfl rfl dJ0_coder_7d493_6 ?_
    refine r_scod hj fsJ0_15 dJ0_coder_7d493_7 ?_
    refine r_goto (tgt := 14) dJ0_coder_7d493_10 (by decide) ?_
    refine v_iret rfl (rfl) (Nat.le_of_ble_eq_true rfl) (Nat.le_of_ble_eq_true rfl) dJ0_coder_7d493_14 ?_
    exact ⟨rfl, rfl, rfl, rfl⟩
theorem kv_J0_length_8abf5 {sc : Sc} {I : Is} {L : Ls} {N j : Nat} {Pr : Nat → Nat → Option Nat} (hj : j < 16) : Con sc mJ0_length_8abf5 1 0 0 [.ref (1100 + j)] (XV N I L Pr) (rI (nI (oL.getD j 0)) (XV N I L Pr)) := by
  refine Con_of (by decide) (Nat.le_of_ble_eq_true rfl) ?_
  refine r_aload_n (j := 0) rfl rfl dJ0_length_8abf5_0 ?_
  refine r_sval hj fsJ0_9 dJ0_length_8abf5_1 ?_
  refine r_sblen hj dJ0_length_8abf5_4 ?_
  refine r_aload_n (j := 0) rfl rfl dJ0_length_8abf5_5 ?_
  refine v_cT0p (kv_J0_coder_7d493 hj) (Nat.le_of_ble_eq_true rfl) lJ0_335 miJ0_coder_7d493 msJ0_coder_7d493 hj rfl lmJ0_335 (Nat.le_of_ble_eq_true rfl) (Nat.le_of_ble_eq_true rfl) (Nat.le_of_ble_eq_true rfl) dJ0_length_8abf5_6 ?_
  refine r_ishr dJ0_length_8abf5_9 ?_
  refine v_iret rfl (rfl) (Nat.le_of_ble_eq_true rfl) (Nat.le_of_ble_eq_true rfl) dJ0_length_8abf5_10 ?_
  exact ⟨sb_shr0 _, rfl, rfl, rfl⟩
theorem kv_J3_checkIndex_8e157 {sc : Sc} {I : Is} {L : Ls} {N : Nat} {Pr : Nat → Nat → Option Nat} {i n : Int32} {q : Value} (hq : q.category = 1) (h1 : 0 ≤ i) (h2 : i < n) : Con sc mJ3_checkIndex_8e157 0 0 0 [.int i, .int n, q] (XV N I L Pr) (rI i (XV N I L Pr)) := by
  refine Con_of (by decide) ?_ ?_
  · cases q <;> first | exact Nat.le_of_ble_eq_true rfl | exact absurd hq (by simp [Value.category])
  refine r_lvs [(0, .int i), (1, .int n)] [0, 1] rfl ?_
  refine r_iload_n (j := 0) rfl rfl dJ3_checkIndex_8e157_0 ?_
  refine r_if_lt (tgt := 9) dJ3_checkIndex_8e157_1 (by decide) (fun c1 => ?_) (fun c1 => ?_)
  · exact absurd c1 (Int32.not_lt.mpr h1)
  · refine r_iload_n (j := 0) rfl rfl dJ3_checkIndex_8e157_4 ?_
    refine r_iload_n (j := 1) rfl rfl dJ3_checkIndex_8e157_5 ?_
    refine r_icmp_lt (tgt := 16) dJ3_checkIndex_8e157_6 (by decide) (fun c6 => ?_) (fun c6 => ?_)
    · refine r_iload_n (j := 0) rfl rfl dJ3_checkIndex_8e157_16 ?_
      refine v_iret rfl (rfl) (Nat.le_of_ble_eq_true rfl) (Nat.le_of_ble_eq_true rfl) dJ3_checkIndex_8e157_17 ?_
      exact ⟨rfl, rfl, rfl, rfl⟩
    · exact absurd h2 c6
theorem kv_J0_checkIndex_df160 {sc : Sc} {I : Is} {L : Ls} {N : Nat} {Pr : Nat → Nat → Option Nat} {i n : Int32} (h1 : 0 ≤ i) (h2 : i < n) : Con sc mJ0_checkIndex_df160 1 0 0 [.int i, .int n] (XV N I L Pr) (rV (XV N I L Pr)) := by
  refine Con_of (by decide) (Nat.le_of_ble_eq_true rfl) ?_
  refine r_iload_n (j := 0) rfl rfl dJ0_checkIndex_df160_0 ?_
  refine r_iload_n (j := 1) rfl rfl dJ0_checkIndex_df160_1 ?_
  refine r_getsQ (C2 := "") fsJ0_1053 dJ0_checkIndex_df160_2 ?_ ?_
  ·
    refine v_cS3p (kv_J3_checkIndex_8e157 rfl h1 h2) (Nat.le_of_ble_eq_true rfl) lJ0_1059 mtJ3_checkIndex_8e157 (Nat.le_of_ble_eq_true rfl) (Nat.le_of_ble_eq_true rfl) (Nat.le_of_ble_eq_true rfl) dJ0_checkIndex_df160_5 ?_
    refine r_pop rfl dJ0_checkIndex_df160_8 ?_
    refine v_vret rfl (Nat.le_of_ble_eq_true rfl) (Nat.le_of_ble_eq_true rfl) dJ0_checkIndex_df160_9 ?_
    exact ⟨rfl, rfl, rfl⟩
  ·
    refine v_cS3p (kv_J3_checkIndex_8e157 rfl h1 h2) (Nat.le_of_ble_eq_true rfl) lJ0_1059 mtJ3_checkIndex_8e157 (Nat.le_of_ble_eq_true rfl) (Nat.le_of_ble_eq_true rfl) (Nat.le_of_ble_eq_true rfl) dJ0_checkIndex_df160_5 ?_
    refine r_pop rfl dJ0_checkIndex_df160_8 ?_
    refine v_vret rfl (Nat.le_of_ble_eq_true rfl) (Nat.le_of_ble_eq_true rfl) dJ0_checkIndex_df160_9 ?_
    exact ⟨rfl, rfl, rfl⟩
theorem kv_J1_charAt_3b067 {sc : Sc} {I : Is} {L : Ls} {N j : Nat} {Pr : Nat → Nat → Option Nat} {i : Int32} (hj : j < 16) (h1 : 0 ≤ i) (h2 : i.toInt < oL.getD j 0) : Con sc mJ1_charAt_3b067 2 0 0 [.ref (1200 + j), .int i] (XV N I L Pr) (rI ((((oB.getD j []).getD i.toNatClampNeg 0 &&& 255).toUInt32 % 65536).toInt32) (XV N I L Pr)) := by
  refine Con_of (by decide) (Nat.le_of_ble_eq_true rfl) ?_
  have hz : oL.getD j 0 < 2 ^ 31 := by
    have : ∀ j, j < 16 → oL.getD j 0 < 2 ^ 31 := by decide +kernel
    exact this j hj
  have h0 : 0 ≤ i.toInt := by simpa using i_le.mp h1
  refine r_iload_n (j := 1) rfl rfl dJ1_charAt_3b067_0 ?_
  refine r_aload_n (j := 0) rfl rfl dJ1_charAt_3b067_1 ?_
  refine r_sblen hj dJ1_charAt_3b067_2 ?_
  refine v_cS2v (kv_J0_checkIndex_df160 h1 (by rw [i_lt]; show i.toInt < (nI (oL.getD j 0)).toInt; rw [nI_toInt hz]; exact h2)) (Nat.le_of_ble_eq_true rfl) lJ1_9 mtJ0_checkIndex_df160 (Nat.le_of_ble_eq_true rfl) (Nat.le_of_ble_eq_true rfl) (Nat.le_of_ble_eq_true rfl) dJ1_charAt_3b067_3 (fun J3 K3 hJ3 hK3 => ?_)
  subst hK3
  refine r_aload_n (j := 0) rfl rfl dJ1_charAt_3b067_6 ?_
  refine r_iload_n (j := 1) rfl rfl dJ1_charAt_3b067_7 ?_
  refine r_sbld hj (by rw [vp_in_iff]; exact ⟨h0, h2⟩) dJ1_charAt_3b067_8 ?_
  refine r_sipush (v := 255) rfl dJ1_charAt_3b067_9 ?_
  refine r_iand dJ1_charAt_3b067_12 ?_
  refine r_i2c dJ1_charAt_3b067_13 ?_
  refine v_iret rfl (pk_nc _) (Nat.le_of_ble_eq_true rfl) (Nat.le_of_ble_eq_true rfl) dJ1_charAt_3b067_14 ?_
  exact ⟨rfl, hJ3, rfl, rfl⟩
theorem kv_J0_charAt_5068e {sc : Sc} {I : Is} {L : Ls} {N j : Nat} {Pr : Nat → Nat → Option Nat} {i : Int32} (hj : j < 16) (h1 : 0 ≤ i) (h2 : i.toInt < oL.getD j 0) : Con sc mJ0_charAt_5068e 3 0 0 [.ref (1100 + j), .int i] (XV N I L Pr) (rI ((((oB.getD j []).getD i.toNatClampNeg 0 &&& 255).toUInt32 % 65536).toInt32) (XV N I L Pr)) := by
  refine Con_of (by decide) (Nat.le_of_ble_eq_true rfl) ?_
  refine r_aload_n (j := 0) rfl rfl dJ0_charAt_5068e_0 ?_
  refine v_cT0p (kv_J0_isLatin1_aae02 hj) (Nat.le_of_ble_eq_true rfl) lJ0_492 miJ0_isLatin1_aae02 msJ0_isLatin1_aae02 hj rfl lmJ0_492 (Nat.le_of_ble_eq_true rfl) (Nat.le_of_ble_eq_true rfl) (Nat.le_of_ble_eq_true rfl) dJ0_charAt_5068e_1 ?_
  refine r_if_eq (tgt := 16) dJ0_charAt_5068e_4 (by decide) (fun c4 => ?_) (fun c4 => ?_)
  · exact absurd c4 (by decide)
  · refine r_aload_n (j := 0) rfl rfl dJ0_charAt_5068e_7 ?_
    refine r_sval hj fsJ0_9 dJ0_charAt_5068e_8 ?_
    refine r_iload_n (j := 1) rfl rfl dJ0_charAt_5068e_11 ?_
    refine v_cS2p (kv_J1_charAt_3b067 hj h1 h2) (Nat.le_of_ble_eq_true rfl) lJ0_495 mtJ1_charAt_3b067 (Nat.le_of_ble_eq_true rfl) (Nat.le_of_ble_eq_true rfl) (Nat.le_of_ble_eq_true rfl) dJ0_charAt_5068e_12 ?_
    refine v_iret rfl (pk_nc _) (Nat.le_of_ble_eq_true rfl) (Nat.le_of_ble_eq_true rfl) dJ0_charAt_5068e_15 ?_
    exact ⟨rfl, rfl, rfl, rfl⟩
section
variable {sc : Sc} {I : Is} {L : Ls} {N : Nat} {Pr : Nat → Nat → Option Nat}
theorem kv_X8_isLetter {c : Int32} : Con sc mX8_isLetter 0 0 0 [.int c] (XV N I L Pr) (rI (bI (97 ≤ c.toInt ∧ c.toInt ≤ 122)) (XV N I L Pr)) := by
  refine Con_of (by decide) (Nat.le_of_ble_eq_true rfl) ?_
  refine r_iload_n (j := 0) rfl rfl dX8_isLetter_0 ?_
  refine r_bipush (v := 97) rfl dX8_isLetter_1 ?_
  refine r_icmp_lt (tgt := 16) dX8_isLetter_3 (by decide) (fun c3 => ?_) (fun c3 => ?_)
  · refine r_iconst (v := 0) rfl dX8_isLetter_16 ?_
    refine v_iret rfl (rfl) (Nat.le_of_ble_eq_true rfl) (Nat.le_of_ble_eq_true rfl) dX8_isLetter_17 ?_
    exact ⟨by first | exact (bI_t (by ((try simp only [bI_0, bI_1, lc_lt, lc_gt, lc_le, lc_ge, Classical.not_not] at *); (try simp only [i_lt, i_le, i_eq, l_lt, l_le, l_eq, Int32.toInt_toInt64, Int32.reduceToInt, Int64.reduceToInt] at *); omega))).symm | exact (bI_f (by ((try simp only [bI_0, bI_1, lc_lt, lc_gt, lc_le, lc_ge, Classical.not_not] at *); (try simp only [i_lt, i_le, i_eq, l_lt, l_le, l_eq, Int32.toInt_toInt64, Int32.reduceToInt, Int64.reduceToInt] at *); omega))).symm, rfl, rfl, rfl⟩
  · refine r_iload_n (j := 0) rfl rfl dX8_isLetter_6 ?_
    refine r_bipush (v := 122) rfl dX8_isLetter_7 ?_
    refine r_icmp_gt (tgt := 16) dX8_isLetter_9 (by decide) (fun c9 => ?_) (fun c9 => ?_)
    · refine r_iconst (v := 0) rfl dX8_isLetter_16 ?_
      refine v_iret rfl (rfl) (Nat.le_of_ble_eq_true rfl) (Nat.le_of_ble_eq_true rfl) dX8_isLetter_17 ?_
      exact ⟨by first | exact (bI_t (by ((try simp only [bI_0, bI_1, lc_lt, lc_gt, lc_le, lc_ge, Classical.not_not] at *); (try simp only [i_lt, i_le, i_eq, l_lt, l_le, l_eq, Int32.toInt_toInt64, Int32.reduceToInt, Int64.reduceToInt] at *); omega))).symm | exact (bI_f (by ((try simp only [bI_0, bI_1, lc_lt, lc_gt, lc_le, lc_ge, Classical.not_not] at *); (try simp only [i_lt, i_le, i_eq, l_lt, l_le, l_eq, Int32.toInt_toInt64, Int32.reduceToInt, Int64.reduceToInt] at *); omega))).symm, rfl, rfl, rfl⟩
    · refine r_iconst (v := 1) rfl dX8_isLetter_12 ?_
      refine r_goto (tgt := 17) dX8_isLetter_13 (by decide) ?_
      refine v_iret rfl (rfl) (Nat.le_of_ble_eq_true rfl) (Nat.le_of_ble_eq_true rfl) dX8_isLetter_17 ?_
      exact ⟨by first | exact (bI_t (by ((try simp only [bI_0, bI_1, lc_lt, lc_gt, lc_le, lc_ge, Classical.not_not] at *); (try simp only [i_lt, i_le, i_eq, l_lt, l_le, l_eq, Int32.toInt_toInt64, Int32.reduceToInt, Int64.reduceToInt] at *); omega))).symm | exact (bI_f (by ((try simp only [bI_0, bI_1, lc_lt, lc_gt, lc_le, lc_ge, Classical.not_not] at *); (try simp only [i_lt, i_le, i_eq, l_lt, l_le, l_eq, Int32.toInt_toInt64, Int32.reduceToInt, Int64.reduceToInt] at *); omega))).symm, rfl, rfl, rfl⟩
theorem kv_X8_withLetter {w : Int64} {c : Int32} : Con sc mX8_withLetter 0 0 0 [.long w, .int c] (XV N I L Pr) (rL (wlS w c) (XV N I L Pr)) := by
  refine Con_of (by decide) (Nat.le_of_ble_eq_true rfl) ?_
  refine r_lload_n (j := 0) rfl rfl dX8_withLetter_0 ?_
  refine r_ldc2 kX8_58 dX8_withLetter_1 ?_
  refine r_lmul dX8_withLetter_4 ?_
  refine r_iload_n (j := 1) rfl rfl dX8_withLetter_5 ?_
  refine r_bipush (v := 97) rfl dX8_withLetter_6 ?_
  refine r_isub dX8_withLetter_8 ?_
  refine r_iconst (v := 1) rfl dX8_withLetter_9 ?_
  refine r_iadd dX8_withLetter_10 ?_
  refine r_i2l dX8_withLetter_11 ?_
  refine r_ladd dX8_withLetter_12 ?_
  refine v_lret rfl (Nat.le_of_ble_eq_true rfl) (Nat.le_of_ble_eq_true rfl) dX8_withLetter_13 ?_
  exact ⟨rfl, rfl, rfl, rfl⟩
end
theorem lv_J7_fill {sc : Sc} {I0 : Is} {L : Ls} {Nw a N : Nat} {Pr : Nat → Nat → Option Nat} {v : Int32} (ha : SHW a = (50, N)) (hw : a < Nw) (hN : N ≤ 1000) : ∀ n i : Nat, i + n = N → ∀ (I : Is) (x : Int32), I = upr I0 a (fillr (I0 a) i v) → x.toInt = i → RR sc mJ7_fill_53178 0 0 0 (rV (XV Nw (upr I0 a (fillr (I0 a) N v)) L Pr)) 0 0 5 [(3, .int (Int32.ofNat N)), (2, .int x), (0, .ref a), (1, .int v)] [] (XV Nw I L Pr) := by
  have hz : (Int32.ofNat N).toInt = (N : Int) := nI_toInt (n := N) (by omega)
  intro n
  induction n with
  | zero =>
    intro i hi I x eI hx
    refine r_iload_n (j := 1) rfl rfl dJ7_fill_53178_5 ?_
    refine r_iload_n (j := 0) rfl rfl dJ7_fill_53178_6 ?_
    refine r_icmp_ge (tgt := 20) dJ7_fill_53178_7 (by decide) (fun c7 => ?_) (fun c7 => ?_)
    · refine v_vret rfl (Nat.le_of_ble_eq_true rfl) (Nat.le_of_ble_eq_true rfl) dJ7_fill_53178_20 ?_
      exact ⟨by rw [eI, show i = N by omega], rfl, rfl⟩
    · exfalso; ((try simp only [bI_0, bI_1, lc_lt, lc_gt, lc_le, lc_ge, Classical.not_not] at *); (try simp only [i_lt, i_le, i_eq, l_lt, l_le, l_eq, Int32.toInt_toInt64, Int32.reduceToInt, Int64.reduceToInt] at *); omega)
  | succ n ih =>
    intro i hi I x eI hx
    refine r_iload_n (j := 1) rfl rfl dJ7_fill_53178_5 ?_
    refine r_iload_n (j := 0) rfl rfl dJ7_fill_53178_6 ?_
    refine r_icmp_ge (tgt := 20) dJ7_fill_53178_7 (by decide) (fun c7 => ?_) (fun c7 => ?_)
    · exfalso; ((try simp only [bI_0, bI_1, lc_lt, lc_gt, lc_le, lc_ge, Classical.not_not] at *); (try simp only [i_lt, i_le, i_eq, l_lt, l_le, l_eq, Int32.toInt_toInt64, Int32.reduceToInt, Int64.reduceToInt] at *); omega)
    · refine r_aload_n (j := 2) rfl rfl dJ7_fill_53178_10 ?_
      refine r_iload_n (j := 1) rfl rfl dJ7_fill_53178_11 ?_
      refine r_iload_n (j := 3) rfl rfl dJ7_fill_53178_12 ?_
      refine v_iast ha (up_in hx (by omega)) dJ7_fill_53178_13 (fun J13 hJ13 => ?_)
      refine r_iinc (j := 1) (lv' := fun z => [(2, .int z), (3, .int (Int32.ofNat N)), (0, .ref a), (1, .int v)]) dJ7_fill_53178_14 rfl (Nat.le_of_ble_eq_true rfl) (fun _ => rfl) (fun x2_14 ex2_14 => ?_)
      refine r_goto (tgt := 5) dJ7_fill_53178_17 (by decide) ?_
      refine r_lvs [(3, .int (Int32.ofNat N)), (2, .int x2_14), (0, .ref a), (1, .int v)] [1, 0, 2, 3] rfl ?_
      refine ih (i + 1) (by omega) _ _ ?_ (by rw [ex2_14]; exact i_inc hx (by omega))
      rw [hJ13, eI, cl_of hx]
      funext b j
      by_cases hb : b = a
      · subst hb
        simp only [up_eq, upr_eq, if_true, vu_eq, fillr]
        by_cases hj : j = i
        · subst hj; simp
        · rw [if_neg hj]
          by_cases h2 : j < i
          · rw [if_pos h2, if_pos (by omega)]
          · rw [if_neg h2, if_neg (by omega)]
      · rw [up_n _ _ _ hb, upr_n _ _ hb, upr_n _ _ hb]
theorem kv_J7_fill_53178 {sc : Sc} {I : Is} {L : Ls} {Nw a N : Nat} {Pr : Nat → Nat → Option Nat} {v : Int32} (ha : SHW a = (50, N)) (hw : a < Nw) (hN : N ≤ 1000) : Con sc mJ7_fill_53178 0 0 0 [.ref a, .int v] (XV Nw I L Pr) (rV (XV Nw (upr I a (fillr (I a) N v)) L Pr)) := by
  refine Con_of (by decide) (Nat.le_of_ble_eq_true rfl) ?_
  refine r_iconst (v := 0) rfl dJ7_fill_53178_0 ?_
  refine r_istore_n (lv' := fun z => [(2, .int z), (0, .ref a), (1, .int v)]) dJ7_fill_53178_1 rfl (Nat.le_of_ble_eq_true rfl) (fun _ => rfl) (fun x2_1 ex2_1 => ?_)
  refine r_aload_n (j := 1) rfl rfl dJ7_fill_53178_2 ?_
  refine v_alen50 ha dJ7_fill_53178_3 ?_
  refine r_istore_n (lv' := fun z => [(3, .int z), (2, .int x2_1), (0, .ref a), (1, .int v)]) dJ7_fill_53178_4 rfl (Nat.le_of_ble_eq_true rfl) (fun _ => rfl) (fun x3_4 ex3_4 => ?_)
  subst ex3_4
  refine lv_J7_fill ha hw hN N 0 (Nat.zero_add _) _ _ ?_ (by rw [ex2_1]; rfl)
  funext b j
  by_cases hb : b = a
  · subst hb; simp [upr_eq, fillr]
  · rw [upr_n _ _ hb]

/-- a keyword's code, letter by letter -/
def kch (i : Nat) : Int32 := (((oB.getD 0 []).getD i 0 &&& 255).toUInt32 % 65536).toInt32
def kcS (k : Nat) : Nat → Int64
  | 0 => 0
  | j + 1 => if 97 ≤ (kch (8 * k + j)).toInt ∧ (kch (8 * k + j)).toInt ≤ 122 then wlS (kcS k j) (kch (8 * k + j)) else kcS k j
theorem kcS_ok : ∀ k, k < 15 → kcS k 8 = lN (kwC k) := by decide +kernel
section
variable {sc : Sc} {I : Is} {L : Ls} {N : Nat} {Pr : Nat → Nat → Option Nat}
theorem lv_X8_keywordCode {k : Nat} (hk : k < 15) : ∀ n j : Nat, j + n = 8 → ∀ (w : Int64) (y : Int32), w = kcS k j → y.toInt = ((8 * k + j : Nat) : Int) → RR sc mX8_keywordCode 4 0 0 (rL (lN (kwC k)) (XV N I L Pr)) 0 0 4 [(3, .int y), (1, .long w), (0, .int (nI (8 * k)))] [] (XV N I L Pr) := by
  have h8 : (nI (8 * k) + 8).toInt = ((8 * k + 8 : Nat) : Int) := by
    rw [i_add (by rw [nI_toInt (by omega)]; simp only [Int32.reduceToInt]; omega) (by rw [nI_toInt (by omega)]; simp only [Int32.reduceToInt]; omega), nI_toInt (by omega)]
    simp only [Int32.reduceToInt]
    omega
  have h120 : (nI (oL.getD 0 0)).toInt = 120 := by decide
  intro n
  induction n with
  | zero =>
    intro j hj w y ew hy
    have ej : j = 8 := by omega
    subst ej
    refine r_iload_n (j := 0) rfl rfl dX8_keywordCode_4 ?_
    refine r_iload_n (j := 2) rfl rfl dX8_keywordCode_5 ?_
    refine r_bipush (v := 8) rfl dX8_keywordCode_6 ?_
    refine r_iadd dX8_keywordCode_8 ?_
    refine r_icmp_ge (tgt := 50) dX8_keywordCode_9 (by decide) (fun c9 => ?_) (fun c9 => ?_)
    · refine r_lload_n (j := 1) rfl rfl dX8_keywordCode_50 ?_
      refine v_lret rfl (Nat.le_of_ble_eq_true rfl) (Nat.le_of_ble_eq_true rfl) dX8_keywordCode_51 ?_
      exact ⟨by rw [ew]; exact kcS_ok k hk, rfl, rfl, rfl⟩
    · exfalso; rw [i_le] at c9; exact c9 (by show (nI (8 * k) + 8).toInt ≤ y.toInt; omega)
  | succ n ih =>
    intro j hj w y ew hy
    have hy0 : 0 ≤ y := by rw [i_le, hy]; simp only [Int32.reduceToInt]; omega
    have hyl : y.toInt < oL.getD 0 0 := by show y.toInt < ((120 : Nat) : Int); omega
    have cy : y.toNatClampNeg = 8 * k + j := by have := i_cl (a := y) (by omega); omega
    refine r_iload_n (j := 0) rfl rfl dX8_keywordCode_4 ?_
    refine r_iload_n (j := 2) rfl rfl dX8_keywordCode_5 ?_
    refine r_bipush (v := 8) rfl dX8_keywordCode_6 ?_
    refine r_iadd dX8_keywordCode_8 ?_
    refine r_icmp_ge (tgt := 50) dX8_keywordCode_9 (by decide) (fun c9 => ?_) (fun c9 => ?_)
    · exfalso; rw [i_le] at c9; have c9 : (nI (8 * k) + 8).toInt ≤ y.toInt := c9; omega
    · refine r_iload_n (j := 0) rfl rfl dX8_keywordCode_12 ?_
      refine r_ldcS oR_0 dX8_keywordCode_13 ?_
      refine v_cT0p (kv_J0_length_8abf5 (j := 0) (by decide)) (Nat.le_of_ble_eq_true rfl) lX8_40 miJ0_length_8abf5 msJ0_length_8abf5 (by decide) rfl lmX8_40 (Nat.le_of_ble_eq_true rfl) (Nat.le_of_ble_eq_true rfl) (Nat.le_of_ble_eq_true rfl) dX8_keywordCode_15 ?_
      refine r_icmp_ge (tgt := 50) dX8_keywordCode_18 (by decide) (fun c18 => ?_) (fun c18 => ?_)
      · exfalso; rw [i_le] at c18; omega
      · refine r_ldcS oR_0 dX8_keywordCode_21 ?_
        refine r_iload_n (j := 0) rfl rfl dX8_keywordCode_23 ?_
        refine v_cT1p (kv_J0_charAt_5068e (j := 0) (by decide) hy0 hyl) (Nat.le_of_ble_eq_true rfl) lX8_46 miJ0_charAt_5068e msJ0_charAt_5068e (by decide) rfl lmX8_46 (Nat.le_of_ble_eq_true rfl) (Nat.le_of_ble_eq_true rfl) (Nat.le_of_ble_eq_true rfl) dX8_keywordCode_24 ?_
        refine v_cS1p (kv_X8_isLetter) (Nat.le_of_ble_eq_true rfl) lX8_50 mtX8_isLetter (Nat.le_of_ble_eq_true rfl) (Nat.le_of_ble_eq_true rfl) (Nat.le_of_ble_eq_true rfl) dX8_keywordCode_27 ?_
        refine r_if_eq (tgt := 44) dX8_keywordCode_30 (by decide) (fun c30 => ?_) (fun c30 => ?_)
        · refine r_iinc (j := 0) (lv' := fun z => [(3, .int z), (1, .long w), (0, .int (nI (8*k)))]) dX8_keywordCode_44 rfl (Nat.le_of_ble_eq_true rfl) (fun _ => rfl) (fun x3_44 ex3_44 => ?_)
          refine r_goto (tgt := 4) dX8_keywordCode_47 (by decide) ?_
          rw [cy] at c30
          have c30 : bI (97 ≤ (kch (8 * k + j)).toInt ∧ (kch (8 * k + j)).toInt ≤ 122) = 0 := c30
          refine ih (j + 1) (by omega) _ _ ?_ (by rw [ex3_44]; exact i_inc (i := 8 * k + j) hy (by omega))
          rw [kcS, if_neg (bI_0.mp c30)]
          exact ew
        · refine r_lload_n (j := 1) rfl rfl dX8_keywordCode_33 ?_
          refine r_ldcS oR_0 dX8_keywordCode_34 ?_
          refine r_iload_n (j := 0) rfl rfl dX8_keywordCode_36 ?_
          refine v_cT1p (kv_J0_charAt_5068e (j := 0) (by decide) hy0 hyl) (Nat.le_of_ble_eq_true rfl) lX8_46 miJ0_charAt_5068e msJ0_charAt_5068e (by decide) rfl lmX8_46 (Nat.le_of_ble_eq_true rfl) (Nat.le_of_ble_eq_true rfl) (Nat.le_of_ble_eq_true rfl) dX8_keywordCode_37 ?_
          refine v_cS2l (kv_X8_withLetter) (Nat.le_of_ble_eq_true rfl) lX8_54 mtX8_withLetter (Nat.le_of_ble_eq_true rfl) (Nat.le_of_ble_eq_true rfl) (Nat.le_of_ble_eq_true rfl) dX8_keywordCode_40 ?_
          refine r_lstore_n (lv' := fun z => [(1, .long z), (3, .int y), (0, .int (nI (8*k)))]) dX8_keywordCode_43 rfl (Nat.le_of_ble_eq_true rfl) (fun _ => rfl) (fun x1_43 ex1_43 => ?_)
          refine r_iinc (j := 1) (lv' := fun z => [(3, .int z), (1, .long x1_43), (0, .int (nI (8*k)))]) dX8_keywordCode_44 rfl (Nat.le_of_ble_eq_true rfl) (fun _ => rfl) (fun x3_44 ex3_44 => ?_)
          refine r_goto (tgt := 4) dX8_keywordCode_47 (by decide) ?_
          rw [cy] at c30 ex1_43
          have c30 : ¬ bI (97 ≤ (kch (8 * k + j)).toInt ∧ (kch (8 * k + j)).toInt ≤ 122) = 0 := c30
          refine ih (j + 1) (by omega) _ _ ?_ (by rw [ex3_44]; exact i_inc (i := 8 * k + j) hy (by omega))
          rw [kcS, if_pos (Classical.not_not.mp (fun z => c30 (bI_f z))), ex1_43, ew]
          rfl
theorem kv_X8_keywordCode {k : Nat} {x : Int32} (hk : k < 15) (hx : x = nI (8 * k)) : Con sc mX8_keywordCode 4 0 0 [.int x] (XV N I L Pr) (rL (lN (kwC k)) (XV N I L Pr)) := by
  subst hx
  refine Con_of (by decide) (Nat.le_of_ble_eq_true rfl) ?_
  refine r_lconst (v := 0) rfl dX8_keywordCode_0 ?_
  refine r_lstore_n (lv' := fun z => [(1, .long z), (0, .int (nI (8*k)))]) dX8_keywordCode_1 rfl (Nat.le_of_ble_eq_true rfl) (fun _ => rfl) (fun x1_1 ex1_1 => ?_)
  refine r_iload_n (j := 1) rfl rfl dX8_keywordCode_2 ?_
  refine r_istore_n (lv' := fun z => [(3, .int z), (1, .long x1_1), (0, .int (nI (8*k)))]) dX8_keywordCode_3 rfl (Nat.le_of_ble_eq_true rfl) (fun _ => rfl) (fun x3_3 ex3_3 => ?_)
  exact lv_X8_keywordCode hk 8 0 rfl _ _ ex1_1 (by rw [ex3_3, nI_toInt (by omega)]; omega)
end
