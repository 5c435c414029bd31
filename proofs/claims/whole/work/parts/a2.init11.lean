/-! the class' own constructor -/
def l11 (l : Rl) : Rl := (0, 11, 92) :: lCon 92 2 ((0, 10, 84) :: lCon 84 7 ((0, 9, 75) :: lCon 75 8 ((0, 8, 73) :: lCon 73 1 ((0, 7, 68) :: lCon 68 4 ((0, 6, 64) :: lCon 64 3 ((45, 1, 55) :: lCon 55 8 ((45, 0, 46) :: lCon 46 8 ((0, 5, 45) :: (0, 4, 36) :: lCon 36 8 ((0, 1, 33) :: rdl ((0, 3, 18) :: lCon 18 14 ((0, 2, 3) :: lCon 3 14 ((0, 0, 1) :: lCon 1 1 l))))))))))))
def I11 (I : Is) : Is := up (cuV 18 (cuV 3 I)) 33 5 (-1)
def L11 (L : Ls) : Ls := up (up (up (up (rdR L 15) 44 0 1) 54 0 1) 63 0 1) 94 0 1
section
variable {sc : Sc} {I : Is} {L : Ls} {l : Rl}
theorem k_X11_init_0 (hz : Zr 1 I L l) : Con sc mX11_init 6 94 2475 [.ref 0] (XV 1 I L (PA l)) (rV (XV 95 (I11 I) (L11 L) (PA (l11 l)))) := by
  refine Con_of (by decide) (Nat.le_of_ble_eq_true rfl) ?_
  refine r_aload_n (j := 0) rfl rfl dX11_init_0 ?_
  refine r_objI oX11_1 objI1 objI2 (Nat.le_of_ble_eq_true rfl) (Nat.le_of_ble_eq_true rfl) dX11_init_1 ?_
  refine r_aload_n (j := 0) rfl rfl dX11_init_4 ?_
  refine v_new (N' := 2) (k' := 1) (n' := 2) (ty0 := tyX10) rfl hz rfl rfl rfl (by decide) rfl (by decide) inq10 tyX10_ok nfd10 qX11_7 inz10 iniRX10 (Nat.le_of_ble_eq_true rfl) (Nat.le_of_ble_eq_true rfl) dX11_init_5 (fun hz => ?_)
  refine r_dup rfl dX11_init_8 ?_
  refine v_cI0 (N' := 3) (k' := 2) (n' := 902) (k_X10_init_1 hz) (Nat.le_of_ble_eq_true rfl) lX11_9 miX10_init rfl rfl (Nat.le_of_ble_eq_true rfl) rfl rfl (Nat.le_of_ble_eq_true rfl) (Nat.le_of_ble_eq_true rfl) dX11_init_9 ?_
  have hz := z_X10_init_1 hz
  refine v_putR fX11_10 rfl (fun _ => rfl) (fun _ => rfl) dX11_init_12 ?_
  have hz := Zr.put (b := 0) (f := 0) (x := 1) (by decide) hz
  refine r_aload_n (j := 0) rfl rfl dX11_init_15 ?_
  refine v_new (N' := 4) (k' := 3) (n' := 920) (ty0 := tyX0) rfl hz rfl rfl rfl (by decide) rfl (by decide) inq0 tyX0_ok nfd0 qX11_16 inz0 iniRX0 (Nat.le_of_ble_eq_true rfl) (Nat.le_of_ble_eq_true rfl) dX11_init_16 (fun hz => ?_)
  refine r_dup rfl dX11_init_19 ?_
  refine v_cI0 (N' := 18) (k' := 17) (n' := 1022) (k_X0_init_3 hz) (Nat.le_of_ble_eq_true rfl) lX11_18 miX0_init rfl rfl (Nat.le_of_ble_eq_true rfl) rfl rfl (Nat.le_of_ble_eq_true rfl) (Nat.le_of_ble_eq_true rfl) dX11_init_20 ?_
  have hz := z_X0_init_3 hz
  refine v_putR fX11_19 rfl (fun _ => rfl) (fun _ => rfl) dX11_init_23 ?_
  have hz := Zr.put (b := 0) (f := 2) (x := 3) (by decide) hz
  refine r_aload_n (j := 0) rfl rfl dX11_init_26 ?_
  refine v_new (N' := 19) (k' := 18) (n' := 1040) (ty0 := tyX0) rfl hz rfl rfl rfl (by decide) rfl (by decide) inq0 tyX0_ok nfd0 qX11_16 inz0 iniRX0 (Nat.le_of_ble_eq_true rfl) (Nat.le_of_ble_eq_true rfl) dX11_init_27 (fun hz => ?_)
  refine r_dup rfl dX11_init_30 ?_
  refine v_cI0 (N' := 33) (k' := 32) (n' := 1142) (k_X0_init_18 hz) (Nat.le_of_ble_eq_true rfl) lX11_18 miX0_init rfl rfl (Nat.le_of_ble_eq_true rfl) rfl rfl (Nat.le_of_ble_eq_true rfl) (Nat.le_of_ble_eq_true rfl) dX11_init_31 ?_
  have hz := z_X0_init_18 hz
  refine v_putR fX11_23 rfl (fun _ => rfl) (fun _ => rfl) dX11_init_34 ?_
  have hz := Zr.put (b := 0) (f := 3) (x := 18) (by decide) hz
  refine r_aload_n (j := 0) rfl rfl dX11_init_37 ?_
  refine v_new (N' := 34) (k' := 33) (n' := 1158) (ty0 := tyX8) rfl hz rfl rfl rfl (by decide) rfl (by decide) inq8 tyX8_ok nfd8 qX11_26 inz8 iniRX8 (Nat.le_of_ble_eq_true rfl) (Nat.le_of_ble_eq_true rfl) dX11_init_38 (fun hz => ?_)
  refine r_dup rfl dX11_init_41 ?_
  refine r_aload_n (j := 0) rfl rfl dX11_init_42 ?_
  refine v_getR (b := 1) fX11_10 rfl rfl dX11_init_43 ?_
  refine r_aload_n (j := 0) rfl rfl dX11_init_46 ?_
  refine v_getR (b := 18) fX11_23 rfl rfl dX11_init_47 ?_
  refine v_cI2 (N' := 36) (k' := 35) (n' := 1176) (k_X8_init_33 hz) (Nat.le_of_ble_eq_true rfl) lX11_28 miX8_init rfl rfl (Nat.le_of_ble_eq_true rfl) rfl rfl (Nat.le_of_ble_eq_true rfl) (Nat.le_of_ble_eq_true rfl) dX11_init_50 ?_
  have hz := z_X8_init_33 hz
  refine v_putR fX11_31 rfl (fun _ => rfl) (fun _ => rfl) dX11_init_53 ?_
  have hz := Zr.put (b := 0) (f := 1) (x := 33) (by decide) hz
  refine r_aload_n (j := 0) rfl rfl dX11_init_56 ?_
  refine v_new (N' := 37) (k' := 36) (n' := 1187) (ty0 := tyX3) rfl hz rfl rfl rfl (by decide) rfl (by decide) inq3 tyX3_ok nfd3 qX11_35 inz3 iniRX3 (Nat.le_of_ble_eq_true rfl) (Nat.le_of_ble_eq_true rfl) dX11_init_57 (fun hz => ?_)
  refine r_dup rfl dX11_init_60 ?_
  refine v_cI0 (N' := 45) (k' := 44) (n' := 1212) (k_X3_init_36 hz) (Nat.le_of_ble_eq_true rfl) lX11_37 miX3_init rfl rfl (Nat.le_of_ble_eq_true rfl) rfl rfl (Nat.le_of_ble_eq_true rfl) (Nat.le_of_ble_eq_true rfl) dX11_init_61 ?_
  have hz := z_X3_init_36 hz
  refine v_putR fX11_38 rfl (fun _ => rfl) (fun _ => rfl) dX11_init_64 ?_
  have hz := Zr.put (b := 0) (f := 4) (x := 36) (by decide) hz
  refine r_aload_n (j := 0) rfl rfl dX11_init_67 ?_
  refine r_iconst (v := 2) rfl dX11_init_68 ?_
  refine v_newq (M := 2) (N' := 46) (k' := 45) (n' := 1214) rfl hz rfl rfl rfl (by decide) (by decide) (by decide) (by decide) qX11_35 (Nat.le_of_ble_eq_true rfl) (Nat.le_of_ble_eq_true rfl) dX11_init_69 (fun hz => ?_)
  refine v_putR fX11_42 rfl (fun _ => rfl) (fun _ => rfl) dX11_init_72 ?_
  have hz := Zr.put (b := 0) (f := 5) (x := 45) (by decide) hz
  refine r_iconst (v := 0) rfl dX11_init_75 ?_
  refine r_istore_n (lv' := fun z => [(1, .int z), (0, .ref 0)]) dX11_init_76 rfl (Nat.le_of_ble_eq_true rfl) (fun _ => rfl) (fun x1_76 ex1_76 => ?_)
  subst ex1_76
  refine r_iload_n (j := 0) rfl rfl dX11_init_77 ?_
  refine r_iconst (v := 2) rfl dX11_init_78 ?_
  refine r_icmp_ge (tgt := 101) dX11_init_79 (by decide) (fun c79 => ?_) (fun c79 => ?_)
  · exact absurd c79 (by decide)
  · refine r_aload_n (j := 1) rfl rfl dX11_init_82 ?_
    refine v_getR (b := 45) fX11_42 rfl rfl dX11_init_83 ?_
    refine r_iload_n (j := 0) rfl rfl dX11_init_86 ?_
    refine v_new (N' := 47) (k' := 46) (n' := 1225) (ty0 := tyX3) rfl hz rfl rfl rfl (by decide) rfl (by decide) inq3 tyX3_ok nfd3 qX11_35 inz3 iniRX3 (Nat.le_of_ble_eq_true rfl) (Nat.le_of_ble_eq_true rfl) dX11_init_87 (fun hz => ?_)
    refine r_dup rfl dX11_init_90 ?_
    refine v_cI0 (N' := 55) (k' := 54) (n' := 1250) (k_X3_init_46 hz) (Nat.le_of_ble_eq_true rfl) lX11_37 miX3_init rfl rfl (Nat.le_of_ble_eq_true rfl) rfl rfl (Nat.le_of_ble_eq_true rfl) (Nat.le_of_ble_eq_true rfl) dX11_init_91 ?_
    have hz := z_X3_init_46 hz
    refine v_aast (f := 0) rfl rfl (by rw [vp_in_iff]; decide) (by decide) dX11_init_94 ?_
    have hz := Zr.put (b := 45) (f := 0) (x := 46) (by decide) hz
    refine r_iinc (j := 0) (lv' := fun z => [(1, .int z), (0, .ref 0)]) dX11_init_95 rfl (Nat.le_of_ble_eq_true rfl) (fun _ => rfl) (fun x1_95 ex1_95 => ?_)
    refine r_goto (tgt := 77) dX11_init_98 (by decide) ?_
    subst ex1_95
    refine r_iload_n (j := 0) rfl rfl dX11_init_77 ?_
    refine r_iconst (v := 2) rfl dX11_init_78 ?_
    refine r_icmp_ge (tgt := 101) dX11_init_79 (by decide) (fun c79 => ?_) (fun c79 => ?_)
    · exact absurd c79 (by decide)
    · refine r_aload_n (j := 1) rfl rfl dX11_init_82 ?_
      refine v_getR (b := 45) fX11_42 rfl rfl dX11_init_83 ?_
      refine r_iload_n (j := 0) rfl rfl dX11_init_86 ?_
      refine v_new (N' := 56) (k' := 55) (n' := 1261) (ty0 := tyX3) rfl hz rfl rfl rfl (by decide) rfl (by decide) inq3 tyX3_ok nfd3 qX11_35 inz3 iniRX3 (Nat.le_of_ble_eq_true rfl) (Nat.le_of_ble_eq_true rfl) dX11_init_87 (fun hz => ?_)
      refine r_dup rfl dX11_init_90 ?_
      refine v_cI0 (N' := 64) (k' := 63) (n' := 1286) (k_X3_init_55 hz) (Nat.le_of_ble_eq_true rfl) lX11_37 miX3_init rfl rfl (Nat.le_of_ble_eq_true rfl) rfl rfl (Nat.le_of_ble_eq_true rfl) (Nat.le_of_ble_eq_true rfl) dX11_init_91 ?_
      have hz := z_X3_init_55 hz
      refine v_aast (f := 1) rfl rfl (by rw [vp_in_iff]; decide) (by decide) dX11_init_94 ?_
      have hz := Zr.put (b := 45) (f := 1) (x := 55) (by decide) hz
      refine r_iinc (j := 0) (lv' := fun z => [(1, .int z), (0, .ref 0)]) dX11_init_95 rfl (Nat.le_of_ble_eq_true rfl) (fun _ => rfl) (fun x1_95 ex1_95 => ?_)
      refine r_goto (tgt := 77) dX11_init_98 (by decide) ?_
      subst ex1_95
      refine r_iload_n (j := 0) rfl rfl dX11_init_77 ?_
      refine r_iconst (v := 2) rfl dX11_init_78 ?_
      refine r_icmp_ge (tgt := 101) dX11_init_79 (by decide) (fun c79 => ?_) (fun c79 => ?_)
      · refine r_aload_n (j := 1) rfl rfl dX11_init_101 ?_
        refine v_new (N' := 65) (k' := 64) (n' := 1289) (ty0 := tyX4) rfl hz rfl rfl rfl (by decide) rfl (by decide) inq4 tyX4_ok nfd4 qX11_46 inz4 iniRX4 (Nat.le_of_ble_eq_true rfl) (Nat.le_of_ble_eq_true rfl) dX11_init_102 (fun hz => ?_)
        refine r_dup rfl dX11_init_105 ?_
        refine v_cI0 (N' := 68) (k' := 67) (n' := 1304) (k_X4_init_64 hz) (Nat.le_of_ble_eq_true rfl) lX11_48 miX4_init rfl rfl (Nat.le_of_ble_eq_true rfl) rfl rfl (Nat.le_of_ble_eq_true rfl) (Nat.le_of_ble_eq_true rfl) dX11_init_106 ?_
        have hz := z_X4_init_64 hz
        refine v_putR fX11_49 rfl (fun _ => rfl) (fun _ => rfl) dX11_init_109 ?_
        have hz := Zr.put (b := 0) (f := 6) (x := 64) (by decide) hz
        refine r_aload_n (j := 1) rfl rfl dX11_init_112 ?_
        refine v_new (N' := 69) (k' := 68) (n' := 1308) (ty0 := tyX2) rfl hz rfl rfl rfl (by decide) rfl (by decide) inq2 tyX2_ok nfd2 qX11_53 inz2 iniRX2 (Nat.le_of_ble_eq_true rfl) (Nat.le_of_ble_eq_true rfl) dX11_init_113 (fun hz => ?_)
        refine r_dup rfl dX11_init_116 ?_
        refine v_cI0 (N' := 73) (k' := 72) (n' := 1328) (k_X2_init_68 hz) (Nat.le_of_ble_eq_true rfl) lX11_55 miX2_init rfl rfl (Nat.le_of_ble_eq_true rfl) rfl rfl (Nat.le_of_ble_eq_true rfl) (Nat.le_of_ble_eq_true rfl) dX11_init_117 ?_
        have hz := z_X2_init_68 hz
        refine v_putR fX11_56 rfl (fun _ => rfl) (fun _ => rfl) dX11_init_120 ?_
        have hz := Zr.put (b := 0) (f := 7) (x := 68) (by decide) hz
        refine r_aload_n (j := 1) rfl rfl dX11_init_123 ?_
        refine v_new (N' := 74) (k' := 73) (n' := 1331) (ty0 := tyX5) rfl hz rfl rfl rfl (by decide) rfl (by decide) inq5 tyX5_ok nfd5 qX11_60 inz5 iniRX5 (Nat.le_of_ble_eq_true rfl) (Nat.le_of_ble_eq_true rfl) dX11_init_124 (fun hz => ?_)
        refine r_dup rfl dX11_init_127 ?_
        refine v_cI0 (N' := 75) (k' := 74) (n' := 1732) (k_X5_init_73 hz) (Nat.le_of_ble_eq_true rfl) lX11_62 miX5_init rfl rfl (Nat.le_of_ble_eq_true rfl) rfl rfl (Nat.le_of_ble_eq_true rfl) (Nat.le_of_ble_eq_true rfl) dX11_init_128 ?_
        have hz := z_X5_init_73 hz
        refine v_putR fX11_63 rfl (fun _ => rfl) (fun _ => rfl) dX11_init_131 ?_
        have hz := Zr.put (b := 0) (f := 8) (x := 73) (by decide) hz
        refine r_aload_n (j := 1) rfl rfl dX11_init_134 ?_
        refine v_new (N' := 76) (k' := 75) (n' := 1744) (ty0 := tyX9) rfl hz rfl rfl rfl (by decide) rfl (by decide) inq9 tyX9_ok nfd9 qX11_67 inz9 iniRX9 (Nat.le_of_ble_eq_true rfl) (Nat.le_of_ble_eq_true rfl) dX11_init_135 (fun hz => ?_)
        refine r_dup rfl dX11_init_138 ?_
        refine v_cI0 (N' := 84) (k' := 83) (n' := 1884) (k_X9_init_75 hz) (Nat.le_of_ble_eq_true rfl) lX11_69 miX9_init rfl rfl (Nat.le_of_ble_eq_true rfl) rfl rfl (Nat.le_of_ble_eq_true rfl) (Nat.le_of_ble_eq_true rfl) dX11_init_139 ?_
        have hz := z_X9_init_75 hz
        refine v_putR fX11_70 rfl (fun _ => rfl) (fun _ => rfl) dX11_init_142 ?_
        have hz := Zr.put (b := 0) (f := 9) (x := 75) (by decide) hz
        refine r_aload_n (j := 1) rfl rfl dX11_init_145 ?_
        refine v_new (N' := 85) (k' := 84) (n' := 1894) (ty0 := tyX7) rfl hz rfl rfl rfl (by decide) rfl (by decide) inq7 tyX7_ok nfd7 qX11_74 inz7 iniRX7 (Nat.le_of_ble_eq_true rfl) (Nat.le_of_ble_eq_true rfl) dX11_init_146 (fun hz => ?_)
        refine r_dup rfl dX11_init_149 ?_
        refine v_cI0 (N' := 92) (k' := 91) (n' := 2440) (k_X7_init_84 hz) (Nat.le_of_ble_eq_true rfl) lX11_76 miX7_init rfl rfl (Nat.le_of_ble_eq_true rfl) rfl rfl (Nat.le_of_ble_eq_true rfl) (Nat.le_of_ble_eq_true rfl) dX11_init_150 ?_
        have hz := z_X7_init_84 hz
        refine v_putR fX11_77 rfl (fun _ => rfl) (fun _ => rfl) dX11_init_153 ?_
        have hz := Zr.put (b := 0) (f := 10) (x := 84) (by decide) hz
        refine r_aload_n (j := 1) rfl rfl dX11_init_156 ?_
        refine v_new (N' := 93) (k' := 92) (n' := 2444) (ty0 := tyX6) rfl hz rfl rfl rfl (by decide) rfl (by decide) inq6 tyX6_ok nfd6 qX11_81 inz6 iniRX6 (Nat.le_of_ble_eq_true rfl) (Nat.le_of_ble_eq_true rfl) dX11_init_157 (fun hz => ?_)
        refine r_dup rfl dX11_init_160 ?_
        refine v_cI0 (N' := 95) (k' := 94) (n' := 2475) (k_X6_init_92 hz) (Nat.le_of_ble_eq_true rfl) lX11_83 miX6_init rfl rfl (Nat.le_of_ble_eq_true rfl) rfl rfl (Nat.le_of_ble_eq_true rfl) (Nat.le_of_ble_eq_true rfl) dX11_init_161 ?_
        have hz := z_X6_init_92 hz
        refine v_putR fX11_84 rfl (fun _ => rfl) (fun _ => rfl) dX11_init_164 ?_
        have hz := Zr.put (b := 0) (f := 11) (x := 92) (by decide) hz
        refine v_vret rfl (Nat.le_of_ble_eq_true rfl) (Nat.le_of_ble_eq_true rfl) dX11_init_167 ?_
        exact ⟨rfl, rfl, rfl⟩
      · exact absurd (by decide) c79
theorem z_X11_init_0 (hz : Zr 1 I L l) : Zr 95 (I11 I) (L11 L) (l11 l) := by
  have h0 := hz.mono (show 1 ≤ 95 by decide)
  have h1 := (h0.con (b := 1) (by decide) 1).put (b := 0) (f := 0) (x := 1) (by decide)
  have h2 := (h1.con (b := 3) (by decide) 14).put (b := 0) (f := 2) (x := 3) (by decide)
  have h3 := (h2.con (b := 18) (by decide) 14).put (b := 0) (f := 3) (x := 18) (by decide)
  have h4 := (((h3.put (b := 33) (f := 0) (x := 34) (by decide)).put (b := 33) (f := 1) (x := 35) (by decide)).put (b := 33) (f := 2) (x := 1) (by decide)).put (b := 33) (f := 3) (x := 18) (by decide)
  have h5 := h4.put (b := 0) (f := 1) (x := 33) (by decide)
  have h6 := ((h5.con (b := 36) (by decide) 8).put (b := 0) (f := 4) (x := 36) (by decide)).put (b := 0) (f := 5) (x := 45) (by decide)
  have h7 := (h6.con (b := 46) (by decide) 8).put (b := 45) (f := 0) (x := 46) (by decide)
  have h8 := (h7.con (b := 55) (by decide) 8).put (b := 45) (f := 1) (x := 55) (by decide)
  have h9 := (h8.con (b := 64) (by decide) 3).put (b := 0) (f := 6) (x := 64) (by decide)
  have ha := (h9.con (b := 68) (by decide) 4).put (b := 0) (f := 7) (x := 68) (by decide)
  have hb := (ha.con (b := 73) (by decide) 1).put (b := 0) (f := 8) (x := 73) (by decide)
  have hc := (hb.con (b := 75) (by decide) 8).put (b := 0) (f := 9) (x := 75) (by decide)
  have hd := (hc.con (b := 84) (by decide) 7).put (b := 0) (f := 10) (x := 84) (by decide)
  have he := (hd.con (b := 92) (by decide) 2).put (b := 0) (f := 11) (x := 92) (by decide)
  have hf : Zr 95 I L (l11 l) := he
  exact Zr.lup (by decide) (Zr.lup (by decide) (Zr.lup (by decide) (Zr.lup (by decide) (Zr.luprr (by decide) (Zr.upp (by decide) (Zr.cu (by decide) (Zr.cu (by decide) hf)))))))
end
