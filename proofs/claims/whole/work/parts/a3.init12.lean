/-! the reference's constructor -/
def l12 (l : Rl) : Rl := (95, 93, 150) :: (95, 90, 149) :: (95, 89, 148) :: (95, 88, 147) :: (95, 87, 146) :: (95, 86, 145) :: (95, 85, 144) :: (95, 79, 143) :: (95, 78, 142) :: (95, 77, 141) :: (95, 76, 140) :: (95, 75, 139) :: (95, 74, 138) :: (95, 73, 137) :: (95, 67, 136) :: (95, 66, 135) :: (95, 64, 134) :: (95, 63, 133) :: (95, 62, 132) :: (95, 61, 131) :: (95, 60, 130) :: (95, 59, 129) :: (95, 58, 128) :: (95, 57, 127) :: (95, 56, 126) :: (95, 55, 125) :: (95, 54, 124) :: (95, 53, 123) :: (95, 52, 122) :: (95, 51, 121) :: (95, 50, 120) :: (95, 45, 119) :: (95, 44, 118) :: (95, 43, 117) :: (95, 42, 116) :: (95, 41, 115) :: (95, 40, 114) :: (95, 39, 113) :: (95, 38, 112) :: (95, 37, 111) :: (95, 36, 110) :: (95, 35, 109) :: (95, 34, 108) :: (95, 33, 107) :: (95, 32, 106) :: (95, 31, 105) :: (95, 30, 104) :: (95, 29, 103) :: (95, 28, 102) :: (95, 27, 101) :: (95, 26, 100) :: (95, 25, 99) :: (95, 24, 98) :: (95, 23, 97) :: (95, 0, 96) :: l
def I12 (I : Is) : Is := up (up (up (up (up (up (up (up (up (up (up (up I 95 9 (-1)) 95 14 8) 95 15 4) 97 0 200) 97 1 100) 97 2 10) 97 3 6) 97 4 200) 97 5 2) 97 6 60) 97 7 5) 97 8 0
def L12 (L : Ls) : Ls := up L 95 47 1
section
variable {sc : Sc} {I : Is} {L : Ls} {l : Rl}
theorem k_X12_init_95 (hz : Zr 96 I L l) : Con sc mX12_init 1 55 1637 [.ref 95] (XV 96 I L (PA l)) (rV (XV 151 (I12 I) (L12 L) (PA (l12 l)))) := by
  refine Con_of (by decide) (Nat.le_of_ble_eq_true rfl) ?_
  refine r_aload_n (j := 0) rfl rfl dX12_init_0 ?_
  refine r_objI oX12_208 objI1 objI2 (Nat.le_of_ble_eq_true rfl) (Nat.le_of_ble_eq_true rfl) dX12_init_1 ?_
  refine r_aload_n (j := 0) rfl rfl dX12_init_4 ?_
  refine r_sipush (v := 900) rfl dX12_init_5 ?_
  refine v_newaB (M := 900) (N' := 97) (k' := 1) (n' := 900) rfl hz rfl rfl rfl (by decide) (by decide) (by decide) (by decide) (Nat.le_of_ble_eq_true rfl) (Nat.le_of_ble_eq_true rfl) dX12_init_8 (fun hz => ?_)
  refine v_putR fX12_16 rfl (fun _ => rfl) (fun _ => rfl) dX12_init_10 ?_
  have hz := Zr.put (b := 95) (f := 0) (x := 96) (by decide) hz
  refine r_aload_n (j := 0) rfl rfl dX12_init_13 ?_
  refine r_iconst (v := (-1)) rfl dX12_init_14 ?_
  refine v_putI fX12_10 rfl (rfl) (rfl) dX12_init_15 (fun J15 hJ15 => ?_)
  have hz := hz.upx hJ15
  refine r_aload_n (j := 0) rfl rfl dX12_init_18 ?_
  refine r_bipush (v := 8) rfl dX12_init_19 ?_
  refine v_putI fX12_213 rfl (rfl) (rfl) dX12_init_21 (fun J21 hJ21 => ?_)
  have hz := hz.upx hJ21
  refine r_aload_n (j := 0) rfl rfl dX12_init_24 ?_
  refine r_iconst (v := 4) rfl dX12_init_25 ?_
  refine v_putI fX12_216 rfl (rfl) (rfl) dX12_init_26 (fun J26 hJ26 => ?_)
  have hz := hz.upx hJ26
  refine r_aload_n (j := 0) rfl rfl dX12_init_29 ?_
  refine r_bipush (v := 9) rfl dX12_init_30 ?_
  refine v_newaI (M := 9) (N' := 98) (k' := 2) (n' := 909) rfl hz rfl rfl rfl (by decide) (by decide) (by decide) (by decide) (Nat.le_of_ble_eq_true rfl) (Nat.le_of_ble_eq_true rfl) dX12_init_32 (fun hz => ?_)
  refine r_dup rfl dX12_init_34 ?_
  refine r_iconst (v := 0) rfl dX12_init_35 ?_
  refine r_sipush (v := 200) rfl dX12_init_36 ?_
  refine v_iast rfl (by rw [vp_in_iff]; decide) dX12_init_39 (fun J39 hJ39 => ?_)
  have hz := hz.upx hJ39
  refine r_dup rfl dX12_init_40 ?_
  refine r_iconst (v := 1) rfl dX12_init_41 ?_
  refine r_bipush (v := 100) rfl dX12_init_42 ?_
  refine v_iast rfl (by rw [vp_in_iff]; decide) dX12_init_44 (fun J44 hJ44 => ?_)
  have hz := hz.upx hJ44
  refine r_dup rfl dX12_init_45 ?_
  refine r_iconst (v := 2) rfl dX12_init_46 ?_
  refine r_bipush (v := 10) rfl dX12_init_47 ?_
  refine v_iast rfl (by rw [vp_in_iff]; decide) dX12_init_49 (fun J49 hJ49 => ?_)
  have hz := hz.upx hJ49
  refine r_dup rfl dX12_init_50 ?_
  refine r_iconst (v := 3) rfl dX12_init_51 ?_
  refine r_bipush (v := 6) rfl dX12_init_52 ?_
  refine v_iast rfl (by rw [vp_in_iff]; decide) dX12_init_54 (fun J54 hJ54 => ?_)
  have hz := hz.upx hJ54
  refine r_dup rfl dX12_init_55 ?_
  refine r_iconst (v := 4) rfl dX12_init_56 ?_
  refine r_sipush (v := 200) rfl dX12_init_57 ?_
  refine v_iast rfl (by rw [vp_in_iff]; decide) dX12_init_60 (fun J60 hJ60 => ?_)
  have hz := hz.upx hJ60
  refine r_dup rfl dX12_init_61 ?_
  refine r_iconst (v := 5) rfl dX12_init_62 ?_
  refine r_iconst (v := 2) rfl dX12_init_63 ?_
  refine v_iast rfl (by rw [vp_in_iff]; decide) dX12_init_64 (fun J64 hJ64 => ?_)
  have hz := hz.upx hJ64
  refine r_dup rfl dX12_init_65 ?_
  refine r_bipush (v := 6) rfl dX12_init_66 ?_
  refine r_bipush (v := 60) rfl dX12_init_68 ?_
  refine v_iast rfl (by rw [vp_in_iff]; decide) dX12_init_70 (fun J70 hJ70 => ?_)
  have hz := hz.upx hJ70
  refine r_dup rfl dX12_init_71 ?_
  refine r_bipush (v := 7) rfl dX12_init_72 ?_
  refine r_iconst (v := 5) rfl dX12_init_74 ?_
  refine v_iast rfl (by rw [vp_in_iff]; decide) dX12_init_75 (fun J75 hJ75 => ?_)
  have hz := hz.upx hJ75
  refine r_dup rfl dX12_init_76 ?_
  refine r_bipush (v := 8) rfl dX12_init_77 ?_
  refine r_iconst (v := 0) rfl dX12_init_79 ?_
  refine v_iast rfl (by rw [vp_in_iff]; decide) dX12_init_80 (fun J80 hJ80 => ?_)
  have hz := hz.upx hJ80
  refine v_putR fX12_219 rfl (fun _ => rfl) (fun _ => rfl) dX12_init_81 ?_
  have hz := Zr.put (b := 95) (f := 23) (x := 97) (by decide) hz
  refine r_aload_n (j := 0) rfl rfl dX12_init_84 ?_
  refine r_bipush (v := 9) rfl dX12_init_85 ?_
  refine v_newaI (M := 9) (N' := 99) (k' := 3) (n' := 918) rfl hz rfl rfl rfl (by decide) (by decide) (by decide) (by decide) (Nat.le_of_ble_eq_true rfl) (Nat.le_of_ble_eq_true rfl) dX12_init_87 (fun hz => ?_)
  refine v_putR fX12_171 rfl (fun _ => rfl) (fun _ => rfl) dX12_init_89 ?_
  have hz := Zr.put (b := 95) (f := 24) (x := 98) (by decide) hz
  refine r_aload_n (j := 0) rfl rfl dX12_init_92 ?_
  refine r_iconst (v := 5) rfl dX12_init_93 ?_
  refine v_newaL (M := 5) (N' := 100) (k' := 4) (n' := 923) rfl hz rfl rfl rfl (by decide) (by decide) (by decide) (by decide) (Nat.le_of_ble_eq_true rfl) (Nat.le_of_ble_eq_true rfl) dX12_init_94 (fun hz => ?_)
  refine v_putR fX12_98 rfl (fun _ => rfl) (fun _ => rfl) dX12_init_96 ?_
  have hz := Zr.put (b := 95) (f := 25) (x := 99) (by decide) hz
  refine r_aload_n (j := 0) rfl rfl dX12_init_99 ?_
  refine r_iconst (v := 4) rfl dX12_init_100 ?_
  refine v_newaL (M := 4) (N' := 101) (k' := 5) (n' := 927) rfl hz rfl rfl rfl (by decide) (by decide) (by decide) (by decide) (Nat.le_of_ble_eq_true rfl) (Nat.le_of_ble_eq_true rfl) dX12_init_101 (fun hz => ?_)
  refine v_putR fX12_126 rfl (fun _ => rfl) (fun _ => rfl) dX12_init_103 ?_
  have hz := Zr.put (b := 95) (f := 26) (x := 100) (by decide) hz
  refine r_aload_n (j := 0) rfl rfl dX12_init_106 ?_
  refine r_iconst (v := 4) rfl dX12_init_107 ?_
  refine v_newaL (M := 4) (N' := 102) (k' := 6) (n' := 931) rfl hz rfl rfl rfl (by decide) (by decide) (by decide) (by decide) (Nat.le_of_ble_eq_true rfl) (Nat.le_of_ble_eq_true rfl) dX12_init_108 (fun hz => ?_)
  refine v_putR fX12_147 rfl (fun _ => rfl) (fun _ => rfl) dX12_init_110 ?_
  have hz := Zr.put (b := 95) (f := 27) (x := 101) (by decide) hz
  refine r_aload_n (j := 0) rfl rfl dX12_init_113 ?_
  refine r_iconst (v := 5) rfl dX12_init_114 ?_
  refine v_newaI (M := 5) (N' := 103) (k' := 7) (n' := 936) rfl hz rfl rfl rfl (by decide) (by decide) (by decide) (by decide) (Nat.le_of_ble_eq_true rfl) (Nat.le_of_ble_eq_true rfl) dX12_init_115 (fun hz => ?_)
  refine v_putR fX12_222 rfl (fun _ => rfl) (fun _ => rfl) dX12_init_117 ?_
  have hz := Zr.put (b := 95) (f := 28) (x := 102) (by decide) hz
  refine r_aload_n (j := 0) rfl rfl dX12_init_120 ?_
  refine r_iconst (v := 5) rfl dX12_init_121 ?_
  refine v_newaI (M := 5) (N' := 104) (k' := 8) (n' := 941) rfl hz rfl rfl rfl (by decide) (by decide) (by decide) (by decide) (Nat.le_of_ble_eq_true rfl) (Nat.le_of_ble_eq_true rfl) dX12_init_122 (fun hz => ?_)
  refine v_putR fX12_225 rfl (fun _ => rfl) (fun _ => rfl) dX12_init_124 ?_
  have hz := Zr.put (b := 95) (f := 29) (x := 103) (by decide) hz
  refine r_aload_n (j := 0) rfl rfl dX12_init_127 ?_
  refine r_iconst (v := 5) rfl dX12_init_128 ?_
  refine v_newaI (M := 5) (N' := 105) (k' := 9) (n' := 946) rfl hz rfl rfl rfl (by decide) (by decide) (by decide) (by decide) (Nat.le_of_ble_eq_true rfl) (Nat.le_of_ble_eq_true rfl) dX12_init_129 (fun hz => ?_)
  refine v_putR fX12_228 rfl (fun _ => rfl) (fun _ => rfl) dX12_init_131 ?_
  have hz := Zr.put (b := 95) (f := 30) (x := 104) (by decide) hz
  refine r_aload_n (j := 0) rfl rfl dX12_init_134 ?_
  refine r_iconst (v := 5) rfl dX12_init_135 ?_
  refine v_newaI (M := 5) (N' := 106) (k' := 10) (n' := 951) rfl hz rfl rfl rfl (by decide) (by decide) (by decide) (by decide) (Nat.le_of_ble_eq_true rfl) (Nat.le_of_ble_eq_true rfl) dX12_init_136 (fun hz => ?_)
  refine v_putR fX12_231 rfl (fun _ => rfl) (fun _ => rfl) dX12_init_138 ?_
  have hz := Zr.put (b := 95) (f := 31) (x := 105) (by decide) hz
  refine r_aload_n (j := 0) rfl rfl dX12_init_141 ?_
  refine r_bipush (v := 25) rfl dX12_init_142 ?_
  refine v_newaI (M := 25) (N' := 107) (k' := 11) (n' := 976) rfl hz rfl rfl rfl (by decide) (by decide) (by decide) (by decide) (Nat.le_of_ble_eq_true rfl) (Nat.le_of_ble_eq_true rfl) dX12_init_144 (fun hz => ?_)
  refine v_putR fX12_234 rfl (fun _ => rfl) (fun _ => rfl) dX12_init_146 ?_
  have hz := Zr.put (b := 95) (f := 32) (x := 106) (by decide) hz
  refine r_aload_n (j := 0) rfl rfl dX12_init_149 ?_
  refine r_iconst (v := 4) rfl dX12_init_150 ?_
  refine v_newaI (M := 4) (N' := 108) (k' := 12) (n' := 980) rfl hz rfl rfl rfl (by decide) (by decide) (by decide) (by decide) (Nat.le_of_ble_eq_true rfl) (Nat.le_of_ble_eq_true rfl) dX12_init_151 (fun hz => ?_)
  refine v_putR fX12_236 rfl (fun _ => rfl) (fun _ => rfl) dX12_init_153 ?_
  have hz := Zr.put (b := 95) (f := 33) (x := 107) (by decide) hz
  refine r_aload_n (j := 0) rfl rfl dX12_init_156 ?_
  refine r_iconst (v := 4) rfl dX12_init_157 ?_
  refine v_newaI (M := 4) (N' := 109) (k' := 13) (n' := 984) rfl hz rfl rfl rfl (by decide) (by decide) (by decide) (by decide) (Nat.le_of_ble_eq_true rfl) (Nat.le_of_ble_eq_true rfl) dX12_init_158 (fun hz => ?_)
  refine v_putR fX12_239 rfl (fun _ => rfl) (fun _ => rfl) dX12_init_160 ?_
  have hz := Zr.put (b := 95) (f := 34) (x := 108) (by decide) hz
  refine r_aload_n (j := 0) rfl rfl dX12_init_163 ?_
  refine r_iconst (v := 4) rfl dX12_init_164 ?_
  refine v_newaI (M := 4) (N' := 110) (k' := 14) (n' := 988) rfl hz rfl rfl rfl (by decide) (by decide) (by decide) (by decide) (Nat.le_of_ble_eq_true rfl) (Nat.le_of_ble_eq_true rfl) dX12_init_165 (fun hz => ?_)
  refine v_putR fX12_242 rfl (fun _ => rfl) (fun _ => rfl) dX12_init_167 ?_
  have hz := Zr.put (b := 95) (f := 35) (x := 109) (by decide) hz
  refine r_aload_n (j := 0) rfl rfl dX12_init_170 ?_
  refine r_iconst (v := 4) rfl dX12_init_171 ?_
  refine v_newaI (M := 4) (N' := 111) (k' := 15) (n' := 992) rfl hz rfl rfl rfl (by decide) (by decide) (by decide) (by decide) (Nat.le_of_ble_eq_true rfl) (Nat.le_of_ble_eq_true rfl) dX12_init_172 (fun hz => ?_)
  refine v_putR fX12_245 rfl (fun _ => rfl) (fun _ => rfl) dX12_init_174 ?_
  have hz := Zr.put (b := 95) (f := 36) (x := 110) (by decide) hz
  refine r_aload_n (j := 0) rfl rfl dX12_init_177 ?_
  refine r_iconst (v := 5) rfl dX12_init_178 ?_
  refine v_newaI (M := 5) (N' := 112) (k' := 16) (n' := 997) rfl hz rfl rfl rfl (by decide) (by decide) (by decide) (by decide) (Nat.le_of_ble_eq_true rfl) (Nat.le_of_ble_eq_true rfl) dX12_init_179 (fun hz => ?_)
  refine v_putR fX12_110 rfl (fun _ => rfl) (fun _ => rfl) dX12_init_181 ?_
  have hz := Zr.put (b := 95) (f := 37) (x := 111) (by decide) hz
  refine r_aload_n (j := 0) rfl rfl dX12_init_184 ?_
  refine r_iconst (v := 5) rfl dX12_init_185 ?_
  refine v_newaI (M := 5) (N' := 113) (k' := 17) (n' := 1002) rfl hz rfl rfl rfl (by decide) (by decide) (by decide) (by decide) (Nat.le_of_ble_eq_true rfl) (Nat.le_of_ble_eq_true rfl) dX12_init_186 (fun hz => ?_)
  refine v_putR fX12_114 rfl (fun _ => rfl) (fun _ => rfl) dX12_init_188 ?_
  have hz := Zr.put (b := 95) (f := 38) (x := 112) (by decide) hz
  refine r_aload_n (j := 0) rfl rfl dX12_init_191 ?_
  refine r_iconst (v := 5) rfl dX12_init_192 ?_
  refine v_newaI (M := 5) (N' := 114) (k' := 18) (n' := 1007) rfl hz rfl rfl rfl (by decide) (by decide) (by decide) (by decide) (Nat.le_of_ble_eq_true rfl) (Nat.le_of_ble_eq_true rfl) dX12_init_193 (fun hz => ?_)
  refine v_putR fX12_117 rfl (fun _ => rfl) (fun _ => rfl) dX12_init_195 ?_
  have hz := Zr.put (b := 95) (f := 39) (x := 113) (by decide) hz
  refine r_aload_n (j := 0) rfl rfl dX12_init_198 ?_
  refine r_iconst (v := 5) rfl dX12_init_199 ?_
  refine v_newaI (M := 5) (N' := 115) (k' := 19) (n' := 1012) rfl hz rfl rfl rfl (by decide) (by decide) (by decide) (by decide) (Nat.le_of_ble_eq_true rfl) (Nat.le_of_ble_eq_true rfl) dX12_init_200 (fun hz => ?_)
  refine v_putR fX12_120 rfl (fun _ => rfl) (fun _ => rfl) dX12_init_202 ?_
  have hz := Zr.put (b := 95) (f := 40) (x := 114) (by decide) hz
  refine r_aload_n (j := 0) rfl rfl dX12_init_205 ?_
  refine r_bipush (v := 25) rfl dX12_init_206 ?_
  refine v_newaI (M := 25) (N' := 116) (k' := 20) (n' := 1037) rfl hz rfl rfl rfl (by decide) (by decide) (by decide) (by decide) (Nat.le_of_ble_eq_true rfl) (Nat.le_of_ble_eq_true rfl) dX12_init_208 (fun hz => ?_)
  refine v_putR fX12_141 rfl (fun _ => rfl) (fun _ => rfl) dX12_init_210 ?_
  have hz := Zr.put (b := 95) (f := 41) (x := 115) (by decide) hz
  refine r_aload_n (j := 0) rfl rfl dX12_init_213 ?_
  refine r_iconst (v := 4) rfl dX12_init_214 ?_
  refine v_newaI (M := 4) (N' := 117) (k' := 21) (n' := 1041) rfl hz rfl rfl rfl (by decide) (by decide) (by decide) (by decide) (Nat.le_of_ble_eq_true rfl) (Nat.le_of_ble_eq_true rfl) dX12_init_215 (fun hz => ?_)
  refine v_putR fX12_129 rfl (fun _ => rfl) (fun _ => rfl) dX12_init_217 ?_
  have hz := Zr.put (b := 95) (f := 42) (x := 116) (by decide) hz
  refine r_aload_n (j := 0) rfl rfl dX12_init_220 ?_
  refine r_iconst (v := 4) rfl dX12_init_221 ?_
  refine v_newaI (M := 4) (N' := 118) (k' := 22) (n' := 1045) rfl hz rfl rfl rfl (by decide) (by decide) (by decide) (by decide) (Nat.le_of_ble_eq_true rfl) (Nat.le_of_ble_eq_true rfl) dX12_init_222 (fun hz => ?_)
  refine v_putR fX12_132 rfl (fun _ => rfl) (fun _ => rfl) dX12_init_224 ?_
  have hz := Zr.put (b := 95) (f := 43) (x := 117) (by decide) hz
  refine r_aload_n (j := 0) rfl rfl dX12_init_227 ?_
  refine r_iconst (v := 4) rfl dX12_init_228 ?_
  refine v_newaI (M := 4) (N' := 119) (k' := 23) (n' := 1049) rfl hz rfl rfl rfl (by decide) (by decide) (by decide) (by decide) (Nat.le_of_ble_eq_true rfl) (Nat.le_of_ble_eq_true rfl) dX12_init_229 (fun hz => ?_)
  refine v_putR fX12_135 rfl (fun _ => rfl) (fun _ => rfl) dX12_init_231 ?_
  have hz := Zr.put (b := 95) (f := 44) (x := 118) (by decide) hz
  refine r_aload_n (j := 0) rfl rfl dX12_init_234 ?_
  refine r_iconst (v := 4) rfl dX12_init_235 ?_
  refine v_newaI (M := 4) (N' := 120) (k' := 24) (n' := 1053) rfl hz rfl rfl rfl (by decide) (by decide) (by decide) (by decide) (Nat.le_of_ble_eq_true rfl) (Nat.le_of_ble_eq_true rfl) dX12_init_236 (fun hz => ?_)
  refine v_putR fX12_150 rfl (fun _ => rfl) (fun _ => rfl) dX12_init_238 ?_
  have hz := Zr.put (b := 95) (f := 45) (x := 119) (by decide) hz
  refine r_aload_n (j := 0) rfl rfl dX12_init_241 ?_
  refine r_lconst (v := 1) rfl dX12_init_242 ?_
  refine v_putL fX12_248 rfl (rfl) (rfl) dX12_init_243 (fun J243 hJ243 => ?_)
  have hz := hz.lupx hJ243
  refine r_aload_n (j := 0) rfl rfl dX12_init_246 ?_
  refine r_iconst (v := 3) rfl dX12_init_247 ?_
  refine v_newaI (M := 3) (N' := 121) (k' := 25) (n' := 1056) rfl hz rfl rfl rfl (by decide) (by decide) (by decide) (by decide) (Nat.le_of_ble_eq_true rfl) (Nat.le_of_ble_eq_true rfl) dX12_init_248 (fun hz => ?_)
  refine v_putR fX12_252 rfl (fun _ => rfl) (fun _ => rfl) dX12_init_250 ?_
  have hz := Zr.put (b := 95) (f := 50) (x := 120) (by decide) hz
  refine r_aload_n (j := 0) rfl rfl dX12_init_253 ?_
  refine r_iconst (v := 3) rfl dX12_init_254 ?_
  refine v_newaI (M := 3) (N' := 122) (k' := 26) (n' := 1059) rfl hz rfl rfl rfl (by decide) (by decide) (by decide) (by decide) (Nat.le_of_ble_eq_true rfl) (Nat.le_of_ble_eq_true rfl) dX12_init_255 (fun hz => ?_)
  refine v_putR fX12_255 rfl (fun _ => rfl) (fun _ => rfl) dX12_init_257 ?_
  have hz := Zr.put (b := 95) (f := 51) (x := 121) (by decide) hz
  refine r_aload_n (j := 0) rfl rfl dX12_init_260 ?_
  refine r_iconst (v := 3) rfl dX12_init_261 ?_
  refine v_newaI (M := 3) (N' := 123) (k' := 27) (n' := 1062) rfl hz rfl rfl rfl (by decide) (by decide) (by decide) (by decide) (Nat.le_of_ble_eq_true rfl) (Nat.le_of_ble_eq_true rfl) dX12_init_262 (fun hz => ?_)
  refine v_putR fX12_258 rfl (fun _ => rfl) (fun _ => rfl) dX12_init_264 ?_
  have hz := Zr.put (b := 95) (f := 52) (x := 122) (by decide) hz
  refine r_aload_n (j := 0) rfl rfl dX12_init_267 ?_
  refine r_iconst (v := 3) rfl dX12_init_268 ?_
  refine v_newaI (M := 3) (N' := 124) (k' := 28) (n' := 1065) rfl hz rfl rfl rfl (by decide) (by decide) (by decide) (by decide) (Nat.le_of_ble_eq_true rfl) (Nat.le_of_ble_eq_true rfl) dX12_init_269 (fun hz => ?_)
  refine v_putR fX12_261 rfl (fun _ => rfl) (fun _ => rfl) dX12_init_271 ?_
  have hz := Zr.put (b := 95) (f := 53) (x := 123) (by decide) hz
  refine r_aload_n (j := 0) rfl rfl dX12_init_274 ?_
  refine r_iconst (v := 3) rfl dX12_init_275 ?_
  refine v_newaI (M := 3) (N' := 125) (k' := 29) (n' := 1068) rfl hz rfl rfl rfl (by decide) (by decide) (by decide) (by decide) (Nat.le_of_ble_eq_true rfl) (Nat.le_of_ble_eq_true rfl) dX12_init_276 (fun hz => ?_)
  refine v_putR fX12_264 rfl (fun _ => rfl) (fun _ => rfl) dX12_init_278 ?_
  have hz := Zr.put (b := 95) (f := 54) (x := 124) (by decide) hz
  refine r_aload_n (j := 0) rfl rfl dX12_init_281 ?_
  refine r_iconst (v := 5) rfl dX12_init_282 ?_
  refine v_newaI (M := 5) (N' := 126) (k' := 30) (n' := 1073) rfl hz rfl rfl rfl (by decide) (by decide) (by decide) (by decide) (Nat.le_of_ble_eq_true rfl) (Nat.le_of_ble_eq_true rfl) dX12_init_283 (fun hz => ?_)
  refine v_putR fX12_267 rfl (fun _ => rfl) (fun _ => rfl) dX12_init_285 ?_
  have hz := Zr.put (b := 95) (f := 55) (x := 125) (by decide) hz
  refine r_aload_n (j := 0) rfl rfl dX12_init_288 ?_
  refine r_iconst (v := 4) rfl dX12_init_289 ?_
  refine v_newaI (M := 4) (N' := 127) (k' := 31) (n' := 1077) rfl hz rfl rfl rfl (by decide) (by decide) (by decide) (by decide) (Nat.le_of_ble_eq_true rfl) (Nat.le_of_ble_eq_true rfl) dX12_init_290 (fun hz => ?_)
  refine v_putR fX12_269 rfl (fun _ => rfl) (fun _ => rfl) dX12_init_292 ?_
  have hz := Zr.put (b := 95) (f := 56) (x := 126) (by decide) hz
  refine r_aload_n (j := 0) rfl rfl dX12_init_295 ?_
  refine r_bipush (v := 52) rfl dX12_init_296 ?_
  refine v_newaI (M := 52) (N' := 128) (k' := 32) (n' := 1129) rfl hz rfl rfl rfl (by decide) (by decide) (by decide) (by decide) (Nat.le_of_ble_eq_true rfl) (Nat.le_of_ble_eq_true rfl) dX12_init_298 (fun hz => ?_)
  refine v_putR fX12_272 rfl (fun _ => rfl) (fun _ => rfl) dX12_init_300 ?_
  have hz := Zr.put (b := 95) (f := 57) (x := 127) (by decide) hz
  refine r_aload_n (j := 0) rfl rfl dX12_init_303 ?_
  refine r_iconst (v := 2) rfl dX12_init_304 ?_
  refine v_newaL (M := 2) (N' := 129) (k' := 33) (n' := 1131) rfl hz rfl rfl rfl (by decide) (by decide) (by decide) (by decide) (Nat.le_of_ble_eq_true rfl) (Nat.le_of_ble_eq_true rfl) dX12_init_305 (fun hz => ?_)
  refine v_putR fX12_275 rfl (fun _ => rfl) (fun _ => rfl) dX12_init_307 ?_
  have hz := Zr.put (b := 95) (f := 58) (x := 128) (by decide) hz
  refine r_aload_n (j := 0) rfl rfl dX12_init_310 ?_
  refine r_iconst (v := 2) rfl dX12_init_311 ?_
  refine v_newaZ (M := 2) (N' := 130) (k' := 34) (n' := 1133) rfl hz rfl rfl rfl (by decide) (by decide) (by decide) (by decide) (Nat.le_of_ble_eq_true rfl) (Nat.le_of_ble_eq_true rfl) dX12_init_312 (fun hz => ?_)
  refine v_putR fX12_278 rfl (fun _ => rfl) (fun _ => rfl) dX12_init_314 ?_
  have hz := Zr.put (b := 95) (f := 59) (x := 129) (by decide) hz
  refine r_aload_n (j := 0) rfl rfl dX12_init_317 ?_
  refine r_iconst (v := 5) rfl dX12_init_318 ?_
  refine v_newaI (M := 5) (N' := 131) (k' := 35) (n' := 1138) rfl hz rfl rfl rfl (by decide) (by decide) (by decide) (by decide) (Nat.le_of_ble_eq_true rfl) (Nat.le_of_ble_eq_true rfl) dX12_init_319 (fun hz => ?_)
  refine v_putR fX12_282 rfl (fun _ => rfl) (fun _ => rfl) dX12_init_321 ?_
  have hz := Zr.put (b := 95) (f := 60) (x := 130) (by decide) hz
  refine r_aload_n (j := 0) rfl rfl dX12_init_324 ?_
  refine r_iconst (v := 5) rfl dX12_init_325 ?_
  refine v_newaI (M := 5) (N' := 132) (k' := 36) (n' := 1143) rfl hz rfl rfl rfl (by decide) (by decide) (by decide) (by decide) (Nat.le_of_ble_eq_true rfl) (Nat.le_of_ble_eq_true rfl) dX12_init_326 (fun hz => ?_)
  refine v_putR fX12_285 rfl (fun _ => rfl) (fun _ => rfl) dX12_init_328 ?_
  have hz := Zr.put (b := 95) (f := 61) (x := 131) (by decide) hz
  refine r_aload_n (j := 0) rfl rfl dX12_init_331 ?_
  refine r_bipush (v := 10) rfl dX12_init_332 ?_
  refine v_newaI (M := 10) (N' := 133) (k' := 37) (n' := 1153) rfl hz rfl rfl rfl (by decide) (by decide) (by decide) (by decide) (Nat.le_of_ble_eq_true rfl) (Nat.le_of_ble_eq_true rfl) dX12_init_334 (fun hz => ?_)
  refine v_putR fX12_288 rfl (fun _ => rfl) (fun _ => rfl) dX12_init_336 ?_
  have hz := Zr.put (b := 95) (f := 62) (x := 132) (by decide) hz
  refine r_aload_n (j := 0) rfl rfl dX12_init_339 ?_
  refine r_bipush (v := 10) rfl dX12_init_340 ?_
  refine v_newaI (M := 10) (N' := 134) (k' := 38) (n' := 1163) rfl hz rfl rfl rfl (by decide) (by decide) (by decide) (by decide) (Nat.le_of_ble_eq_true rfl) (Nat.le_of_ble_eq_true rfl) dX12_init_342 (fun hz => ?_)
  refine v_putR fX12_291 rfl (fun _ => rfl) (fun _ => rfl) dX12_init_344 ?_
  have hz := Zr.put (b := 95) (f := 63) (x := 133) (by decide) hz
  refine r_aload_n (j := 0) rfl rfl dX12_init_347 ?_
  refine r_iconst (v := 5) rfl dX12_init_348 ?_
  refine v_newaI (M := 5) (N' := 135) (k' := 39) (n' := 1168) rfl hz rfl rfl rfl (by decide) (by decide) (by decide) (by decide) (Nat.le_of_ble_eq_true rfl) (Nat.le_of_ble_eq_true rfl) dX12_init_349 (fun hz => ?_)
  refine v_putR fX12_294 rfl (fun _ => rfl) (fun _ => rfl) dX12_init_351 ?_
  have hz := Zr.put (b := 95) (f := 64) (x := 134) (by decide) hz
  refine r_aload_n (j := 0) rfl rfl dX12_init_354 ?_
  refine r_bipush (v := 15) rfl dX12_init_355 ?_
  refine v_newaZ (M := 15) (N' := 136) (k' := 40) (n' := 1183) rfl hz rfl rfl rfl (by decide) (by decide) (by decide) (by decide) (Nat.le_of_ble_eq_true rfl) (Nat.le_of_ble_eq_true rfl) dX12_init_357 (fun hz => ?_)
  refine v_putR fX12_297 rfl (fun _ => rfl) (fun _ => rfl) dX12_init_359 ?_
  have hz := Zr.put (b := 95) (f := 66) (x := 135) (by decide) hz
  refine r_aload_n (j := 0) rfl rfl dX12_init_362 ?_
  refine r_bipush (v := 10) rfl dX12_init_363 ?_
  refine v_newaI (M := 10) (N' := 137) (k' := 41) (n' := 1193) rfl hz rfl rfl rfl (by decide) (by decide) (by decide) (by decide) (Nat.le_of_ble_eq_true rfl) (Nat.le_of_ble_eq_true rfl) dX12_init_365 (fun hz => ?_)
  refine v_putR fX12_300 rfl (fun _ => rfl) (fun _ => rfl) dX12_init_367 ?_
  have hz := Zr.put (b := 95) (f := 67) (x := 136) (by decide) hz
  refine r_aload_n (j := 0) rfl rfl dX12_init_370 ?_
  refine r_bipush (v := 16) rfl dX12_init_371 ?_
  refine v_newaI (M := 16) (N' := 138) (k' := 42) (n' := 1209) rfl hz rfl rfl rfl (by decide) (by decide) (by decide) (by decide) (Nat.le_of_ble_eq_true rfl) (Nat.le_of_ble_eq_true rfl) dX12_init_373 (fun hz => ?_)
  refine v_putR fX12_303 rfl (fun _ => rfl) (fun _ => rfl) dX12_init_375 ?_
  have hz := Zr.put (b := 95) (f := 73) (x := 137) (by decide) hz
  refine r_aload_n (j := 0) rfl rfl dX12_init_378 ?_
  refine r_bipush (v := 16) rfl dX12_init_379 ?_
  refine v_newaI (M := 16) (N' := 139) (k' := 43) (n' := 1225) rfl hz rfl rfl rfl (by decide) (by decide) (by decide) (by decide) (Nat.le_of_ble_eq_true rfl) (Nat.le_of_ble_eq_true rfl) dX12_init_381 (fun hz => ?_)
  refine v_putR fX12_306 rfl (fun _ => rfl) (fun _ => rfl) dX12_init_383 ?_
  have hz := Zr.put (b := 95) (f := 74) (x := 138) (by decide) hz
  refine r_aload_n (j := 0) rfl rfl dX12_init_386 ?_
  refine r_bipush (v := 16) rfl dX12_init_387 ?_
  refine v_newaI (M := 16) (N' := 140) (k' := 44) (n' := 1241) rfl hz rfl rfl rfl (by decide) (by decide) (by decide) (by decide) (Nat.le_of_ble_eq_true rfl) (Nat.le_of_ble_eq_true rfl) dX12_init_389 (fun hz => ?_)
  refine v_putR fX12_309 rfl (fun _ => rfl) (fun _ => rfl) dX12_init_391 ?_
  have hz := Zr.put (b := 95) (f := 75) (x := 139) (by decide) hz
  refine r_aload_n (j := 0) rfl rfl dX12_init_394 ?_
  refine r_bipush (v := 16) rfl dX12_init_395 ?_
  refine v_newaI (M := 16) (N' := 141) (k' := 45) (n' := 1257) rfl hz rfl rfl rfl (by decide) (by decide) (by decide) (by decide) (Nat.le_of_ble_eq_true rfl) (Nat.le_of_ble_eq_true rfl) dX12_init_397 (fun hz => ?_)
  refine v_putR fX12_312 rfl (fun _ => rfl) (fun _ => rfl) dX12_init_399 ?_
  have hz := Zr.put (b := 95) (f := 76) (x := 140) (by decide) hz
  refine r_aload_n (j := 0) rfl rfl dX12_init_402 ?_
  refine r_bipush (v := 20) rfl dX12_init_403 ?_
  refine v_newaI (M := 20) (N' := 142) (k' := 46) (n' := 1277) rfl hz rfl rfl rfl (by decide) (by decide) (by decide) (by decide) (Nat.le_of_ble_eq_true rfl) (Nat.le_of_ble_eq_true rfl) dX12_init_405 (fun hz => ?_)
  refine v_putR fX12_315 rfl (fun _ => rfl) (fun _ => rfl) dX12_init_407 ?_
  have hz := Zr.put (b := 95) (f := 77) (x := 141) (by decide) hz
  refine r_aload_n (j := 0) rfl rfl dX12_init_410 ?_
  refine r_bipush (v := 20) rfl dX12_init_411 ?_
  refine v_newaI (M := 20) (N' := 143) (k' := 47) (n' := 1297) rfl hz rfl rfl rfl (by decide) (by decide) (by decide) (by decide) (Nat.le_of_ble_eq_true rfl) (Nat.le_of_ble_eq_true rfl) dX12_init_413 (fun hz => ?_)
  refine v_putR fX12_318 rfl (fun _ => rfl) (fun _ => rfl) dX12_init_415 ?_
  have hz := Zr.put (b := 95) (f := 78) (x := 142) (by decide) hz
  refine r_aload_n (j := 0) rfl rfl dX12_init_418 ?_
  refine r_bipush (v := 20) rfl dX12_init_419 ?_
  refine v_newaI (M := 20) (N' := 144) (k' := 48) (n' := 1317) rfl hz rfl rfl rfl (by decide) (by decide) (by decide) (by decide) (Nat.le_of_ble_eq_true rfl) (Nat.le_of_ble_eq_true rfl) dX12_init_421 (fun hz => ?_)
  refine v_putR fX12_321 rfl (fun _ => rfl) (fun _ => rfl) dX12_init_423 ?_
  have hz := Zr.put (b := 95) (f := 79) (x := 143) (by decide) hz
  refine r_aload_n (j := 0) rfl rfl dX12_init_426 ?_
  refine r_bipush (v := 8) rfl dX12_init_427 ?_
  refine v_newaI (M := 8) (N' := 145) (k' := 49) (n' := 1325) rfl hz rfl rfl rfl (by decide) (by decide) (by decide) (by decide) (Nat.le_of_ble_eq_true rfl) (Nat.le_of_ble_eq_true rfl) dX12_init_429 (fun hz => ?_)
  refine v_putR fX12_324 rfl (fun _ => rfl) (fun _ => rfl) dX12_init_431 ?_
  have hz := Zr.put (b := 95) (f := 85) (x := 144) (by decide) hz
  refine r_aload_n (j := 0) rfl rfl dX12_init_434 ?_
  refine r_iconst (v := 5) rfl dX12_init_435 ?_
  refine v_newaI (M := 5) (N' := 146) (k' := 50) (n' := 1330) rfl hz rfl rfl rfl (by decide) (by decide) (by decide) (by decide) (Nat.le_of_ble_eq_true rfl) (Nat.le_of_ble_eq_true rfl) dX12_init_436 (fun hz => ?_)
  refine v_putR fX12_327 rfl (fun _ => rfl) (fun _ => rfl) dX12_init_438 ?_
  have hz := Zr.put (b := 95) (f := 86) (x := 145) (by decide) hz
  refine r_aload_n (j := 0) rfl rfl dX12_init_441 ?_
  refine r_iconst (v := 5) rfl dX12_init_442 ?_
  refine v_newaI (M := 5) (N' := 147) (k' := 51) (n' := 1335) rfl hz rfl rfl rfl (by decide) (by decide) (by decide) (by decide) (Nat.le_of_ble_eq_true rfl) (Nat.le_of_ble_eq_true rfl) dX12_init_443 (fun hz => ?_)
  refine v_putR fX12_330 rfl (fun _ => rfl) (fun _ => rfl) dX12_init_445 ?_
  have hz := Zr.put (b := 95) (f := 87) (x := 146) (by decide) hz
  refine r_aload_n (j := 0) rfl rfl dX12_init_448 ?_
  refine r_sipush (v := 256) rfl dX12_init_449 ?_
  refine v_newaI (M := 256) (N' := 148) (k' := 52) (n' := 1591) rfl hz rfl rfl rfl (by decide) (by decide) (by decide) (by decide) (Nat.le_of_ble_eq_true rfl) (Nat.le_of_ble_eq_true rfl) dX12_init_452 (fun hz => ?_)
  refine v_putR fX12_333 rfl (fun _ => rfl) (fun _ => rfl) dX12_init_454 ?_
  have hz := Zr.put (b := 95) (f := 88) (x := 147) (by decide) hz
  refine r_aload_n (j := 0) rfl rfl dX12_init_457 ?_
  refine r_bipush (v := 8) rfl dX12_init_458 ?_
  refine v_newaI (M := 8) (N' := 149) (k' := 53) (n' := 1599) rfl hz rfl rfl rfl (by decide) (by decide) (by decide) (by decide) (Nat.le_of_ble_eq_true rfl) (Nat.le_of_ble_eq_true rfl) dX12_init_460 (fun hz => ?_)
  refine v_putR fX12_336 rfl (fun _ => rfl) (fun _ => rfl) dX12_init_462 ?_
  have hz := Zr.put (b := 95) (f := 89) (x := 148) (by decide) hz
  refine r_aload_n (j := 0) rfl rfl dX12_init_465 ?_
  refine r_bipush (v := 8) rfl dX12_init_466 ?_
  refine v_newaI (M := 8) (N' := 150) (k' := 54) (n' := 1607) rfl hz rfl rfl rfl (by decide) (by decide) (by decide) (by decide) (Nat.le_of_ble_eq_true rfl) (Nat.le_of_ble_eq_true rfl) dX12_init_468 (fun hz => ?_)
  refine v_putR fX12_339 rfl (fun _ => rfl) (fun _ => rfl) dX12_init_470 ?_
  have hz := Zr.put (b := 95) (f := 90) (x := 149) (by decide) hz
  refine r_aload_n (j := 0) rfl rfl dX12_init_473 ?_
  refine r_bipush (v := 30) rfl dX12_init_474 ?_
  refine v_newaI (M := 30) (N' := 151) (k' := 55) (n' := 1637) rfl hz rfl rfl rfl (by decide) (by decide) (by decide) (by decide) (Nat.le_of_ble_eq_true rfl) (Nat.le_of_ble_eq_true rfl) dX12_init_476 (fun hz => ?_)
  refine v_putR fX12_342 rfl (fun _ => rfl) (fun _ => rfl) dX12_init_478 ?_
  have hz := Zr.put (b := 95) (f := 93) (x := 150) (by decide) hz
  refine v_vret rfl (Nat.le_of_ble_eq_true rfl) (Nat.le_of_ble_eq_true rfl) dX12_init_481 ?_
  subst hJ243 hJ80 hJ75 hJ70 hJ64 hJ60 hJ54 hJ49 hJ44 hJ39 hJ26 hJ21 hJ15
  exact ⟨rfl, rfl, rfl⟩
theorem z_X12_init_95 (_ : Zr 96 I L l) : True := trivial
end
