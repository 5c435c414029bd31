/-! the model: shift, gone, count, told -/
section
variable {sc : Sc} {I : Is} {L : Ls} {tg : Nat}
def shW (J : Is) (t : Nat) (x : Int32) (f : Bool) : Is := if f then up J 124 t (J 124 t + 1) else up J 121 t (J 121 t + x)
theorem l_X12_sh2 {t m x3 x4 x5 x6 : Int32} {tn : Nat} {f : Bool} (e6 : x6 = if f then 1 else 0) (et : t.toInt = tn) (h3 : tn < 3) : RR sc mX12_shift 2 0 0 (rI (shW I tn x5 f 121 tn) (XW (shW I tn x5 f) L tg)) 0 0 191 [(6, .int x6), (5, .int x5), (4, .int x4), (3, .int x3), (0, .ref 95), (1, .int t), (2, .int m)] [] (XW I L tg) := by
  have ct := cl_of et
  have hin := up_in et h3
  cases f with
  | false =>
    have e6 : x6 = 0 := e6
    refine r_iload (j := 0) rfl dX12_shift_191 ?_
    refine r_if_eq (tgt := 209) dX12_shift_193 (by decide) (fun c193 => ?_) (fun c193 => ?_)
    · refine r_aload_n (j := 4) rfl rfl dX12_shift_209 ?_
      refine w_getR (b := 121) fX12_255 rfl rfl dX12_shift_210 ?_
      refine r_iload_n (j := 5) rfl rfl dX12_shift_213 ?_
      refine r_dup2 rfl rfl dX12_shift_214 ?_
      refine w_iald rfl (by first | assumption | (rw [vp_in_iff]; ((try simp only [bI_0, bI_1, lc_lt, lc_gt, lc_le, lc_ge, Classical.not_not] at *); (try simp only [i_lt, i_le, i_eq, l_lt, l_le, l_eq, Int32.toInt_toInt64, Int32.reduceToInt, Int64.reduceToInt] at *); omega))) dX12_shift_215 ?_
      refine r_iload (j := 1) rfl dX12_shift_216 ?_
      refine r_iadd dX12_shift_218 ?_
      refine w_iast rfl (by first | assumption | (rw [vp_in_iff]; ((try simp only [bI_0, bI_1, lc_lt, lc_gt, lc_le, lc_ge, Classical.not_not] at *); (try simp only [i_lt, i_le, i_eq, l_lt, l_le, l_eq, Int32.toInt_toInt64, Int32.reduceToInt, Int64.reduceToInt] at *); omega))) dX12_shift_219 (fun J219 hJ219 => ?_)
      refine r_aload_n (j := 4) rfl rfl dX12_shift_220 ?_
      refine w_getR (b := 121) fX12_255 rfl rfl dX12_shift_221 ?_
      refine r_iload_n (j := 5) rfl rfl dX12_shift_224 ?_
      refine w_iald rfl (by first | assumption | (rw [vp_in_iff]; ((try simp only [bI_0, bI_1, lc_lt, lc_gt, lc_le, lc_ge, Classical.not_not] at *); (try simp only [i_lt, i_le, i_eq, l_lt, l_le, l_eq, Int32.toInt_toInt64, Int32.reduceToInt, Int64.reduceToInt] at *); omega))) dX12_shift_225 ?_
      refine w_iret rfl (rfl) (Nat.le_of_ble_eq_true rfl) (Nat.le_of_ble_eq_true rfl) dX12_shift_226 ?_
      subst hJ219; exact ⟨by simp [shW, up_eq, vu_eq, ct], by simp [shW, ct], rfl, rfl⟩
    · exact absurd e6 c193
  | true =>
    have e6 : x6 = 1 := e6
    refine r_iload (j := 0) rfl dX12_shift_191 ?_
    refine r_if_eq (tgt := 209) dX12_shift_193 (by decide) (fun c193 => ?_) (fun c193 => ?_)
    · rw [e6] at c193; exact absurd c193 (by decide)
    · refine r_aload_n (j := 4) rfl rfl dX12_shift_196 ?_
      refine w_getR (b := 124) fX12_264 rfl rfl dX12_shift_197 ?_
      refine r_iload_n (j := 5) rfl rfl dX12_shift_200 ?_
      refine r_dup2 rfl rfl dX12_shift_201 ?_
      refine w_iald rfl (by first | assumption | (rw [vp_in_iff]; ((try simp only [bI_0, bI_1, lc_lt, lc_gt, lc_le, lc_ge, Classical.not_not] at *); (try simp only [i_lt, i_le, i_eq, l_lt, l_le, l_eq, Int32.toInt_toInt64, Int32.reduceToInt, Int64.reduceToInt] at *); omega))) dX12_shift_202 ?_
      refine r_iconst (v := 1) rfl dX12_shift_203 ?_
      refine r_iadd dX12_shift_204 ?_
      refine w_iast rfl (by first | assumption | (rw [vp_in_iff]; ((try simp only [bI_0, bI_1, lc_lt, lc_gt, lc_le, lc_ge, Classical.not_not] at *); (try simp only [i_lt, i_le, i_eq, l_lt, l_le, l_eq, Int32.toInt_toInt64, Int32.reduceToInt, Int64.reduceToInt] at *); omega))) dX12_shift_205 (fun J205 hJ205 => ?_)
      refine r_goto (tgt := 220) dX12_shift_206 (by decide) ?_
      refine r_aload_n (j := 4) rfl rfl dX12_shift_220 ?_
      refine w_getR (b := 121) fX12_255 rfl rfl dX12_shift_221 ?_
      refine r_iload_n (j := 5) rfl rfl dX12_shift_224 ?_
      refine w_iald rfl (by first | assumption | (rw [vp_in_iff]; ((try simp only [bI_0, bI_1, lc_lt, lc_gt, lc_le, lc_ge, Classical.not_not] at *); (try simp only [i_lt, i_le, i_eq, l_lt, l_le, l_eq, Int32.toInt_toInt64, Int32.reduceToInt, Int64.reduceToInt] at *); omega))) dX12_shift_225 ?_
      refine w_iret rfl (rfl) (Nat.le_of_ble_eq_true rfl) (Nat.le_of_ble_eq_true rfl) dX12_shift_226 ?_
      subst hJ205; exact ⟨by simp [shW, up_eq, ct], by simp [shW, ct], rfl, rfl⟩
def mg1 (J : Is) (t : Nat) (x : Int32) : Is := up (up (up J 95 49 (J 95 49 + x * J 97 5)) 125 (J 120 t).toNatClampNeg (J 125 (J 120 t).toNatClampNeg + x * J 97 2)) 123 t (J 123 t + 1)
def mgF (J : Is) (K : Ls) : Prop := 0 < J 97 8 ∧ dvl (dnx (K 95 47)) 100 < J 97 8
def mgL (J : Is) (K : Ls) : Ls := if 0 < J 97 8 then up K 95 47 (dnx (K 95 47)) else K
theorem l_X12_sh1 {t m x3 x4 x5 : Int32} {tn hn : Nat} {f : Bool} (hf : f = true ↔ mgF I L) (et : t.toInt = tn) (h3 : tn < 3) (eh : (I 120 tn).toInt = hn) (hh : hn < 5) : RR sc mX12_shift 2 0 0 (rI (shW (mg1 I tn x5) tn x5 f 121 tn) (XW (shW (mg1 I tn x5) tn x5 f) (mgL I L) tg)) 0 0 107 [(5, .int x5), (4, .int x4), (3, .int x3), (0, .ref 95), (1, .int t), (2, .int m)] [] (XW I L tg) := by
  have ct := cl_of et
  have hin := up_in et h3
  have hih := up_in eh hh
  have ch := cl_of eh
  refine r_aload_n (j := 3) rfl rfl dX12_shift_107 ?_
  refine r_dup rfl dX12_shift_108 ?_
  refine w_getI fX12_373 rfl dX12_shift_109 ?_
  refine r_iload (j := 0) rfl dX12_shift_112 ?_
  refine r_aload_n (j := 3) rfl rfl dX12_shift_114 ?_
  refine w_getR (b := 97) fX12_219 rfl rfl dX12_shift_115 ?_
  refine r_iconst (v := 5) rfl dX12_shift_118 ?_
  refine w_iald rfl (by first | assumption | (rw [vp_in_iff]; ((try simp only [bI_0, bI_1, lc_lt, lc_gt, lc_le, lc_ge, Classical.not_not] at *); (try simp only [i_lt, i_le, i_eq, l_lt, l_le, l_eq, Int32.toInt_toInt64, Int32.reduceToInt, Int64.reduceToInt] at *); omega))) dX12_shift_119 ?_
  refine r_imul dX12_shift_120 ?_
  refine r_iadd dX12_shift_121 ?_
  refine w_putI fX12_373 rfl (rfl) (rfl) dX12_shift_122 (fun J122 hJ122 => ?_)
  refine r_aload_n (j := 3) rfl rfl dX12_shift_125 ?_
  refine w_getR (b := 125) fX12_267 rfl rfl dX12_shift_126 ?_
  refine r_aload_n (j := 3) rfl rfl dX12_shift_129 ?_
  refine w_getR (b := 120) fX12_252 rfl rfl dX12_shift_130 ?_
  refine r_iload_n (j := 4) rfl rfl dX12_shift_133 ?_
  refine w_iald rfl (by first | assumption | (rw [vp_in_iff]; ((try simp only [bI_0, bI_1, lc_lt, lc_gt, lc_le, lc_ge, Classical.not_not] at *); (try simp only [i_lt, i_le, i_eq, l_lt, l_le, l_eq, Int32.toInt_toInt64, Int32.reduceToInt, Int64.reduceToInt] at *); omega))) dX12_shift_134 ?_
  refine r_dup2 rfl rfl dX12_shift_135 ?_
  refine w_iald rfl (by subst hJ122; simpa [up_eq, vu_eq, ct] using hih) dX12_shift_136 ?_
  refine r_iload (j := 0) rfl dX12_shift_137 ?_
  refine r_aload_n (j := 3) rfl rfl dX12_shift_139 ?_
  refine w_getR (b := 97) fX12_219 rfl rfl dX12_shift_140 ?_
  refine r_iconst (v := 2) rfl dX12_shift_143 ?_
  refine w_iald rfl (by first | assumption | (rw [vp_in_iff]; ((try simp only [bI_0, bI_1, lc_lt, lc_gt, lc_le, lc_ge, Classical.not_not] at *); (try simp only [i_lt, i_le, i_eq, l_lt, l_le, l_eq, Int32.toInt_toInt64, Int32.reduceToInt, Int64.reduceToInt] at *); omega))) dX12_shift_144 ?_
  refine r_imul dX12_shift_145 ?_
  refine r_iadd dX12_shift_146 ?_
  refine w_iast rfl (by subst hJ122; simpa [up_eq, vu_eq, ct] using hih) dX12_shift_147 (fun J147 hJ147 => ?_)
  refine r_aload_n (j := 3) rfl rfl dX12_shift_148 ?_
  refine w_getR (b := 123) fX12_261 rfl rfl dX12_shift_149 ?_
  refine r_iload_n (j := 4) rfl rfl dX12_shift_152 ?_
  refine r_dup2 rfl rfl dX12_shift_153 ?_
  refine w_iald rfl (by first | assumption | (rw [vp_in_iff]; ((try simp only [bI_0, bI_1, lc_lt, lc_gt, lc_le, lc_ge, Classical.not_not] at *); (try simp only [i_lt, i_le, i_eq, l_lt, l_le, l_eq, Int32.toInt_toInt64, Int32.reduceToInt, Int64.reduceToInt] at *); omega))) dX12_shift_154 ?_
  refine r_iconst (v := 1) rfl dX12_shift_155 ?_
  refine r_iadd dX12_shift_156 ?_
  refine w_iast rfl (by first | assumption | (rw [vp_in_iff]; ((try simp only [bI_0, bI_1, lc_lt, lc_gt, lc_le, lc_ge, Classical.not_not] at *); (try simp only [i_lt, i_le, i_eq, l_lt, l_le, l_eq, Int32.toInt_toInt64, Int32.reduceToInt, Int64.reduceToInt] at *); omega))) dX12_shift_157 (fun J157 hJ157 => ?_)
  have eW : J157 = mg1 I tn x5 := by { subst hJ157 hJ147 hJ122; unfold mg1; simp [up_eq, vu_eq, ct] }
  refine r_aload_n (j := 3) rfl rfl dX12_shift_158 ?_
  refine w_getR (b := 97) fX12_219 rfl rfl dX12_shift_159 ?_
  refine r_bipush (v := 8) rfl dX12_shift_162 ?_
  refine w_iald rfl (by first | assumption | (rw [vp_in_iff]; ((try simp only [bI_0, bI_1, lc_lt, lc_gt, lc_le, lc_ge, Classical.not_not] at *); (try simp only [i_lt, i_le, i_eq, l_lt, l_le, l_eq, Int32.toInt_toInt64, Int32.reduceToInt, Int64.reduceToInt] at *); omega))) dX12_shift_164 ?_
  have e8 : J157 97 8 = I 97 8 := by { rw [eW]; simp [mg1, up_eq] }
  refine r_if_le (tgt := 188) dX12_shift_165 (by decide) (fun c165 => ?_) (fun c165 => ?_)
  · refine r_iconst (v := 0) rfl dX12_shift_188 ?_
    refine r_istore (lv' := fun z => [(6, .int z), (5, .int x5), (4, .int x4), (3, .int x3), (0, .ref 95), (1, .int t), (2, .int m)]) dX12_shift_189 (Nat.le_of_ble_eq_true rfl) (fun _ => rfl) (fun x6_189 ex6_189 => ?_)
    have c : ¬ 0 < I 97 8 := by rw [← e8]; exact Int32.not_lt.mpr c165
    have hq : f = false := by cases f with | false => rfl | true => exact absurd (hf.mp rfl).1 c
    have hL : mgL I L = L := if_neg c
    rw [hL, ← eW]
    exact l_X12_sh2 (by rw [hq]; exact ex6_189) et h3
  · refine r_aload_n (j := 3) rfl rfl dX12_shift_168 ?_
    refine r_bipush (v := 100) rfl dX12_shift_169 ?_
    refine w_cV1s (k_X12_draw (by decide)) (Nat.le_of_ble_eq_true rfl) lX12_436 vmX12_draw rfl (Nat.le_of_ble_eq_true rfl) (Nat.le_of_ble_eq_true rfl) (Nat.le_of_ble_eq_true rfl) dX12_shift_171 (fun J171 K171 hJ171 hK171 => ?_)
    subst hK171
    have e8b : J171 97 8 = I 97 8 := by { rw [hJ171]; exact e8 }
    refine r_aload_n (j := 3) rfl rfl dX12_shift_174 ?_
    refine w_getR (b := 97) fX12_219 rfl rfl dX12_shift_175 ?_
    refine r_bipush (v := 8) rfl dX12_shift_178 ?_
    refine w_iald rfl (by first | assumption | (rw [vp_in_iff]; ((try simp only [bI_0, bI_1, lc_lt, lc_gt, lc_le, lc_ge, Classical.not_not] at *); (try simp only [i_lt, i_le, i_eq, l_lt, l_le, l_eq, Int32.toInt_toInt64, Int32.reduceToInt, Int64.reduceToInt] at *); omega))) dX12_shift_180 ?_
    refine r_icmp_ge (tgt := 188) dX12_shift_181 (by decide) (fun c181 => ?_) (fun c181 => ?_)
    · refine r_iconst (v := 0) rfl dX12_shift_188 ?_
      refine r_istore (lv' := fun z => [(6, .int z), (5, .int x5), (4, .int x4), (3, .int x3), (0, .ref 95), (1, .int t), (2, .int m)]) dX12_shift_189 (Nat.le_of_ble_eq_true rfl) (fun _ => rfl) (fun x6_189 ex6_189 => ?_)
      have c : 0 < I 97 8 := by rw [← e8]; exact Int32.not_le.mp c165
      have hq : f = false := by
        cases f with
        | false => rfl
        | true => exact absurd (hf.mp rfl).2 (by rw [← e8b]; exact Int32.not_lt.mpr c181)
      have hL : mgL I L = up L 95 47 (dnx (L 95 47)) := if_pos c
      rw [hL, ← eW, ← hJ171]
      exact l_X12_sh2 (by rw [hq]; exact ex6_189) et h3
    · refine r_iconst (v := 1) rfl dX12_shift_184 ?_
      refine r_goto (tgt := 189) dX12_shift_185 (by decide) ?_
      refine r_istore (lv' := fun z => [(6, .int z), (5, .int x5), (4, .int x4), (3, .int x3), (0, .ref 95), (1, .int t), (2, .int m)]) dX12_shift_189 (Nat.le_of_ble_eq_true rfl) (fun _ => rfl) (fun x6_189 ex6_189 => ?_)
      have c : 0 < I 97 8 := by rw [← e8]; exact Int32.not_le.mp c165
      have hq : f = true := hf.mpr ⟨c, by rw [← e8b]; exact Int32.not_le.mp c181⟩
      have hL : mgL I L = up L 95 47 (dnx (L 95 47)) := if_pos c
      rw [hL, ← eW, ← hJ171]
      exact l_X12_sh2 (by rw [hq]; exact ex6_189) et h3
def mdA (I : Is) (t : Nat) (m : Int32) : Int32 := I 122 t + iMax 0 (m - I 121 t / I 97 6) * I 97 7
def mdD (I : Is) (t : Nat) (m : Int32) : Int32 := if I 97 5 ≤ 0 then mdA I t m / 10 else iMin (mdA I t m / 10) (bMd I / I 97 5)
def mg0 (I : Is) (t : Nat) (m : Int32) : Is := up I 122 t (mdA I t m - mdA I t m / 10 * 10)
def mgI (I : Is) (t : Nat) (m : Int32) (f : Bool) : Is := shW (mg1 (mg0 I t m) t (mdD I t m)) t (mdD I t m) f
def shC (I : Is) (t m : Int32) : Prop := (0 ≤ t.toInt ∧ t.toInt < (I 95 48).toInt) ∧ 1 ≤ m.toInt ∧ m.toInt ≤ 99
theorem k_X12_shift_r {t m : Int32} (hc : ¬ shC I t m) : Con sc mX12_shift 2 0 0 [.ref 95, .int t, .int m] (XW I L tg) (rI (-2) (XW I L tg)) := by
  refine Con_of (by decide) (Nat.le_of_ble_eq_true rfl) ?_
  refine r_aload_n (j := 0) rfl rfl dX12_shift_0 ?_
  refine r_iload_n (j := 1) rfl rfl dX12_shift_1 ?_
  refine w_cV1p (k_X12_isTunnel) (Nat.le_of_ble_eq_true rfl) lX12_428 vmX12_isTunnel rfl (Nat.le_of_ble_eq_true rfl) (Nat.le_of_ble_eq_true rfl) (Nat.le_of_ble_eq_true rfl) dX12_shift_2 ?_
  refine r_if_eq (tgt := 20) dX12_shift_5 (by decide) (fun c5 => ?_) (fun c5 => ?_)
  · refine r_bipush (v := (-2)) rfl dX12_shift_20 ?_
    refine w_iret rfl (rfl) (Nat.le_of_ble_eq_true rfl) (Nat.le_of_ble_eq_true rfl) dX12_shift_22 ?_
    exact ⟨rfl, rfl, rfl, rfl⟩
  · refine r_iload_n (j := 2) rfl rfl dX12_shift_8 ?_
    refine r_i2l dX12_shift_9 ?_
    refine r_lconst (v := 1) rfl dX12_shift_10 ?_
    refine r_ldc2 kX12_431 dX12_shift_11 ?_
    refine w_cS3p (k_X12_in) (Nat.le_of_ble_eq_true rfl) lX12_52 mtX12_in (Nat.le_of_ble_eq_true rfl) (Nat.le_of_ble_eq_true rfl) (Nat.le_of_ble_eq_true rfl) dX12_shift_14 ?_
    refine r_if_ne (tgt := 23) dX12_shift_17 (by decide) (fun c17 => ?_) (fun c17 => ?_)
    · exact absurd ⟨bI_1.mp c5, by have := bI_1.mp c17; rw [Int32.toInt_toInt64] at this; exact this⟩ hc
    · refine r_bipush (v := (-2)) rfl dX12_shift_20 ?_
      refine w_iret rfl (rfl) (Nat.le_of_ble_eq_true rfl) (Nat.le_of_ble_eq_true rfl) dX12_shift_22 ?_
      exact ⟨rfl, rfl, rfl, rfl⟩
theorem k_X12_shift_y {t m : Int32} {tn hn : Nat} {f : Bool} (hc : shC I t m) (hf : f = true ↔ mgF I L) (et : t.toInt = tn) (h3 : tn < 3) (eh : (I 120 tn).toInt = hn) (hh : hn < 5) (h0 : 0 ≤ (I 95 10).toInt) (h5 : (I 95 10).toInt ≤ 5) (ha : ¬ I 97 6 = 0) : Con sc mX12_shift 2 0 0 [.ref 95, .int t, .int m] (XW I L tg) (rI (mgI I tn m f 121 tn) (XW (mgI I tn m f) (mgL I L) tg)) := by
  refine Con_of (by decide) (Nat.le_of_ble_eq_true rfl) ?_
  have ct := cl_of et
  have hin := up_in et h3
  obtain ⟨q1, q2⟩ := hc
  have m5 : mg0 I tn m 97 = I 97 := by simp [mg0, up_eq]
  have mF : mgF (mg0 I tn m) L ↔ mgF I L := by unfold mgF; rw [m5]
  have mL : mgL (mg0 I tn m) L = mgL I L := by unfold mgL; rw [m5]
  have m120 : mg0 I tn m 120 = I 120 := by simp [mg0, up_eq]
  have mB : bMd (mg0 I tn m) = bMd I := by simp [mg0, bMd, bMl, up_eq]
  have K := fun x3 x4 : Int32 => l_X12_sh1 (x3 := x3) (x4 := x4) (sc := sc) (tg := tg) (I := mg0 I tn m) (L := L) (t := t) (m := m) (x5 := mdD I tn m) (f := f) (hf.trans mF.symm) et h3 (by rw [m120]; exact eh) hh
  simp only [mL] at K
  refine r_aload_n (j := 0) rfl rfl dX12_shift_0 ?_
  refine r_iload_n (j := 1) rfl rfl dX12_shift_1 ?_
  refine w_cV1p (k_X12_isTunnel) (Nat.le_of_ble_eq_true rfl) lX12_428 vmX12_isTunnel rfl (Nat.le_of_ble_eq_true rfl) (Nat.le_of_ble_eq_true rfl) (Nat.le_of_ble_eq_true rfl) dX12_shift_2 ?_
  refine r_if_eq (tgt := 20) dX12_shift_5 (by decide) (fun c5 => ?_) (fun c5 => ?_)
  · exact absurd q1 (bI_0.mp c5)
  · refine r_iload_n (j := 2) rfl rfl dX12_shift_8 ?_
    refine r_i2l dX12_shift_9 ?_
    refine r_lconst (v := 1) rfl dX12_shift_10 ?_
    refine r_ldc2 kX12_431 dX12_shift_11 ?_
    refine w_cS3p (k_X12_in) (Nat.le_of_ble_eq_true rfl) lX12_52 mtX12_in (Nat.le_of_ble_eq_true rfl) (Nat.le_of_ble_eq_true rfl) (Nat.le_of_ble_eq_true rfl) dX12_shift_14 ?_
    refine r_if_ne (tgt := 23) dX12_shift_17 (by decide) (fun c17 => ?_) (fun c17 => ?_)
    · refine r_iconst (v := 0) rfl dX12_shift_23 ?_
      refine r_iload_n (j := 2) rfl rfl dX12_shift_24 ?_
      refine r_aload_n (j := 0) rfl rfl dX12_shift_25 ?_
      refine w_getR (b := 121) fX12_255 rfl rfl dX12_shift_26 ?_
      refine r_iload_n (j := 1) rfl rfl dX12_shift_29 ?_
      refine w_iald rfl (by first | assumption | (rw [vp_in_iff]; ((try simp only [bI_0, bI_1, lc_lt, lc_gt, lc_le, lc_ge, Classical.not_not] at *); (try simp only [i_lt, i_le, i_eq, l_lt, l_le, l_eq, Int32.toInt_toInt64, Int32.reduceToInt, Int64.reduceToInt] at *); omega))) dX12_shift_30 ?_
      refine r_aload_n (j := 0) rfl rfl dX12_shift_31 ?_
      refine w_getR (b := 97) fX12_219 rfl rfl dX12_shift_32 ?_
      refine r_bipush (v := 6) rfl dX12_shift_35 ?_
      refine w_iald rfl (by first | assumption | (rw [vp_in_iff]; ((try simp only [bI_0, bI_1, lc_lt, lc_gt, lc_le, lc_ge, Classical.not_not] at *); (try simp only [i_lt, i_le, i_eq, l_lt, l_le, l_eq, Int32.toInt_toInt64, Int32.reduceToInt, Int64.reduceToInt] at *); omega))) dX12_shift_37 ?_
      refine r_idiv (by exact ha) dX12_shift_38 ?_
      refine r_isub dX12_shift_39 ?_
      refine r_mmax lmX12_419 (Nat.le_of_ble_eq_true rfl) (Nat.le_of_ble_eq_true rfl) (Nat.le_of_ble_eq_true rfl) (Nat.le_of_ble_eq_true rfl) dX12_shift_40 ?_
      refine r_istore_n (lv' := fun z => [(3, .int z), (0, .ref 95), (1, .int t), (2, .int m)]) dX12_shift_43 rfl (Nat.le_of_ble_eq_true rfl) (fun _ => rfl) (fun x3_43 ex3_43 => ?_)
      refine r_aload_n (j := 1) rfl rfl dX12_shift_44 ?_
      refine w_getR (b := 122) fX12_258 rfl rfl dX12_shift_45 ?_
      refine r_iload_n (j := 2) rfl rfl dX12_shift_48 ?_
      refine w_iald rfl (by first | assumption | (rw [vp_in_iff]; ((try simp only [bI_0, bI_1, lc_lt, lc_gt, lc_le, lc_ge, Classical.not_not] at *); (try simp only [i_lt, i_le, i_eq, l_lt, l_le, l_eq, Int32.toInt_toInt64, Int32.reduceToInt, Int64.reduceToInt] at *); omega))) dX12_shift_49 ?_
      refine r_iload_n (j := 0) rfl rfl dX12_shift_50 ?_
      refine r_aload_n (j := 1) rfl rfl dX12_shift_51 ?_
      refine w_getR (b := 97) fX12_219 rfl rfl dX12_shift_52 ?_
      refine r_bipush (v := 7) rfl dX12_shift_55 ?_
      refine w_iald rfl (by first | assumption | (rw [vp_in_iff]; ((try simp only [bI_0, bI_1, lc_lt, lc_gt, lc_le, lc_ge, Classical.not_not] at *); (try simp only [i_lt, i_le, i_eq, l_lt, l_le, l_eq, Int32.toInt_toInt64, Int32.reduceToInt, Int64.reduceToInt] at *); omega))) dX12_shift_57 ?_
      refine r_imul dX12_shift_58 ?_
      refine r_iadd dX12_shift_59 ?_
      refine r_istore (lv' := fun z => [(4, .int z), (3, .int x3_43), (0, .ref 95), (1, .int t), (2, .int m)]) dX12_shift_60 (Nat.le_of_ble_eq_true rfl) (fun _ => rfl) (fun x4_60 ex4_60 => ?_)
      have e4 : x4_60 = mdA I tn m := by { rw [ex4_60, ex3_43, ct]; rfl }
      refine r_iload (j := 0) rfl dX12_shift_62 ?_
      refine r_bipush (v := 10) rfl dX12_shift_64 ?_
      refine r_idiv (by first | assumption | decide) dX12_shift_66 ?_
      refine r_istore (lv' := fun z => [(5, .int z), (4, .int x4_60), (3, .int x3_43), (0, .ref 95), (1, .int t), (2, .int m)]) dX12_shift_67 (Nat.le_of_ble_eq_true rfl) (fun _ => rfl) (fun x5_67 ex5_67 => ?_)
      refine r_aload_n (j := 3) rfl rfl dX12_shift_69 ?_
      refine w_getR (b := 122) fX12_258 rfl rfl dX12_shift_70 ?_
      refine r_iload_n (j := 4) rfl rfl dX12_shift_73 ?_
      refine r_iload (j := 1) rfl dX12_shift_74 ?_
      refine r_bipush (v := 10) rfl dX12_shift_76 ?_
      refine r_irem (by first | assumption | decide) dX12_shift_78 ?_
      refine w_iast rfl (by first | assumption | (rw [vp_in_iff]; ((try simp only [bI_0, bI_1, lc_lt, lc_gt, lc_le, lc_ge, Classical.not_not] at *); (try simp only [i_lt, i_le, i_eq, l_lt, l_le, l_eq, Int32.toInt_toInt64, Int32.reduceToInt, Int64.reduceToInt] at *); omega))) dX12_shift_79 (fun J79 hJ79 => ?_)
      have eJ : J79 = mg0 I tn m := by { rw [hJ79, ct, e4]; rfl }
      refine r_aload_n (j := 3) rfl rfl dX12_shift_80 ?_
      refine w_getR (b := 97) fX12_219 rfl rfl dX12_shift_81 ?_
      refine r_iconst (v := 5) rfl dX12_shift_84 ?_
      refine w_iald rfl (by first | assumption | (rw [vp_in_iff]; ((try simp only [bI_0, bI_1, lc_lt, lc_gt, lc_le, lc_ge, Classical.not_not] at *); (try simp only [i_lt, i_le, i_eq, l_lt, l_le, l_eq, Int32.toInt_toInt64, Int32.reduceToInt, Int64.reduceToInt] at *); omega))) dX12_shift_85 ?_
      have e9 : J79 97 5 = I 97 5 := by { rw [eJ, m5] }
      refine r_if_le (tgt := 107) dX12_shift_86 (by decide) (fun c86 => ?_) (fun c86 => ?_)
      · have e5 : x5_67 = mdD I tn m := by
          have c : I 97 5 ≤ 0 := by rw [← e9]; exact c86
          rw [ex5_67, e4]
          unfold mdD
          rw [if_pos c]
        rw [e5, eJ]
        exact K _ _
      · refine r_iload (j := 0) rfl dX12_shift_89 ?_
        refine r_aload_n (j := 3) rfl rfl dX12_shift_91 ?_
        refine w_cV0p (k_X12_boardsLeft (by rw [eJ]; simpa [mg0, up_eq] using h0) (by rw [eJ]; simpa [mg0, up_eq] using h5)) (Nat.le_of_ble_eq_true rfl) lX12_425 vmX12_boardsLeft rfl (Nat.le_of_ble_eq_true rfl) (Nat.le_of_ble_eq_true rfl) (Nat.le_of_ble_eq_true rfl) dX12_shift_92 ?_
        refine r_aload_n (j := 3) rfl rfl dX12_shift_95 ?_
        refine w_getR (b := 97) fX12_219 rfl rfl dX12_shift_96 ?_
        refine r_iconst (v := 5) rfl dX12_shift_99 ?_
        refine w_iald rfl (by first | assumption | (rw [vp_in_iff]; ((try simp only [bI_0, bI_1, lc_lt, lc_gt, lc_le, lc_ge, Classical.not_not] at *); (try simp only [i_lt, i_le, i_eq, l_lt, l_le, l_eq, Int32.toInt_toInt64, Int32.reduceToInt, Int64.reduceToInt] at *); omega))) dX12_shift_100 ?_
        refine r_idiv (by intro z; have z : J79 97 5 = 0 := z; have c86 : ¬ J79 97 5 ≤ 0 := c86; rw [z] at c86; exact c86 (by decide)) dX12_shift_101 ?_
        refine r_mmin lmX12_433 (Nat.le_of_ble_eq_true rfl) (Nat.le_of_ble_eq_true rfl) (Nat.le_of_ble_eq_true rfl) (Nat.le_of_ble_eq_true rfl) dX12_shift_102 ?_
        refine r_istore (lv' := fun z => [(5, .int z), (4, .int x4_60), (3, .int x3_43), (0, .ref 95), (1, .int t), (2, .int m)]) dX12_shift_105 (Nat.le_of_ble_eq_true rfl) (fun _ => rfl) (fun x5_105 ex5_105 => ?_)
        have e5 : x5_105 = mdD I tn m := by
          have c : ¬ I 97 5 ≤ 0 := by rw [← e9]; exact c86
          have e9 : J79 97 (Int32.toNatClampNeg 5) = I 97 5 := e9
          rw [ex5_105, ex5_67, e4, e9, eJ, mB]
          unfold mdD
          rw [if_neg c]
        rw [e5, eJ]
        exact K _ _
    · refine absurd ?_ (bI_0.mp c17); rw [Int32.toInt_toInt64]; exact q2
def goM (I : Is) (h n : Int32) : Prop := (0 ≤ h.toInt ∧ h.toInt < (I 95 10).toInt) ∧ 0 ≤ n.toInt ∧ n.toInt ≤ (I 104 h.toNatClampNeg).toInt
theorem k_X12_gone_r {h n : Int32} (hc : ¬ goM I h n) (h5 : (I 95 10).toInt ≤ 5) : Con sc mX12_gone 2 0 0 [.ref 95, .int h, .int n] (XW I L tg) (rI (-2) (XW I L tg)) := by
  refine Con_of (by decide) (Nat.le_of_ble_eq_true rfl) ?_
  refine r_aload_n (j := 0) rfl rfl dX12_gone_0 ?_
  refine r_iload_n (j := 1) rfl rfl dX12_gone_1 ?_
  refine w_cV1p (k_X12_isHut) (Nat.le_of_ble_eq_true rfl) lX12_408 vmX12_isHut rfl (Nat.le_of_ble_eq_true rfl) (Nat.le_of_ble_eq_true rfl) (Nat.le_of_ble_eq_true rfl) dX12_gone_2 ?_
  refine r_if_eq (tgt := 24) dX12_gone_5 (by decide) (fun c5 => ?_) (fun c5 => ?_)
  · refine r_bipush (v := (-2)) rfl dX12_gone_24 ?_
    refine w_iret rfl (rfl) (Nat.le_of_ble_eq_true rfl) (Nat.le_of_ble_eq_true rfl) dX12_gone_26 ?_
    exact ⟨rfl, rfl, rfl, rfl⟩
  · refine r_iload_n (j := 2) rfl rfl dX12_gone_8 ?_
    refine r_i2l dX12_gone_9 ?_
    refine r_lconst (v := 0) rfl dX12_gone_10 ?_
    refine r_aload_n (j := 0) rfl rfl dX12_gone_11 ?_
    refine w_getR (b := 104) fX12_228 rfl rfl dX12_gone_12 ?_
    refine r_iload_n (j := 1) rfl rfl dX12_gone_15 ?_
    refine w_iald rfl (by have := bI_1.mp c5; rw [vp_in_iff]; omega) dX12_gone_16 ?_
    refine r_i2l dX12_gone_17 ?_
    refine w_cS3p (k_X12_in) (Nat.le_of_ble_eq_true rfl) lX12_52 mtX12_in (Nat.le_of_ble_eq_true rfl) (Nat.le_of_ble_eq_true rfl) (Nat.le_of_ble_eq_true rfl) dX12_gone_18 ?_
    refine r_if_ne (tgt := 27) dX12_gone_21 (by decide) (fun c21 => ?_) (fun c21 => ?_)
    · exact absurd ⟨bI_1.mp c5, by have := bI_1.mp c21; rw [Int32.toInt_toInt64, Int32.toInt_toInt64] at this; exact this⟩ hc
    · refine r_bipush (v := (-2)) rfl dX12_gone_24 ?_
      refine w_iret rfl (rfl) (Nat.le_of_ble_eq_true rfl) (Nat.le_of_ble_eq_true rfl) dX12_gone_26 ?_
      exact ⟨rfl, rfl, rfl, rfl⟩
theorem k_X12_gone_y {h n : Int32} {hn : Nat} (hc : goM I h n) (eh : h.toInt = hn) (h5 : hn < 5) : Con sc mX12_gone 2 0 0 [.ref 95, .int h, .int n] (XW I L tg) (rI (I 130 hn) (XW (up I 130 hn n) L tg)) := by
  refine Con_of (by decide) (Nat.le_of_ble_eq_true rfl) ?_
  have ch := cl_of eh
  have hin := up_in eh h5
  obtain ⟨q1, q2⟩ := hc
  refine r_aload_n (j := 0) rfl rfl dX12_gone_0 ?_
  refine r_iload_n (j := 1) rfl rfl dX12_gone_1 ?_
  refine w_cV1p (k_X12_isHut) (Nat.le_of_ble_eq_true rfl) lX12_408 vmX12_isHut rfl (Nat.le_of_ble_eq_true rfl) (Nat.le_of_ble_eq_true rfl) (Nat.le_of_ble_eq_true rfl) dX12_gone_2 ?_
  refine r_if_eq (tgt := 24) dX12_gone_5 (by decide) (fun c5 => ?_) (fun c5 => ?_)
  · exact absurd q1 (bI_0.mp c5)
  · refine r_iload_n (j := 2) rfl rfl dX12_gone_8 ?_
    refine r_i2l dX12_gone_9 ?_
    refine r_lconst (v := 0) rfl dX12_gone_10 ?_
    refine r_aload_n (j := 0) rfl rfl dX12_gone_11 ?_
    refine w_getR (b := 104) fX12_228 rfl rfl dX12_gone_12 ?_
    refine r_iload_n (j := 1) rfl rfl dX12_gone_15 ?_
    refine w_iald rfl (by first | assumption | (rw [vp_in_iff]; ((try simp only [bI_0, bI_1, lc_lt, lc_gt, lc_le, lc_ge, Classical.not_not] at *); (try simp only [i_lt, i_le, i_eq, l_lt, l_le, l_eq, Int32.toInt_toInt64, Int32.reduceToInt, Int64.reduceToInt] at *); omega))) dX12_gone_16 ?_
    refine r_i2l dX12_gone_17 ?_
    refine w_cS3p (k_X12_in) (Nat.le_of_ble_eq_true rfl) lX12_52 mtX12_in (Nat.le_of_ble_eq_true rfl) (Nat.le_of_ble_eq_true rfl) (Nat.le_of_ble_eq_true rfl) dX12_gone_18 ?_
    refine r_if_ne (tgt := 27) dX12_gone_21 (by decide) (fun c21 => ?_) (fun c21 => ?_)
    · refine r_aload_n (j := 0) rfl rfl dX12_gone_27 ?_
      refine w_getR (b := 130) fX12_282 rfl rfl dX12_gone_28 ?_
      refine r_iload_n (j := 1) rfl rfl dX12_gone_31 ?_
      refine w_iald rfl (by first | assumption | (rw [vp_in_iff]; ((try simp only [bI_0, bI_1, lc_lt, lc_gt, lc_le, lc_ge, Classical.not_not] at *); (try simp only [i_lt, i_le, i_eq, l_lt, l_le, l_eq, Int32.toInt_toInt64, Int32.reduceToInt, Int64.reduceToInt] at *); omega))) dX12_gone_32 ?_
      refine r_istore_n (lv' := fun z => [(3, .int z), (0, .ref 95), (1, .int h), (2, .int n)]) dX12_gone_33 rfl (Nat.le_of_ble_eq_true rfl) (fun _ => rfl) (fun x3_33 ex3_33 => ?_)
      refine r_aload_n (j := 1) rfl rfl dX12_gone_34 ?_
      refine w_getR (b := 130) fX12_282 rfl rfl dX12_gone_35 ?_
      refine r_iload_n (j := 2) rfl rfl dX12_gone_38 ?_
      refine r_iload_n (j := 3) rfl rfl dX12_gone_39 ?_
      refine w_iast rfl (by first | assumption | (rw [vp_in_iff]; ((try simp only [bI_0, bI_1, lc_lt, lc_gt, lc_le, lc_ge, Classical.not_not] at *); (try simp only [i_lt, i_le, i_eq, l_lt, l_le, l_eq, Int32.toInt_toInt64, Int32.reduceToInt, Int64.reduceToInt] at *); omega))) dX12_gone_40 (fun J40 hJ40 => ?_)
      refine r_iload_n (j := 0) rfl rfl dX12_gone_41 ?_
      refine w_iret rfl (rfl) (Nat.le_of_ble_eq_true rfl) (Nat.le_of_ble_eq_true rfl) dX12_gone_42 ?_
      exact ⟨by rw [ex3_33, ch], by rw [hJ40, ch], rfl, rfl⟩
    · refine absurd ?_ (bI_0.mp c21); rw [Int32.toInt_toInt64, Int32.toInt_toInt64]; exact q2
theorem k_X12_isCounted {h : Int32} {hn : Nat} (eh : h.toInt = hn) (h5 : hn < 5) : Con sc mX12_isCounted 0 0 0 [.ref 95, .int h] (XW I L tg) (rI (bI (¬ I 105 hn = -1)) (XW I L tg)) := by
  refine Con_of (by decide) (Nat.le_of_ble_eq_true rfl) ?_
  have ch := cl_of eh
  have hin := up_in eh h5
  refine r_aload_n (j := 0) rfl rfl dX12_isCounted_0 ?_
  refine w_getR (b := 105) fX12_231 rfl rfl dX12_isCounted_1 ?_
  refine r_iload_n (j := 1) rfl rfl dX12_isCounted_4 ?_
  refine w_iald rfl (by first | assumption | (rw [vp_in_iff]; ((try simp only [bI_0, bI_1, lc_lt, lc_gt, lc_le, lc_ge, Classical.not_not] at *); (try simp only [i_lt, i_le, i_eq, l_lt, l_le, l_eq, Int32.toInt_toInt64, Int32.reduceToInt, Int64.reduceToInt] at *); omega))) dX12_isCounted_5 ?_
  refine r_iconst (v := (-1)) rfl dX12_isCounted_6 ?_
  refine r_icmp_eq (tgt := 14) dX12_isCounted_7 (by decide) (fun c7 => ?_) (fun c7 => ?_)
  · refine r_iconst (v := 0) rfl dX12_isCounted_14 ?_
    refine w_iret rfl (rfl) (Nat.le_of_ble_eq_true rfl) (Nat.le_of_ble_eq_true rfl) dX12_isCounted_15 ?_
    rw [ch] at c7; exact ⟨by first | exact (bI_t c7).symm | exact (bI_f (fun z => z c7)).symm, rfl, rfl, rfl⟩
  · refine r_iconst (v := 1) rfl dX12_isCounted_10 ?_
    refine r_goto (tgt := 15) dX12_isCounted_11 (by decide) ?_
    refine w_iret rfl (rfl) (Nat.le_of_ble_eq_true rfl) (Nat.le_of_ble_eq_true rfl) dX12_isCounted_15 ?_
    rw [ch] at c7; exact ⟨by first | exact (bI_t c7).symm | exact (bI_f (fun z => z c7)).symm, rfl, rfl, rfl⟩
/-- all who are gone; of the counted huts alone, if b -/
def agM (I : Is) (b : Int32) : Nat → Int32 := sm (fun h => if b = 0 ∨ ¬ I 105 h = -1 then I 130 h else 0)
theorem l_X12_allGone {b : Int32} {N : Nat} (hN : (I 95 10).toInt = N) (h5 : N ≤ 5) : ∀ n i : Nat, i + n = N → ∀ a x : Int32, a = agM I b i → x.toInt = i → RR sc mX12_allGone 1 0 0 (rI (agM I b N) (XW I L tg)) 0 0 4 [(3, .int x), (2, .int a), (0, .ref 95), (1, .int b)] [] (XW I L tg) := by
  intro n
  induction n with
  | zero =>
    intro i hi a x ea hx
    refine r_iload_n (j := 0) rfl rfl dX12_allGone_4 ?_
    refine r_aload_n (j := 2) rfl rfl dX12_allGone_5 ?_
    refine w_getI fX12_355 rfl dX12_allGone_6 ?_
    refine r_icmp_ge (tgt := 43) dX12_allGone_9 (by decide) (fun c9 => ?_) (fun c9 => ?_)
    · refine r_iload_n (j := 1) rfl rfl dX12_allGone_43 ?_
      refine w_iret rfl (rfl) (Nat.le_of_ble_eq_true rfl) (Nat.le_of_ble_eq_true rfl) dX12_allGone_44 ?_
      exact ⟨by rw [ea, show i = N by omega], rfl, rfl, rfl⟩
    · exfalso; ((try simp only [bI_0, bI_1, lc_lt, lc_gt, lc_le, lc_ge, Classical.not_not] at *); (try simp only [i_lt, i_le, i_eq, l_lt, l_le, l_eq, Int32.toInt_toInt64, Int32.reduceToInt, Int64.reduceToInt] at *); omega)
  | succ n ih =>
    intro i hi a x ea hx
    have cx := cl_of hx
    have hin := up_in (N := 5) hx (by omega)
    refine r_iload_n (j := 0) rfl rfl dX12_allGone_4 ?_
    refine r_aload_n (j := 2) rfl rfl dX12_allGone_5 ?_
    refine w_getI fX12_355 rfl dX12_allGone_6 ?_
    refine r_icmp_ge (tgt := 43) dX12_allGone_9 (by decide) (fun c9 => ?_) (fun c9 => ?_)
    · exfalso; ((try simp only [bI_0, bI_1, lc_lt, lc_gt, lc_le, lc_ge, Classical.not_not] at *); (try simp only [i_lt, i_le, i_eq, l_lt, l_le, l_eq, Int32.toInt_toInt64, Int32.reduceToInt, Int64.reduceToInt] at *); omega)
    · refine r_iload_n (j := 1) rfl rfl dX12_allGone_12 ?_
      refine r_iload_n (j := 3) rfl rfl dX12_allGone_13 ?_
      refine r_if_eq (tgt := 25) dX12_allGone_14 (by decide) (fun c14 => ?_) (fun c14 => ?_)
      · refine r_aload_n (j := 2) rfl rfl dX12_allGone_25 ?_
        refine w_getR (b := 130) fX12_282 rfl rfl dX12_allGone_26 ?_
        refine r_iload_n (j := 0) rfl rfl dX12_allGone_29 ?_
        refine w_iald rfl (by first | assumption | (rw [vp_in_iff]; ((try simp only [bI_0, bI_1, lc_lt, lc_gt, lc_le, lc_ge, Classical.not_not] at *); (try simp only [i_lt, i_le, i_eq, l_lt, l_le, l_eq, Int32.toInt_toInt64, Int32.reduceToInt, Int64.reduceToInt] at *); omega))) dX12_allGone_30 ?_
        refine r_goto (tgt := 35) dX12_allGone_31 (by decide) ?_
        refine r_iadd dX12_allGone_35 ?_
        refine r_istore_n (lv' := fun z => [(2, .int z), (3, .int x), (0, .ref 95), (1, .int b)]) dX12_allGone_36 rfl (Nat.le_of_ble_eq_true rfl) (fun _ => rfl) (fun x2_36 ex2_36 => ?_)
        refine r_iinc (j := 1) (lv' := fun z => [(3, .int z), (2, .int x2_36), (0, .ref 95), (1, .int b)]) dX12_allGone_37 rfl (Nat.le_of_ble_eq_true rfl) (fun _ => rfl) (fun x3_37 ex3_37 => ?_)
        refine r_goto (tgt := 4) dX12_allGone_40 (by decide) ?_
        exact ih (i + 1) (by omega) _ _ (by rw [ex2_36, ea, cx]; show _ = agM I b i + (if b = 0 ∨ ¬ I 105 i = -1 then I 130 i else 0); rw [if_pos (Or.inl c14)]) (by rw [ex3_37]; exact i_inc hx (by omega))
      · refine r_aload_n (j := 2) rfl rfl dX12_allGone_17 ?_
        refine r_iload_n (j := 0) rfl rfl dX12_allGone_18 ?_
        refine w_cV1p (k_X12_isCounted hx (by omega)) (Nat.le_of_ble_eq_true rfl) lX12_461 vmX12_isCounted rfl (Nat.le_of_ble_eq_true rfl) (Nat.le_of_ble_eq_true rfl) (Nat.le_of_ble_eq_true rfl) dX12_allGone_19 ?_
        refine r_if_eq (tgt := 34) dX12_allGone_22 (by decide) (fun c22 => ?_) (fun c22 => ?_)
        · refine r_iconst (v := 0) rfl dX12_allGone_34 ?_
          refine r_iadd dX12_allGone_35 ?_
          refine r_istore_n (lv' := fun z => [(2, .int z), (3, .int x), (0, .ref 95), (1, .int b)]) dX12_allGone_36 rfl (Nat.le_of_ble_eq_true rfl) (fun _ => rfl) (fun x2_36 ex2_36 => ?_)
          refine r_iinc (j := 1) (lv' := fun z => [(3, .int z), (2, .int x2_36), (0, .ref 95), (1, .int b)]) dX12_allGone_37 rfl (Nat.le_of_ble_eq_true rfl) (fun _ => rfl) (fun x3_37 ex3_37 => ?_)
          refine r_goto (tgt := 4) dX12_allGone_40 (by decide) ?_
          exact ih (i + 1) (by omega) _ _ (by rw [ex2_36, ea]; show _ = agM I b i + (if b = 0 ∨ ¬ I 105 i = -1 then I 130 i else 0); rw [if_neg (by rintro (h | h); exact c14 h; exact bI_0.mp c22 h)]) (by rw [ex3_37]; exact i_inc hx (by omega))
        · refine r_aload_n (j := 2) rfl rfl dX12_allGone_25 ?_
          refine w_getR (b := 130) fX12_282 rfl rfl dX12_allGone_26 ?_
          refine r_iload_n (j := 0) rfl rfl dX12_allGone_29 ?_
          refine w_iald rfl (by first | assumption | (rw [vp_in_iff]; ((try simp only [bI_0, bI_1, lc_lt, lc_gt, lc_le, lc_ge, Classical.not_not] at *); (try simp only [i_lt, i_le, i_eq, l_lt, l_le, l_eq, Int32.toInt_toInt64, Int32.reduceToInt, Int64.reduceToInt] at *); omega))) dX12_allGone_30 ?_
          refine r_goto (tgt := 35) dX12_allGone_31 (by decide) ?_
          refine r_iadd dX12_allGone_35 ?_
          refine r_istore_n (lv' := fun z => [(2, .int z), (3, .int x), (0, .ref 95), (1, .int b)]) dX12_allGone_36 rfl (Nat.le_of_ble_eq_true rfl) (fun _ => rfl) (fun x2_36 ex2_36 => ?_)
          refine r_iinc (j := 1) (lv' := fun z => [(3, .int z), (2, .int x2_36), (0, .ref 95), (1, .int b)]) dX12_allGone_37 rfl (Nat.le_of_ble_eq_true rfl) (fun _ => rfl) (fun x3_37 ex3_37 => ?_)
          refine r_goto (tgt := 4) dX12_allGone_40 (by decide) ?_
          exact ih (i + 1) (by omega) _ _ (by rw [ex2_36, ea, cx]; show _ = agM I b i + (if b = 0 ∨ ¬ I 105 i = -1 then I 130 i else 0); rw [if_pos (Or.inr (bI_1.mp c22))]) (by rw [ex3_37]; exact i_inc hx (by omega))
theorem k_X12_allGone {b : Int32} (h0 : 0 ≤ (I 95 10).toInt) (h5 : (I 95 10).toInt ≤ 5) : Con sc mX12_allGone 1 0 0 [.ref 95, .int b] (XW I L tg) (rI (agM I b (nN (I 95 10))) (XW I L tg)) := by
  refine Con_of (by decide) (Nat.le_of_ble_eq_true rfl) ?_
  have hN := nN_of h0
  refine r_iconst (v := 0) rfl dX12_allGone_0 ?_
  refine r_istore_n (lv' := fun z => [(2, .int z), (0, .ref 95), (1, .int b)]) dX12_allGone_1 rfl (Nat.le_of_ble_eq_true rfl) (fun _ => rfl) (fun x2_1 ex2_1 => ?_)
  refine r_iconst (v := 0) rfl dX12_allGone_2 ?_
  refine r_istore_n (lv' := fun z => [(3, .int z), (2, .int x2_1), (0, .ref 95), (1, .int b)]) dX12_allGone_3 rfl (Nat.le_of_ble_eq_true rfl) (fun _ => rfl) (fun x3_3 ex3_3 => ?_)
  exact l_X12_allGone hN (by omega) _ 0 (Nat.zero_add _) _ _ ex2_1 (by rw [ex3_3]; rfl)
def ctM (I : Is) (w : Int32) : Int32 := if w.toInt = 0 then I 95 13 else if w.toInt = 1 then I 95 48 else if w.toInt = 2 then I 95 69 else if w.toInt = 3 then I 95 70 else if w.toInt = 4 then I 95 83 else if w.toInt = 5 then I 95 84 else if w.toInt = 6 then agM I 0 (nN (I 95 10)) else if w.toInt = 7 then I 95 1 else -1
theorem k_X12_count {w : Int32} (h0 : 0 ≤ (I 95 10).toInt) (h5 : (I 95 10).toInt ≤ 5) : Con sc mX12_count 2 0 0 [.ref 95, .int w] (XW I L tg) (rI (ctM I w) (XW I L tg)) := by
  refine Con_of (by decide) (Nat.le_of_ble_eq_true rfl) ?_
  refine r_iload_n (j := 1) rfl rfl dX12_count_0 ?_
  refine w_tab (tgtD := 89) dX12_count_1 (by decide) (fun c1 => ?_) (fun i c1 l1 => ?_)
  · refine r_iconst (v := (-1)) rfl dX12_count_89 ?_
    refine w_iret rfl (rfl) (Nat.le_of_ble_eq_true rfl) (Nat.le_of_ble_eq_true rfl) dX12_count_90 ?_
    exact ⟨by unfold ctM; (repeat (first | rfl | rw [if_pos (by omega)] | rw [if_neg (by omega)])), rfl, rfl, rfl⟩
  · rcases (show i = 0 ∨ i = 1 ∨ i = 2 ∨ i = 3 ∨ i = 4 ∨ i = 5 ∨ i = 6 ∨ i = 7 by omega) with rfl | rfl | rfl | rfl | rfl | rfl | rfl | rfl
    · refine ⟨47, 48, rfl, by decide, ?_⟩
      refine r_aload_n (j := 0) rfl rfl dX12_count_48 ?_
      refine w_getI fX12_364 rfl dX12_count_49 ?_
      refine w_iret rfl (rfl) (Nat.le_of_ble_eq_true rfl) (Nat.le_of_ble_eq_true rfl) dX12_count_52 ?_
      exact ⟨by unfold ctM; (repeat (first | rfl | rw [if_pos (by omega)] | rw [if_neg (by omega)])), rfl, rfl, rfl⟩
    · refine ⟨52, 53, rfl, by decide, ?_⟩
      refine r_aload_n (j := 0) rfl rfl dX12_count_53 ?_
      refine w_getI fX12_370 rfl dX12_count_54 ?_
      refine w_iret rfl (rfl) (Nat.le_of_ble_eq_true rfl) (Nat.le_of_ble_eq_true rfl) dX12_count_57 ?_
      exact ⟨by unfold ctM; (repeat (first | rfl | rw [if_pos (by omega)] | rw [if_neg (by omega)])), rfl, rfl, rfl⟩
    · refine ⟨57, 58, rfl, by decide, ?_⟩
      refine r_aload_n (j := 0) rfl rfl dX12_count_58 ?_
      refine w_getI fX12_376 rfl dX12_count_59 ?_
      refine w_iret rfl (rfl) (Nat.le_of_ble_eq_true rfl) (Nat.le_of_ble_eq_true rfl) dX12_count_62 ?_
      exact ⟨by unfold ctM; (repeat (first | rfl | rw [if_pos (by omega)] | rw [if_neg (by omega)])), rfl, rfl, rfl⟩
    · refine ⟨62, 63, rfl, by decide, ?_⟩
      refine r_aload_n (j := 0) rfl rfl dX12_count_63 ?_
      refine w_getI fX12_379 rfl dX12_count_64 ?_
      refine w_iret rfl (rfl) (Nat.le_of_ble_eq_true rfl) (Nat.le_of_ble_eq_true rfl) dX12_count_67 ?_
      exact ⟨by unfold ctM; (repeat (first | rfl | rw [if_pos (by omega)] | rw [if_neg (by omega)])), rfl, rfl, rfl⟩
    · refine ⟨67, 68, rfl, by decide, ?_⟩
      refine r_aload_n (j := 0) rfl rfl dX12_count_68 ?_
      refine w_getI fX12_541 rfl dX12_count_69 ?_
      refine w_iret rfl (rfl) (Nat.le_of_ble_eq_true rfl) (Nat.le_of_ble_eq_true rfl) dX12_count_72 ?_
      exact ⟨by unfold ctM; (repeat (first | rfl | rw [if_pos (by omega)] | rw [if_neg (by omega)])), rfl, rfl, rfl⟩
    · refine ⟨72, 73, rfl, by decide, ?_⟩
      refine r_aload_n (j := 0) rfl rfl dX12_count_73 ?_
      refine w_getI fX12_546 rfl dX12_count_74 ?_
      refine w_iret rfl (rfl) (Nat.le_of_ble_eq_true rfl) (Nat.le_of_ble_eq_true rfl) dX12_count_77 ?_
      exact ⟨by unfold ctM; (repeat (first | rfl | rw [if_pos (by omega)] | rw [if_neg (by omega)])), rfl, rfl, rfl⟩
    · refine ⟨77, 78, rfl, by decide, ?_⟩
      refine r_aload_n (j := 0) rfl rfl dX12_count_78 ?_
      refine r_iconst (v := 0) rfl dX12_count_79 ?_
      refine w_cV1p (k_X12_allGone h0 h5) (Nat.le_of_ble_eq_true rfl) lX12_477 vmX12_allGone rfl (Nat.le_of_ble_eq_true rfl) (Nat.le_of_ble_eq_true rfl) (Nat.le_of_ble_eq_true rfl) dX12_count_80 ?_
      refine w_iret rfl (rfl) (Nat.le_of_ble_eq_true rfl) (Nat.le_of_ble_eq_true rfl) dX12_count_83 ?_
      exact ⟨by unfold ctM; (repeat (first | rfl | rw [if_pos (by omega)] | rw [if_neg (by omega)])), rfl, rfl, rfl⟩
    · refine ⟨83, 84, rfl, by decide, ?_⟩
      refine r_aload_n (j := 0) rfl rfl dX12_count_84 ?_
      refine w_getI fX12_345 rfl dX12_count_85 ?_
      refine w_iret rfl (rfl) (Nat.le_of_ble_eq_true rfl) (Nat.le_of_ble_eq_true rfl) dX12_count_88 ?_
      exact ⟨by unfold ctM; (repeat (first | rfl | rw [if_pos (by omega)] | rw [if_neg (by omega)])), rfl, rfl, rfl⟩
/-- told -/
def tmS (I : Is) (w : Int32) : Int32 :=
  if 20 ≤ w.toInt ∧ w.toInt ≤ 59 then (if (w - w / 10 * 10).toInt < (I 95 10).toInt then (if w.toInt < 30 then I 102 (w - w / 10 * 10).toNatClampNeg else if w.toInt < 40 then I 103 (w - w / 10 * 10).toNatClampNeg else if w.toInt < 50 then I 104 (w - w / 10 * 10).toNatClampNeg else I 105 (w - w / 10 * 10).toNatClampNeg) else -1)
  else if 60 ≤ w.toInt ∧ w.toInt ≤ 89 then (if (w - w / 10 * 10).toInt < (I 95 11).toInt then (if w.toInt < 70 then I 107 (w - w / 10 * 10).toNatClampNeg else if w.toInt < 80 then I 108 (w - w / 10 * 10).toNatClampNeg else I 109 (w - w / 10 * 10).toNatClampNeg) else -1)
  else if 90 ≤ w.toInt ∧ w.toInt ≤ 89 + (I 95 12).toInt then I 110 (w - w / 10 * 10).toNatClampNeg
  else if 3 ≤ w.toInt ∧ w.toInt ≤ 11 then I 97 (w - 3).toNatClampNeg
  else if w.toInt = 0 then I 95 10 else if w.toInt = 1 then I 95 11 else if w.toInt = 2 then I 95 12 else if w.toInt = 12 then I 95 14 else if w.toInt = 13 then I 95 15 else -1
theorem rem10 {w : Int32} (h : 0 ≤ w.toInt) : (w - w / 10 * 10).toInt = w.toInt % 10 := by
  have e := i_nI h
  have e2 := i_cl h
  have h2 := (i_rng w).2
  have : w.toNatClampNeg < 2 ^ 31 := by omega
  rw [e, show (10 : Int32) = nI 10 from rfl, pk_rem this (by omega) (by omega), nI_toInt (by omega), nI_toInt (by omega)]
  omega
theorem k_X12_told {w : Int32} (h5 : (I 95 10).toInt ≤ 5) (g4 : (I 95 11).toInt ≤ 4) (l4 : (I 95 12).toInt ≤ 4) : Con sc mX12_told 1 0 0 [.ref 95, .int w] (XW I L tg) (rI (tmS I w) (XW I L tg)) := by
  refine Con_of (by decide) (Nat.le_of_ble_eq_true rfl) ?_
  have hr := i_rng w
  have e3 : w.toInt < 3 ∨ (w - 3).toInt = w.toInt - 3 := by
    by_cases h : w.toInt < 3
    · exact Or.inl h
    · right
      rw [i_sub] <;> simp only [Int32.reduceToInt] <;> omega
  have il := x64_addl (I 95 12) 89 (by decide)
  have il : (89 + (I 95 12).toInt64).toInt = 89 + (I 95 12).toInt := il
  refine r_iload_n (j := 1) rfl rfl dX12_told_0 ?_
  refine r_bipush (v := 10) rfl dX12_told_1 ?_
  refine r_irem (by first | assumption | decide) dX12_told_3 ?_
  refine r_istore_n (lv' := fun z => [(2, .int z), (0, .ref 95), (1, .int w)]) dX12_told_4 rfl (Nat.le_of_ble_eq_true rfl) (fun _ => rfl) (fun x2_4 ex2_4 => ?_)
  have hk : w.toInt < 0 ∨ x2_4.toInt = w.toInt % 10 := by { by_cases h : w.toInt < 0; exact Or.inl h; exact Or.inr (by rw [ex2_4]; exact rem10 (by omega)) }
  refine r_iload_n (j := 2) rfl rfl dX12_told_5 ?_
  refine r_i2l dX12_told_6 ?_
  refine r_ldc2 kX12_394 dX12_told_7 ?_
  refine r_ldc2 kX12_396 dX12_told_10 ?_
  refine w_cS3p (k_X12_in) (Nat.le_of_ble_eq_true rfl) lX12_52 mtX12_in (Nat.le_of_ble_eq_true rfl) (Nat.le_of_ble_eq_true rfl) (Nat.le_of_ble_eq_true rfl) dX12_told_13 ?_
  refine r_if_eq (tgt := 83) dX12_told_16 (by decide) (fun c16 => ?_) (fun c16 => ?_)
  · refine r_iload_n (j := 2) rfl rfl dX12_told_83 ?_
    refine r_i2l dX12_told_84 ?_
    refine r_ldc2 kX12_398 dX12_told_85 ?_
    refine r_ldc2 kX12_400 dX12_told_88 ?_
    refine w_cS3p (k_X12_in) (Nat.le_of_ble_eq_true rfl) lX12_52 mtX12_in (Nat.le_of_ble_eq_true rfl) (Nat.le_of_ble_eq_true rfl) (Nat.le_of_ble_eq_true rfl) dX12_told_91 ?_
    refine r_if_eq (tgt := 146) dX12_told_94 (by decide) (fun c94 => ?_) (fun c94 => ?_)
    · refine r_iload_n (j := 2) rfl rfl dX12_told_146 ?_
      refine r_i2l dX12_told_147 ?_
      refine r_ldc2 kX12_402 dX12_told_148 ?_
      refine r_ldc2 kX12_400 dX12_told_151 ?_
      refine r_aload_n (j := 1) rfl rfl dX12_told_154 ?_
      refine w_getI fX12_361 rfl dX12_told_155 ?_
      refine r_i2l dX12_told_158 ?_
      refine r_ladd dX12_told_159 ?_
      refine w_cS3p (k_X12_in) (Nat.le_of_ble_eq_true rfl) lX12_52 mtX12_in (Nat.le_of_ble_eq_true rfl) (Nat.le_of_ble_eq_true rfl) (Nat.le_of_ble_eq_true rfl) dX12_told_160 ?_
      refine r_if_eq (tgt := 173) dX12_told_163 (by decide) (fun c163 => ?_) (fun c163 => ?_)
      · refine r_iload_n (j := 2) rfl rfl dX12_told_173 ?_
        refine r_i2l dX12_told_174 ?_
        refine r_ldc2 kX12_404 dX12_told_175 ?_
        refine r_ldc2 kX12_406 dX12_told_178 ?_
        refine w_cS3p (k_X12_in) (Nat.le_of_ble_eq_true rfl) lX12_52 mtX12_in (Nat.le_of_ble_eq_true rfl) (Nat.le_of_ble_eq_true rfl) (Nat.le_of_ble_eq_true rfl) dX12_told_181 ?_
        refine r_if_eq (tgt := 196) dX12_told_184 (by decide) (fun c184 => ?_) (fun c184 => ?_)
        · refine r_iload_n (j := 2) rfl rfl dX12_told_196 ?_
          refine w_tab (tgtD := 293) dX12_told_197 (by decide) (fun c197 => ?_) (fun i c197 l197 => ?_)
          · refine r_iconst (v := (-1)) rfl dX12_told_293 ?_
            refine w_iret rfl (rfl) (Nat.le_of_ble_eq_true rfl) (Nat.le_of_ble_eq_true rfl) dX12_told_294 ?_
            refine ⟨?_, rfl, rfl, rfl⟩
            unfold tmS
            rw [← ex2_4]
            first | (exfalso; ((try simp only [bI_0, bI_1, lc_lt, lc_gt, lc_le, lc_ge, Classical.not_not] at *); (try simp only [i_lt, i_le, i_eq, l_lt, l_le, l_eq, Int32.toInt_toInt64, Int32.reduceToInt, Int64.reduceToInt] at *); omega)) | (repeat (first | rfl | rw [if_pos (by ((try simp only [bI_0, bI_1, lc_lt, lc_gt, lc_le, lc_ge, Classical.not_not] at *); (try simp only [i_lt, i_le, i_eq, l_lt, l_le, l_eq, Int32.toInt_toInt64, Int32.reduceToInt, Int64.reduceToInt] at *); omega))] | rw [if_neg (by ((try simp only [bI_0, bI_1, lc_lt, lc_gt, lc_le, lc_ge, Classical.not_not] at *); (try simp only [i_lt, i_le, i_eq, l_lt, l_le, l_eq, Int32.toInt_toInt64, Int32.reduceToInt, Int64.reduceToInt] at *); omega))]))
          · rcases (show i = 0 ∨ i = 1 ∨ i = 2 ∨ i = 3 ∨ i = 4 ∨ i = 5 ∨ i = 6 ∨ i = 7 ∨ i = 8 ∨ i = 9 ∨ i = 10 ∨ i = 11 ∨ i = 12 ∨ i = 13 by omega) with rfl | rfl | rfl | rfl | rfl | rfl | rfl | rfl | rfl | rfl | rfl | rfl | rfl | rfl
            · refine ⟨71, 268, rfl, by decide, ?_⟩
              refine r_aload_n (j := 1) rfl rfl dX12_told_268 ?_
              refine w_getI fX12_355 rfl dX12_told_269 ?_
              refine w_iret rfl (rfl) (Nat.le_of_ble_eq_true rfl) (Nat.le_of_ble_eq_true rfl) dX12_told_272 ?_
              refine ⟨?_, rfl, rfl, rfl⟩
              unfold tmS
              rw [← ex2_4]
              first | (exfalso; ((try simp only [bI_0, bI_1, lc_lt, lc_gt, lc_le, lc_ge, Classical.not_not] at *); (try simp only [i_lt, i_le, i_eq, l_lt, l_le, l_eq, Int32.toInt_toInt64, Int32.reduceToInt, Int64.reduceToInt] at *); omega)) | (repeat (first | rfl | rw [if_pos (by ((try simp only [bI_0, bI_1, lc_lt, lc_gt, lc_le, lc_ge, Classical.not_not] at *); (try simp only [i_lt, i_le, i_eq, l_lt, l_le, l_eq, Int32.toInt_toInt64, Int32.reduceToInt, Int64.reduceToInt] at *); omega))] | rw [if_neg (by ((try simp only [bI_0, bI_1, lc_lt, lc_gt, lc_le, lc_ge, Classical.not_not] at *); (try simp only [i_lt, i_le, i_eq, l_lt, l_le, l_eq, Int32.toInt_toInt64, Int32.reduceToInt, Int64.reduceToInt] at *); omega))]))
            · refine ⟨76, 273, rfl, by decide, ?_⟩
              refine r_aload_n (j := 1) rfl rfl dX12_told_273 ?_
              refine w_getI fX12_358 rfl dX12_told_274 ?_
              refine w_iret rfl (rfl) (Nat.le_of_ble_eq_true rfl) (Nat.le_of_ble_eq_true rfl) dX12_told_277 ?_
              refine ⟨?_, rfl, rfl, rfl⟩
              unfold tmS
              rw [← ex2_4]
              first | (exfalso; ((try simp only [bI_0, bI_1, lc_lt, lc_gt, lc_le, lc_ge, Classical.not_not] at *); (try simp only [i_lt, i_le, i_eq, l_lt, l_le, l_eq, Int32.toInt_toInt64, Int32.reduceToInt, Int64.reduceToInt] at *); omega)) | (repeat (first | rfl | rw [if_pos (by ((try simp only [bI_0, bI_1, lc_lt, lc_gt, lc_le, lc_ge, Classical.not_not] at *); (try simp only [i_lt, i_le, i_eq, l_lt, l_le, l_eq, Int32.toInt_toInt64, Int32.reduceToInt, Int64.reduceToInt] at *); omega))] | rw [if_neg (by ((try simp only [bI_0, bI_1, lc_lt, lc_gt, lc_le, lc_ge, Classical.not_not] at *); (try simp only [i_lt, i_le, i_eq, l_lt, l_le, l_eq, Int32.toInt_toInt64, Int32.reduceToInt, Int64.reduceToInt] at *); omega))]))
            · refine ⟨81, 278, rfl, by decide, ?_⟩
              refine r_aload_n (j := 1) rfl rfl dX12_told_278 ?_
              refine w_getI fX12_361 rfl dX12_told_279 ?_
              refine w_iret rfl (rfl) (Nat.le_of_ble_eq_true rfl) (Nat.le_of_ble_eq_true rfl) dX12_told_282 ?_
              refine ⟨?_, rfl, rfl, rfl⟩
              unfold tmS
              rw [← ex2_4]
              first | (exfalso; ((try simp only [bI_0, bI_1, lc_lt, lc_gt, lc_le, lc_ge, Classical.not_not] at *); (try simp only [i_lt, i_le, i_eq, l_lt, l_le, l_eq, Int32.toInt_toInt64, Int32.reduceToInt, Int64.reduceToInt] at *); omega)) | (repeat (first | rfl | rw [if_pos (by ((try simp only [bI_0, bI_1, lc_lt, lc_gt, lc_le, lc_ge, Classical.not_not] at *); (try simp only [i_lt, i_le, i_eq, l_lt, l_le, l_eq, Int32.toInt_toInt64, Int32.reduceToInt, Int64.reduceToInt] at *); omega))] | rw [if_neg (by ((try simp only [bI_0, bI_1, lc_lt, lc_gt, lc_le, lc_ge, Classical.not_not] at *); (try simp only [i_lt, i_le, i_eq, l_lt, l_le, l_eq, Int32.toInt_toInt64, Int32.reduceToInt, Int64.reduceToInt] at *); omega))]))
            · refine ⟨96, 293, rfl, by decide, ?_⟩
              refine r_iconst (v := (-1)) rfl dX12_told_293 ?_
              refine w_iret rfl (rfl) (Nat.le_of_ble_eq_true rfl) (Nat.le_of_ble_eq_true rfl) dX12_told_294 ?_
              refine ⟨?_, rfl, rfl, rfl⟩
              unfold tmS
              rw [← ex2_4]
              first | (exfalso; ((try simp only [bI_0, bI_1, lc_lt, lc_gt, lc_le, lc_ge, Classical.not_not] at *); (try simp only [i_lt, i_le, i_eq, l_lt, l_le, l_eq, Int32.toInt_toInt64, Int32.reduceToInt, Int64.reduceToInt] at *); omega)) | (repeat (first | rfl | rw [if_pos (by ((try simp only [bI_0, bI_1, lc_lt, lc_gt, lc_le, lc_ge, Classical.not_not] at *); (try simp only [i_lt, i_le, i_eq, l_lt, l_le, l_eq, Int32.toInt_toInt64, Int32.reduceToInt, Int64.reduceToInt] at *); omega))] | rw [if_neg (by ((try simp only [bI_0, bI_1, lc_lt, lc_gt, lc_le, lc_ge, Classical.not_not] at *); (try simp only [i_lt, i_le, i_eq, l_lt, l_le, l_eq, Int32.toInt_toInt64, Int32.reduceToInt, Int64.reduceToInt] at *); omega))]))
            · refine ⟨96, 293, rfl, by decide, ?_⟩
              refine r_iconst (v := (-1)) rfl dX12_told_293 ?_
              refine w_iret rfl (rfl) (Nat.le_of_ble_eq_true rfl) (Nat.le_of_ble_eq_true rfl) dX12_told_294 ?_
              refine ⟨?_, rfl, rfl, rfl⟩
              unfold tmS
              rw [← ex2_4]
              first | (exfalso; ((try simp only [bI_0, bI_1, lc_lt, lc_gt, lc_le, lc_ge, Classical.not_not] at *); (try simp only [i_lt, i_le, i_eq, l_lt, l_le, l_eq, Int32.toInt_toInt64, Int32.reduceToInt, Int64.reduceToInt] at *); omega)) | (repeat (first | rfl | rw [if_pos (by ((try simp only [bI_0, bI_1, lc_lt, lc_gt, lc_le, lc_ge, Classical.not_not] at *); (try simp only [i_lt, i_le, i_eq, l_lt, l_le, l_eq, Int32.toInt_toInt64, Int32.reduceToInt, Int64.reduceToInt] at *); omega))] | rw [if_neg (by ((try simp only [bI_0, bI_1, lc_lt, lc_gt, lc_le, lc_ge, Classical.not_not] at *); (try simp only [i_lt, i_le, i_eq, l_lt, l_le, l_eq, Int32.toInt_toInt64, Int32.reduceToInt, Int64.reduceToInt] at *); omega))]))
            · refine ⟨96, 293, rfl, by decide, ?_⟩
              refine r_iconst (v := (-1)) rfl dX12_told_293 ?_
              refine w_iret rfl (rfl) (Nat.le_of_ble_eq_true rfl) (Nat.le_of_ble_eq_true rfl) dX12_told_294 ?_
              refine ⟨?_, rfl, rfl, rfl⟩
              unfold tmS
              rw [← ex2_4]
              first | (exfalso; ((try simp only [bI_0, bI_1, lc_lt, lc_gt, lc_le, lc_ge, Classical.not_not] at *); (try simp only [i_lt, i_le, i_eq, l_lt, l_le, l_eq, Int32.toInt_toInt64, Int32.reduceToInt, Int64.reduceToInt] at *); omega)) | (repeat (first | rfl | rw [if_pos (by ((try simp only [bI_0, bI_1, lc_lt, lc_gt, lc_le, lc_ge, Classical.not_not] at *); (try simp only [i_lt, i_le, i_eq, l_lt, l_le, l_eq, Int32.toInt_toInt64, Int32.reduceToInt, Int64.reduceToInt] at *); omega))] | rw [if_neg (by ((try simp only [bI_0, bI_1, lc_lt, lc_gt, lc_le, lc_ge, Classical.not_not] at *); (try simp only [i_lt, i_le, i_eq, l_lt, l_le, l_eq, Int32.toInt_toInt64, Int32.reduceToInt, Int64.reduceToInt] at *); omega))]))
            · refine ⟨96, 293, rfl, by decide, ?_⟩
              refine r_iconst (v := (-1)) rfl dX12_told_293 ?_
              refine w_iret rfl (rfl) (Nat.le_of_ble_eq_true rfl) (Nat.le_of_ble_eq_true rfl) dX12_told_294 ?_
              refine ⟨?_, rfl, rfl, rfl⟩
              unfold tmS
              rw [← ex2_4]
              first | (exfalso; ((try simp only [bI_0, bI_1, lc_lt, lc_gt, lc_le, lc_ge, Classical.not_not] at *); (try simp only [i_lt, i_le, i_eq, l_lt, l_le, l_eq, Int32.toInt_toInt64, Int32.reduceToInt, Int64.reduceToInt] at *); omega)) | (repeat (first | rfl | rw [if_pos (by ((try simp only [bI_0, bI_1, lc_lt, lc_gt, lc_le, lc_ge, Classical.not_not] at *); (try simp only [i_lt, i_le, i_eq, l_lt, l_le, l_eq, Int32.toInt_toInt64, Int32.reduceToInt, Int64.reduceToInt] at *); omega))] | rw [if_neg (by ((try simp only [bI_0, bI_1, lc_lt, lc_gt, lc_le, lc_ge, Classical.not_not] at *); (try simp only [i_lt, i_le, i_eq, l_lt, l_le, l_eq, Int32.toInt_toInt64, Int32.reduceToInt, Int64.reduceToInt] at *); omega))]))
            · refine ⟨96, 293, rfl, by decide, ?_⟩
              refine r_iconst (v := (-1)) rfl dX12_told_293 ?_
              refine w_iret rfl (rfl) (Nat.le_of_ble_eq_true rfl) (Nat.le_of_ble_eq_true rfl) dX12_told_294 ?_
              refine ⟨?_, rfl, rfl, rfl⟩
              unfold tmS
              rw [← ex2_4]
              first | (exfalso; ((try simp only [bI_0, bI_1, lc_lt, lc_gt, lc_le, lc_ge, Classical.not_not] at *); (try simp only [i_lt, i_le, i_eq, l_lt, l_le, l_eq, Int32.toInt_toInt64, Int32.reduceToInt, Int64.reduceToInt] at *); omega)) | (repeat (first | rfl | rw [if_pos (by ((try simp only [bI_0, bI_1, lc_lt, lc_gt, lc_le, lc_ge, Classical.not_not] at *); (try simp only [i_lt, i_le, i_eq, l_lt, l_le, l_eq, Int32.toInt_toInt64, Int32.reduceToInt, Int64.reduceToInt] at *); omega))] | rw [if_neg (by ((try simp only [bI_0, bI_1, lc_lt, lc_gt, lc_le, lc_ge, Classical.not_not] at *); (try simp only [i_lt, i_le, i_eq, l_lt, l_le, l_eq, Int32.toInt_toInt64, Int32.reduceToInt, Int64.reduceToInt] at *); omega))]))
            · refine ⟨96, 293, rfl, by decide, ?_⟩
              refine r_iconst (v := (-1)) rfl dX12_told_293 ?_
              refine w_iret rfl (rfl) (Nat.le_of_ble_eq_true rfl) (Nat.le_of_ble_eq_true rfl) dX12_told_294 ?_
              refine ⟨?_, rfl, rfl, rfl⟩
              unfold tmS
              rw [← ex2_4]
              first | (exfalso; ((try simp only [bI_0, bI_1, lc_lt, lc_gt, lc_le, lc_ge, Classical.not_not] at *); (try simp only [i_lt, i_le, i_eq, l_lt, l_le, l_eq, Int32.toInt_toInt64, Int32.reduceToInt, Int64.reduceToInt] at *); omega)) | (repeat (first | rfl | rw [if_pos (by ((try simp only [bI_0, bI_1, lc_lt, lc_gt, lc_le, lc_ge, Classical.not_not] at *); (try simp only [i_lt, i_le, i_eq, l_lt, l_le, l_eq, Int32.toInt_toInt64, Int32.reduceToInt, Int64.reduceToInt] at *); omega))] | rw [if_neg (by ((try simp only [bI_0, bI_1, lc_lt, lc_gt, lc_le, lc_ge, Classical.not_not] at *); (try simp only [i_lt, i_le, i_eq, l_lt, l_le, l_eq, Int32.toInt_toInt64, Int32.reduceToInt, Int64.reduceToInt] at *); omega))]))
            · refine ⟨96, 293, rfl, by decide, ?_⟩
              refine r_iconst (v := (-1)) rfl dX12_told_293 ?_
              refine w_iret rfl (rfl) (Nat.le_of_ble_eq_true rfl) (Nat.le_of_ble_eq_true rfl) dX12_told_294 ?_
              refine ⟨?_, rfl, rfl, rfl⟩
              unfold tmS
              rw [← ex2_4]
              first | (exfalso; ((try simp only [bI_0, bI_1, lc_lt, lc_gt, lc_le, lc_ge, Classical.not_not] at *); (try simp only [i_lt, i_le, i_eq, l_lt, l_le, l_eq, Int32.toInt_toInt64, Int32.reduceToInt, Int64.reduceToInt] at *); omega)) | (repeat (first | rfl | rw [if_pos (by ((try simp only [bI_0, bI_1, lc_lt, lc_gt, lc_le, lc_ge, Classical.not_not] at *); (try simp only [i_lt, i_le, i_eq, l_lt, l_le, l_eq, Int32.toInt_toInt64, Int32.reduceToInt, Int64.reduceToInt] at *); omega))] | rw [if_neg (by ((try simp only [bI_0, bI_1, lc_lt, lc_gt, lc_le, lc_ge, Classical.not_not] at *); (try simp only [i_lt, i_le, i_eq, l_lt, l_le, l_eq, Int32.toInt_toInt64, Int32.reduceToInt, Int64.reduceToInt] at *); omega))]))
            · refine ⟨96, 293, rfl, by decide, ?_⟩
              refine r_iconst (v := (-1)) rfl dX12_told_293 ?_
              refine w_iret rfl (rfl) (Nat.le_of_ble_eq_true rfl) (Nat.le_of_ble_eq_true rfl) dX12_told_294 ?_
              refine ⟨?_, rfl, rfl, rfl⟩
              unfold tmS
              rw [← ex2_4]
              first | (exfalso; ((try simp only [bI_0, bI_1, lc_lt, lc_gt, lc_le, lc_ge, Classical.not_not] at *); (try simp only [i_lt, i_le, i_eq, l_lt, l_le, l_eq, Int32.toInt_toInt64, Int32.reduceToInt, Int64.reduceToInt] at *); omega)) | (repeat (first | rfl | rw [if_pos (by ((try simp only [bI_0, bI_1, lc_lt, lc_gt, lc_le, lc_ge, Classical.not_not] at *); (try simp only [i_lt, i_le, i_eq, l_lt, l_le, l_eq, Int32.toInt_toInt64, Int32.reduceToInt, Int64.reduceToInt] at *); omega))] | rw [if_neg (by ((try simp only [bI_0, bI_1, lc_lt, lc_gt, lc_le, lc_ge, Classical.not_not] at *); (try simp only [i_lt, i_le, i_eq, l_lt, l_le, l_eq, Int32.toInt_toInt64, Int32.reduceToInt, Int64.reduceToInt] at *); omega))]))
            · refine ⟨96, 293, rfl, by decide, ?_⟩
              refine r_iconst (v := (-1)) rfl dX12_told_293 ?_
              refine w_iret rfl (rfl) (Nat.le_of_ble_eq_true rfl) (Nat.le_of_ble_eq_true rfl) dX12_told_294 ?_
              refine ⟨?_, rfl, rfl, rfl⟩
              unfold tmS
              rw [← ex2_4]
              first | (exfalso; ((try simp only [bI_0, bI_1, lc_lt, lc_gt, lc_le, lc_ge, Classical.not_not] at *); (try simp only [i_lt, i_le, i_eq, l_lt, l_le, l_eq, Int32.toInt_toInt64, Int32.reduceToInt, Int64.reduceToInt] at *); omega)) | (repeat (first | rfl | rw [if_pos (by ((try simp only [bI_0, bI_1, lc_lt, lc_gt, lc_le, lc_ge, Classical.not_not] at *); (try simp only [i_lt, i_le, i_eq, l_lt, l_le, l_eq, Int32.toInt_toInt64, Int32.reduceToInt, Int64.reduceToInt] at *); omega))] | rw [if_neg (by ((try simp only [bI_0, bI_1, lc_lt, lc_gt, lc_le, lc_ge, Classical.not_not] at *); (try simp only [i_lt, i_le, i_eq, l_lt, l_le, l_eq, Int32.toInt_toInt64, Int32.reduceToInt, Int64.reduceToInt] at *); omega))]))
            · refine ⟨86, 283, rfl, by decide, ?_⟩
              refine r_aload_n (j := 1) rfl rfl dX12_told_283 ?_
              refine w_getI fX12_213 rfl dX12_told_284 ?_
              refine w_iret rfl (rfl) (Nat.le_of_ble_eq_true rfl) (Nat.le_of_ble_eq_true rfl) dX12_told_287 ?_
              refine ⟨?_, rfl, rfl, rfl⟩
              unfold tmS
              rw [← ex2_4]
              first | (exfalso; ((try simp only [bI_0, bI_1, lc_lt, lc_gt, lc_le, lc_ge, Classical.not_not] at *); (try simp only [i_lt, i_le, i_eq, l_lt, l_le, l_eq, Int32.toInt_toInt64, Int32.reduceToInt, Int64.reduceToInt] at *); omega)) | (repeat (first | rfl | rw [if_pos (by ((try simp only [bI_0, bI_1, lc_lt, lc_gt, lc_le, lc_ge, Classical.not_not] at *); (try simp only [i_lt, i_le, i_eq, l_lt, l_le, l_eq, Int32.toInt_toInt64, Int32.reduceToInt, Int64.reduceToInt] at *); omega))] | rw [if_neg (by ((try simp only [bI_0, bI_1, lc_lt, lc_gt, lc_le, lc_ge, Classical.not_not] at *); (try simp only [i_lt, i_le, i_eq, l_lt, l_le, l_eq, Int32.toInt_toInt64, Int32.reduceToInt, Int64.reduceToInt] at *); omega))]))
            · refine ⟨91, 288, rfl, by decide, ?_⟩
              refine r_aload_n (j := 1) rfl rfl dX12_told_288 ?_
              refine w_getI fX12_216 rfl dX12_told_289 ?_
              refine w_iret rfl (rfl) (Nat.le_of_ble_eq_true rfl) (Nat.le_of_ble_eq_true rfl) dX12_told_292 ?_
              refine ⟨?_, rfl, rfl, rfl⟩
              unfold tmS
              rw [← ex2_4]
              first | (exfalso; ((try simp only [bI_0, bI_1, lc_lt, lc_gt, lc_le, lc_ge, Classical.not_not] at *); (try simp only [i_lt, i_le, i_eq, l_lt, l_le, l_eq, Int32.toInt_toInt64, Int32.reduceToInt, Int64.reduceToInt] at *); omega)) | (repeat (first | rfl | rw [if_pos (by ((try simp only [bI_0, bI_1, lc_lt, lc_gt, lc_le, lc_ge, Classical.not_not] at *); (try simp only [i_lt, i_le, i_eq, l_lt, l_le, l_eq, Int32.toInt_toInt64, Int32.reduceToInt, Int64.reduceToInt] at *); omega))] | rw [if_neg (by ((try simp only [bI_0, bI_1, lc_lt, lc_gt, lc_le, lc_ge, Classical.not_not] at *); (try simp only [i_lt, i_le, i_eq, l_lt, l_le, l_eq, Int32.toInt_toInt64, Int32.reduceToInt, Int64.reduceToInt] at *); omega))]))
        · refine r_aload_n (j := 1) rfl rfl dX12_told_187 ?_
          refine w_getR (b := 97) fX12_219 rfl rfl dX12_told_188 ?_
          refine r_iload_n (j := 2) rfl rfl dX12_told_191 ?_
          refine r_iconst (v := 3) rfl dX12_told_192 ?_
          refine r_isub dX12_told_193 ?_
          refine w_iald rfl (by first | assumption | (rw [vp_in_iff]; ((try simp only [bI_0, bI_1, lc_lt, lc_gt, lc_le, lc_ge, Classical.not_not] at *); (try simp only [i_lt, i_le, i_eq, l_lt, l_le, l_eq, Int32.toInt_toInt64, Int32.reduceToInt, Int64.reduceToInt] at *); omega))) dX12_told_194 ?_
          refine w_iret rfl (rfl) (Nat.le_of_ble_eq_true rfl) (Nat.le_of_ble_eq_true rfl) dX12_told_195 ?_
          refine ⟨?_, rfl, rfl, rfl⟩
          unfold tmS
          rw [← ex2_4]
          first | (exfalso; ((try simp only [bI_0, bI_1, lc_lt, lc_gt, lc_le, lc_ge, Classical.not_not] at *); (try simp only [i_lt, i_le, i_eq, l_lt, l_le, l_eq, Int32.toInt_toInt64, Int32.reduceToInt, Int64.reduceToInt] at *); omega)) | (repeat (first | rfl | rw [if_pos (by ((try simp only [bI_0, bI_1, lc_lt, lc_gt, lc_le, lc_ge, Classical.not_not] at *); (try simp only [i_lt, i_le, i_eq, l_lt, l_le, l_eq, Int32.toInt_toInt64, Int32.reduceToInt, Int64.reduceToInt] at *); omega))] | rw [if_neg (by ((try simp only [bI_0, bI_1, lc_lt, lc_gt, lc_le, lc_ge, Classical.not_not] at *); (try simp only [i_lt, i_le, i_eq, l_lt, l_le, l_eq, Int32.toInt_toInt64, Int32.reduceToInt, Int64.reduceToInt] at *); omega))]))
      · refine r_aload_n (j := 1) rfl rfl dX12_told_166 ?_
        refine w_getR (b := 110) fX12_245 rfl rfl dX12_told_167 ?_
        refine r_iload_n (j := 0) rfl rfl dX12_told_170 ?_
        refine w_iald rfl (by first | assumption | (rw [vp_in_iff]; ((try simp only [bI_0, bI_1, lc_lt, lc_gt, lc_le, lc_ge, Classical.not_not] at *); (try simp only [i_lt, i_le, i_eq, l_lt, l_le, l_eq, Int32.toInt_toInt64, Int32.reduceToInt, Int64.reduceToInt] at *); omega))) dX12_told_171 ?_
        refine w_iret rfl (rfl) (Nat.le_of_ble_eq_true rfl) (Nat.le_of_ble_eq_true rfl) dX12_told_172 ?_
        refine ⟨?_, rfl, rfl, rfl⟩
        unfold tmS
        rw [← ex2_4]
        first | (exfalso; ((try simp only [bI_0, bI_1, lc_lt, lc_gt, lc_le, lc_ge, Classical.not_not] at *); (try simp only [i_lt, i_le, i_eq, l_lt, l_le, l_eq, Int32.toInt_toInt64, Int32.reduceToInt, Int64.reduceToInt] at *); omega)) | (repeat (first | rfl | rw [if_pos (by ((try simp only [bI_0, bI_1, lc_lt, lc_gt, lc_le, lc_ge, Classical.not_not] at *); (try simp only [i_lt, i_le, i_eq, l_lt, l_le, l_eq, Int32.toInt_toInt64, Int32.reduceToInt, Int64.reduceToInt] at *); omega))] | rw [if_neg (by ((try simp only [bI_0, bI_1, lc_lt, lc_gt, lc_le, lc_ge, Classical.not_not] at *); (try simp only [i_lt, i_le, i_eq, l_lt, l_le, l_eq, Int32.toInt_toInt64, Int32.reduceToInt, Int64.reduceToInt] at *); omega))]))
    · refine r_iload_n (j := 0) rfl rfl dX12_told_97 ?_
      refine r_aload_n (j := 1) rfl rfl dX12_told_98 ?_
      refine w_getI fX12_358 rfl dX12_told_99 ?_
      refine r_icmp_lt (tgt := 109) dX12_told_102 (by decide) (fun c102 => ?_) (fun c102 => ?_)
      · refine r_iload_n (j := 2) rfl rfl dX12_told_109 ?_
        refine r_bipush (v := 70) rfl dX12_told_110 ?_
        refine r_icmp_ge (tgt := 124) dX12_told_112 (by decide) (fun c112 => ?_) (fun c112 => ?_)
        · refine r_iload_n (j := 2) rfl rfl dX12_told_124 ?_
          refine r_bipush (v := 80) rfl dX12_told_125 ?_
          refine r_icmp_ge (tgt := 139) dX12_told_127 (by decide) (fun c127 => ?_) (fun c127 => ?_)
          · refine r_aload_n (j := 1) rfl rfl dX12_told_139 ?_
            refine w_getR (b := 109) fX12_242 rfl rfl dX12_told_140 ?_
            refine r_iload_n (j := 0) rfl rfl dX12_told_143 ?_
            refine w_iald rfl (by first | assumption | (rw [vp_in_iff]; ((try simp only [bI_0, bI_1, lc_lt, lc_gt, lc_le, lc_ge, Classical.not_not] at *); (try simp only [i_lt, i_le, i_eq, l_lt, l_le, l_eq, Int32.toInt_toInt64, Int32.reduceToInt, Int64.reduceToInt] at *); omega))) dX12_told_144 ?_
            refine w_iret rfl (rfl) (Nat.le_of_ble_eq_true rfl) (Nat.le_of_ble_eq_true rfl) dX12_told_145 ?_
            refine ⟨?_, rfl, rfl, rfl⟩
            unfold tmS
            rw [← ex2_4]
            first | (exfalso; ((try simp only [bI_0, bI_1, lc_lt, lc_gt, lc_le, lc_ge, Classical.not_not] at *); (try simp only [i_lt, i_le, i_eq, l_lt, l_le, l_eq, Int32.toInt_toInt64, Int32.reduceToInt, Int64.reduceToInt] at *); omega)) | (repeat (first | rfl | rw [if_pos (by ((try simp only [bI_0, bI_1, lc_lt, lc_gt, lc_le, lc_ge, Classical.not_not] at *); (try simp only [i_lt, i_le, i_eq, l_lt, l_le, l_eq, Int32.toInt_toInt64, Int32.reduceToInt, Int64.reduceToInt] at *); omega))] | rw [if_neg (by ((try simp only [bI_0, bI_1, lc_lt, lc_gt, lc_le, lc_ge, Classical.not_not] at *); (try simp only [i_lt, i_le, i_eq, l_lt, l_le, l_eq, Int32.toInt_toInt64, Int32.reduceToInt, Int64.reduceToInt] at *); omega))]))
          · refine r_aload_n (j := 1) rfl rfl dX12_told_130 ?_
            refine w_getR (b := 108) fX12_239 rfl rfl dX12_told_131 ?_
            refine r_iload_n (j := 0) rfl rfl dX12_told_134 ?_
            refine w_iald rfl (by first | assumption | (rw [vp_in_iff]; ((try simp only [bI_0, bI_1, lc_lt, lc_gt, lc_le, lc_ge, Classical.not_not] at *); (try simp only [i_lt, i_le, i_eq, l_lt, l_le, l_eq, Int32.toInt_toInt64, Int32.reduceToInt, Int64.reduceToInt] at *); omega))) dX12_told_135 ?_
            refine r_goto (tgt := 145) dX12_told_136 (by decide) ?_
            refine w_iret rfl (rfl) (Nat.le_of_ble_eq_true rfl) (Nat.le_of_ble_eq_true rfl) dX12_told_145 ?_
            refine ⟨?_, rfl, rfl, rfl⟩
            unfold tmS
            rw [← ex2_4]
            first | (exfalso; ((try simp only [bI_0, bI_1, lc_lt, lc_gt, lc_le, lc_ge, Classical.not_not] at *); (try simp only [i_lt, i_le, i_eq, l_lt, l_le, l_eq, Int32.toInt_toInt64, Int32.reduceToInt, Int64.reduceToInt] at *); omega)) | (repeat (first | rfl | rw [if_pos (by ((try simp only [bI_0, bI_1, lc_lt, lc_gt, lc_le, lc_ge, Classical.not_not] at *); (try simp only [i_lt, i_le, i_eq, l_lt, l_le, l_eq, Int32.toInt_toInt64, Int32.reduceToInt, Int64.reduceToInt] at *); omega))] | rw [if_neg (by ((try simp only [bI_0, bI_1, lc_lt, lc_gt, lc_le, lc_ge, Classical.not_not] at *); (try simp only [i_lt, i_le, i_eq, l_lt, l_le, l_eq, Int32.toInt_toInt64, Int32.reduceToInt, Int64.reduceToInt] at *); omega))]))
        · refine r_aload_n (j := 1) rfl rfl dX12_told_115 ?_
          refine w_getR (b := 107) fX12_236 rfl rfl dX12_told_116 ?_
          refine r_iload_n (j := 0) rfl rfl dX12_told_119 ?_
          refine w_iald rfl (by first | assumption | (rw [vp_in_iff]; ((try simp only [bI_0, bI_1, lc_lt, lc_gt, lc_le, lc_ge, Classical.not_not] at *); (try simp only [i_lt, i_le, i_eq, l_lt, l_le, l_eq, Int32.toInt_toInt64, Int32.reduceToInt, Int64.reduceToInt] at *); omega))) dX12_told_120 ?_
          refine r_goto (tgt := 145) dX12_told_121 (by decide) ?_
          refine w_iret rfl (rfl) (Nat.le_of_ble_eq_true rfl) (Nat.le_of_ble_eq_true rfl) dX12_told_145 ?_
          refine ⟨?_, rfl, rfl, rfl⟩
          unfold tmS
          rw [← ex2_4]
          first | (exfalso; ((try simp only [bI_0, bI_1, lc_lt, lc_gt, lc_le, lc_ge, Classical.not_not] at *); (try simp only [i_lt, i_le, i_eq, l_lt, l_le, l_eq, Int32.toInt_toInt64, Int32.reduceToInt, Int64.reduceToInt] at *); omega)) | (repeat (first | rfl | rw [if_pos (by ((try simp only [bI_0, bI_1, lc_lt, lc_gt, lc_le, lc_ge, Classical.not_not] at *); (try simp only [i_lt, i_le, i_eq, l_lt, l_le, l_eq, Int32.toInt_toInt64, Int32.reduceToInt, Int64.reduceToInt] at *); omega))] | rw [if_neg (by ((try simp only [bI_0, bI_1, lc_lt, lc_gt, lc_le, lc_ge, Classical.not_not] at *); (try simp only [i_lt, i_le, i_eq, l_lt, l_le, l_eq, Int32.toInt_toInt64, Int32.reduceToInt, Int64.reduceToInt] at *); omega))]))
      · refine r_iconst (v := (-1)) rfl dX12_told_105 ?_
        refine r_goto (tgt := 145) dX12_told_106 (by decide) ?_
        refine w_iret rfl (rfl) (Nat.le_of_ble_eq_true rfl) (Nat.le_of_ble_eq_true rfl) dX12_told_145 ?_
        refine ⟨?_, rfl, rfl, rfl⟩
        unfold tmS
        rw [← ex2_4]
        first | (exfalso; ((try simp only [bI_0, bI_1, lc_lt, lc_gt, lc_le, lc_ge, Classical.not_not] at *); (try simp only [i_lt, i_le, i_eq, l_lt, l_le, l_eq, Int32.toInt_toInt64, Int32.reduceToInt, Int64.reduceToInt] at *); omega)) | (repeat (first | rfl | rw [if_pos (by ((try simp only [bI_0, bI_1, lc_lt, lc_gt, lc_le, lc_ge, Classical.not_not] at *); (try simp only [i_lt, i_le, i_eq, l_lt, l_le, l_eq, Int32.toInt_toInt64, Int32.reduceToInt, Int64.reduceToInt] at *); omega))] | rw [if_neg (by ((try simp only [bI_0, bI_1, lc_lt, lc_gt, lc_le, lc_ge, Classical.not_not] at *); (try simp only [i_lt, i_le, i_eq, l_lt, l_le, l_eq, Int32.toInt_toInt64, Int32.reduceToInt, Int64.reduceToInt] at *); omega))]))
  · refine r_iload_n (j := 0) rfl rfl dX12_told_19 ?_
    refine r_aload_n (j := 1) rfl rfl dX12_told_20 ?_
    refine w_getI fX12_355 rfl dX12_told_21 ?_
    refine r_icmp_lt (tgt := 31) dX12_told_24 (by decide) (fun c24 => ?_) (fun c24 => ?_)
    · refine r_iload_n (j := 2) rfl rfl dX12_told_31 ?_
      refine r_bipush (v := 30) rfl dX12_told_32 ?_
      refine r_icmp_ge (tgt := 46) dX12_told_34 (by decide) (fun c34 => ?_) (fun c34 => ?_)
      · refine r_iload_n (j := 2) rfl rfl dX12_told_46 ?_
        refine r_bipush (v := 40) rfl dX12_told_47 ?_
        refine r_icmp_ge (tgt := 61) dX12_told_49 (by decide) (fun c49 => ?_) (fun c49 => ?_)
        · refine r_iload_n (j := 2) rfl rfl dX12_told_61 ?_
          refine r_bipush (v := 50) rfl dX12_told_62 ?_
          refine r_icmp_ge (tgt := 76) dX12_told_64 (by decide) (fun c64 => ?_) (fun c64 => ?_)
          · refine r_aload_n (j := 1) rfl rfl dX12_told_76 ?_
            refine w_getR (b := 105) fX12_231 rfl rfl dX12_told_77 ?_
            refine r_iload_n (j := 0) rfl rfl dX12_told_80 ?_
            refine w_iald rfl (by first | assumption | (rw [vp_in_iff]; ((try simp only [bI_0, bI_1, lc_lt, lc_gt, lc_le, lc_ge, Classical.not_not] at *); (try simp only [i_lt, i_le, i_eq, l_lt, l_le, l_eq, Int32.toInt_toInt64, Int32.reduceToInt, Int64.reduceToInt] at *); omega))) dX12_told_81 ?_
            refine w_iret rfl (rfl) (Nat.le_of_ble_eq_true rfl) (Nat.le_of_ble_eq_true rfl) dX12_told_82 ?_
            refine ⟨?_, rfl, rfl, rfl⟩
            unfold tmS
            rw [← ex2_4]
            first | (exfalso; ((try simp only [bI_0, bI_1, lc_lt, lc_gt, lc_le, lc_ge, Classical.not_not] at *); (try simp only [i_lt, i_le, i_eq, l_lt, l_le, l_eq, Int32.toInt_toInt64, Int32.reduceToInt, Int64.reduceToInt] at *); omega)) | (repeat (first | rfl | rw [if_pos (by ((try simp only [bI_0, bI_1, lc_lt, lc_gt, lc_le, lc_ge, Classical.not_not] at *); (try simp only [i_lt, i_le, i_eq, l_lt, l_le, l_eq, Int32.toInt_toInt64, Int32.reduceToInt, Int64.reduceToInt] at *); omega))] | rw [if_neg (by ((try simp only [bI_0, bI_1, lc_lt, lc_gt, lc_le, lc_ge, Classical.not_not] at *); (try simp only [i_lt, i_le, i_eq, l_lt, l_le, l_eq, Int32.toInt_toInt64, Int32.reduceToInt, Int64.reduceToInt] at *); omega))]))
          · refine r_aload_n (j := 1) rfl rfl dX12_told_67 ?_
            refine w_getR (b := 104) fX12_228 rfl rfl dX12_told_68 ?_
            refine r_iload_n (j := 0) rfl rfl dX12_told_71 ?_
            refine w_iald rfl (by first | assumption | (rw [vp_in_iff]; ((try simp only [bI_0, bI_1, lc_lt, lc_gt, lc_le, lc_ge, Classical.not_not] at *); (try simp only [i_lt, i_le, i_eq, l_lt, l_le, l_eq, Int32.toInt_toInt64, Int32.reduceToInt, Int64.reduceToInt] at *); omega))) dX12_told_72 ?_
            refine r_goto (tgt := 82) dX12_told_73 (by decide) ?_
            refine w_iret rfl (rfl) (Nat.le_of_ble_eq_true rfl) (Nat.le_of_ble_eq_true rfl) dX12_told_82 ?_
            refine ⟨?_, rfl, rfl, rfl⟩
            unfold tmS
            rw [← ex2_4]
            first | (exfalso; ((try simp only [bI_0, bI_1, lc_lt, lc_gt, lc_le, lc_ge, Classical.not_not] at *); (try simp only [i_lt, i_le, i_eq, l_lt, l_le, l_eq, Int32.toInt_toInt64, Int32.reduceToInt, Int64.reduceToInt] at *); omega)) | (repeat (first | rfl | rw [if_pos (by ((try simp only [bI_0, bI_1, lc_lt, lc_gt, lc_le, lc_ge, Classical.not_not] at *); (try simp only [i_lt, i_le, i_eq, l_lt, l_le, l_eq, Int32.toInt_toInt64, Int32.reduceToInt, Int64.reduceToInt] at *); omega))] | rw [if_neg (by ((try simp only [bI_0, bI_1, lc_lt, lc_gt, lc_le, lc_ge, Classical.not_not] at *); (try simp only [i_lt, i_le, i_eq, l_lt, l_le, l_eq, Int32.toInt_toInt64, Int32.reduceToInt, Int64.reduceToInt] at *); omega))]))
        · refine r_aload_n (j := 1) rfl rfl dX12_told_52 ?_
          refine w_getR (b := 103) fX12_225 rfl rfl dX12_told_53 ?_
          refine r_iload_n (j := 0) rfl rfl dX12_told_56 ?_
          refine w_iald rfl (by first | assumption | (rw [vp_in_iff]; ((try simp only [bI_0, bI_1, lc_lt, lc_gt, lc_le, lc_ge, Classical.not_not] at *); (try simp only [i_lt, i_le, i_eq, l_lt, l_le, l_eq, Int32.toInt_toInt64, Int32.reduceToInt, Int64.reduceToInt] at *); omega))) dX12_told_57 ?_
          refine r_goto (tgt := 82) dX12_told_58 (by decide) ?_
          refine w_iret rfl (rfl) (Nat.le_of_ble_eq_true rfl) (Nat.le_of_ble_eq_true rfl) dX12_told_82 ?_
          refine ⟨?_, rfl, rfl, rfl⟩
          unfold tmS
          rw [← ex2_4]
          first | (exfalso; ((try simp only [bI_0, bI_1, lc_lt, lc_gt, lc_le, lc_ge, Classical.not_not] at *); (try simp only [i_lt, i_le, i_eq, l_lt, l_le, l_eq, Int32.toInt_toInt64, Int32.reduceToInt, Int64.reduceToInt] at *); omega)) | (repeat (first | rfl | rw [if_pos (by ((try simp only [bI_0, bI_1, lc_lt, lc_gt, lc_le, lc_ge, Classical.not_not] at *); (try simp only [i_lt, i_le, i_eq, l_lt, l_le, l_eq, Int32.toInt_toInt64, Int32.reduceToInt, Int64.reduceToInt] at *); omega))] | rw [if_neg (by ((try simp only [bI_0, bI_1, lc_lt, lc_gt, lc_le, lc_ge, Classical.not_not] at *); (try simp only [i_lt, i_le, i_eq, l_lt, l_le, l_eq, Int32.toInt_toInt64, Int32.reduceToInt, Int64.reduceToInt] at *); omega))]))
      · refine r_aload_n (j := 1) rfl rfl dX12_told_37 ?_
        refine w_getR (b := 102) fX12_222 rfl rfl dX12_told_38 ?_
        refine r_iload_n (j := 0) rfl rfl dX12_told_41 ?_
        refine w_iald rfl (by first | assumption | (rw [vp_in_iff]; ((try simp only [bI_0, bI_1, lc_lt, lc_gt, lc_le, lc_ge, Classical.not_not] at *); (try simp only [i_lt, i_le, i_eq, l_lt, l_le, l_eq, Int32.toInt_toInt64, Int32.reduceToInt, Int64.reduceToInt] at *); omega))) dX12_told_42 ?_
        refine r_goto (tgt := 82) dX12_told_43 (by decide) ?_
        refine w_iret rfl (rfl) (Nat.le_of_ble_eq_true rfl) (Nat.le_of_ble_eq_true rfl) dX12_told_82 ?_
        refine ⟨?_, rfl, rfl, rfl⟩
        unfold tmS
        rw [← ex2_4]
        first | (exfalso; ((try simp only [bI_0, bI_1, lc_lt, lc_gt, lc_le, lc_ge, Classical.not_not] at *); (try simp only [i_lt, i_le, i_eq, l_lt, l_le, l_eq, Int32.toInt_toInt64, Int32.reduceToInt, Int64.reduceToInt] at *); omega)) | (repeat (first | rfl | rw [if_pos (by ((try simp only [bI_0, bI_1, lc_lt, lc_gt, lc_le, lc_ge, Classical.not_not] at *); (try simp only [i_lt, i_le, i_eq, l_lt, l_le, l_eq, Int32.toInt_toInt64, Int32.reduceToInt, Int64.reduceToInt] at *); omega))] | rw [if_neg (by ((try simp only [bI_0, bI_1, lc_lt, lc_gt, lc_le, lc_ge, Classical.not_not] at *); (try simp only [i_lt, i_le, i_eq, l_lt, l_le, l_eq, Int32.toInt_toInt64, Int32.reduceToInt, Int64.reduceToInt] at *); omega))]))
    · refine r_iconst (v := (-1)) rfl dX12_told_27 ?_
      refine r_goto (tgt := 82) dX12_told_28 (by decide) ?_
      refine w_iret rfl (rfl) (Nat.le_of_ble_eq_true rfl) (Nat.le_of_ble_eq_true rfl) dX12_told_82 ?_
      refine ⟨?_, rfl, rfl, rfl⟩
      unfold tmS
      rw [← ex2_4]
      first | (exfalso; ((try simp only [bI_0, bI_1, lc_lt, lc_gt, lc_le, lc_ge, Classical.not_not] at *); (try simp only [i_lt, i_le, i_eq, l_lt, l_le, l_eq, Int32.toInt_toInt64, Int32.reduceToInt, Int64.reduceToInt] at *); omega)) | (repeat (first | rfl | rw [if_pos (by ((try simp only [bI_0, bI_1, lc_lt, lc_gt, lc_le, lc_ge, Classical.not_not] at *); (try simp only [i_lt, i_le, i_eq, l_lt, l_le, l_eq, Int32.toInt_toInt64, Int32.reduceToInt, Int64.reduceToInt] at *); omega))] | rw [if_neg (by ((try simp only [bI_0, bI_1, lc_lt, lc_gt, lc_le, lc_ge, Classical.not_not] at *); (try simp only [i_lt, i_le, i_eq, l_lt, l_le, l_eq, Int32.toInt_toInt64, Int32.reduceToInt, Int64.reduceToInt] at *); omega))]))
end
