/-! the model: keep, take -/
section
variable {sc : Sc} {I : Is} {L : Ls} {tg : Nat}
def kpf (I : Is) (o : Nat) : Int32 := if o < 15 then I (120 + o % 5) (o / 5) else if o < 20 then I 125 (o - 15) else if o < 24 then I 126 (o - 20) else if o = 24 then I 95 49 else I 95 48
def kpW (I : Is) (k m : Nat) : Is := upr I 127 (ins (I 127) (kpf I) k m)
theorem kpW_n (I : Is) (k m : Nat) {q : Nat} (h : q ≠ 127) : kpW I k m q = I q := upr_n _ _ h
theorem kst {I J : Is} {k m : Nat} {v : Int32} (eJ : J = kpW I k m) (hv : v = kpf I m) : up J 127 (k + m) v = kpW I k (m + 1) := by
  subst eJ hv
  unfold kpW
  rw [upr_up, ins_s]
theorem kpf_t (I : Is) {i r : Nat} (hi : i < 3) (hr : r < 5) : kpf I (5 * i + r) = I (120 + r) i := by
  unfold kpf
  rw [if_pos (by omega), show (5 * i + r) % 5 = r by omega, show (5 * i + r) / 5 = i by omega]
theorem kpf_s (I : Is) {i : Nat} (hi : i < 5) : kpf I (15 + i) = I 125 i := by
  unfold kpf
  rw [if_neg (by omega), if_pos (by omega), Nat.add_sub_cancel_left]
theorem kpf_h (I : Is) {i : Nat} (hi : i < 4) : kpf I (20 + i) = I 126 i := by
  unfold kpf
  rw [if_neg (by omega), if_neg (by omega), if_pos (by omega), Nat.add_sub_cancel_left]
theorem k_X12_isSlot {s : Int32} : Con sc mX12_isSlot 1 0 0 [.int s] (XW I L tg) (rI (bI (0 ≤ s.toInt ∧ s.toInt ≤ 1)) (XW I L tg)) := by
  refine Con_of (by decide) (Nat.le_of_ble_eq_true rfl) ?_
  refine r_iload_n (j := 0) rfl rfl dX12_isSlot_0 ?_
  refine r_i2l dX12_isSlot_1 ?_
  refine r_lconst (v := 0) rfl dX12_isSlot_2 ?_
  refine r_lconst (v := 1) rfl dX12_isSlot_3 ?_
  refine w_cS3p (k_X12_in) (Nat.le_of_ble_eq_true rfl) lX12_52 mtX12_in (Nat.le_of_ble_eq_true rfl) (Nat.le_of_ble_eq_true rfl) (Nat.le_of_ble_eq_true rfl) dX12_isSlot_4 ?_
  refine w_iret rfl (bI_n _) (Nat.le_of_ble_eq_true rfl) (Nat.le_of_ble_eq_true rfl) dX12_isSlot_7 ?_
  exact ⟨bI_cg (by rw [Int32.toInt_toInt64]; exact Iff.rfl), rfl, rfl, rfl⟩
theorem k_X12_keep_r {s : Int32} (hc : ¬ (0 ≤ s.toInt ∧ s.toInt ≤ 1)) : Con sc mX12_keep 2 0 0 [.ref 95, .int s] (XW I L tg) (rI (-2) (XW I L tg)) := by
  refine Con_of (by decide) (Nat.le_of_ble_eq_true rfl) ?_
  refine r_iload_n (j := 1) rfl rfl dX12_keep_0 ?_
  refine w_cS1p (k_X12_isSlot) (Nat.le_of_ble_eq_true rfl) lX12_455 mtX12_isSlot (Nat.le_of_ble_eq_true rfl) (Nat.le_of_ble_eq_true rfl) (Nat.le_of_ble_eq_true rfl) dX12_keep_1 ?_
  refine r_if_ne (tgt := 10) dX12_keep_4 (by decide) (fun c4 => ?_) (fun c4 => ?_)
  · exact absurd (bI_1.mp c4) hc
  · refine r_bipush (v := (-2)) rfl dX12_keep_7 ?_
    refine w_iret rfl (rfl) (Nat.le_of_ble_eq_true rfl) (Nat.le_of_ble_eq_true rfl) dX12_keep_9 ?_
    exact ⟨rfl, rfl, rfl, rfl⟩
def kpI (I : Is) (sn : Nat) : Is := up (kpW I (26 * sn) 26) 129 sn 1
theorem l_X12_kp3 {sn : Nat} (hs : sn < 2) (t0 : 0 ≤ (I 95 48).toInt) (t3 : (I 95 48).toInt ≤ 3) : ∀ n i : Nat, i + n = 4 → ∀ (J : Is) (x : Int32), J = kpW I (26 * sn) (20 + i) → x.toInt = i → RR sc mX12_keep 2 0 0 (rI (sm (I 121) (nN (I 95 48))) (XW (kpI I sn) (up L 128 sn (L 95 47)) tg)) 0 0 148 [(3, .int x), (2, .int (nI (26 * sn + 15))), (0, .ref 95), (1, .int (nI sn))] [] (XW J L tg) := by
  have hsi : (nI sn).toInt = sn := nI_toInt (by omega)
  have csn := cl_of hsi
  have ins := up_in hsi hs
  intro n
  induction n with
  | zero =>
    intro i hi J x eJ hx
    have e4 : i = 4 := by omega
    subst e4
    have a1 : nI (26 * sn + 15) + 5 + 4 = nI (26 * sn + 24) := by rw [show (5 : Int32) = nI 5 from rfl, show (4 : Int32) = nI 4 from rfl, nI_add, nI_add]
    refine r_iload_n (j := 0) rfl rfl dX12_keep_148 ?_
    refine r_iconst (v := 4) rfl dX12_keep_149 ?_
    refine r_icmp_ge (tgt := 175) dX12_keep_150 (by decide) (fun c150 => ?_) (fun c150 => ?_)
    · refine r_aload_n (j := 2) rfl rfl dX12_keep_175 ?_
      refine w_getR (b := 127) fX12_272 rfl rfl dX12_keep_176 ?_
      refine r_iload_n (j := 1) rfl rfl dX12_keep_179 ?_
      refine r_iconst (v := 5) rfl dX12_keep_180 ?_
      refine r_iadd dX12_keep_181 ?_
      refine r_iconst (v := 4) rfl dX12_keep_182 ?_
      refine r_iadd dX12_keep_183 ?_
      refine r_aload_n (j := 2) rfl rfl dX12_keep_184 ?_
      refine w_getI fX12_373 rfl dX12_keep_185 ?_
      refine w_iast rfl (by rw [a1]; exact vp_in_nI (by omega) (by omega)) dX12_keep_188 (fun J188 hJ188 => ?_)
      have f1 : J188 = kpW I (26 * sn) 25 := by { rw [hJ188, a1, nI_clamp (by omega)]; exact kst eJ (by rw [eJ, kpW_n _ _ _ (by decide)]; rfl) }
      refine r_aload_n (j := 2) rfl rfl dX12_keep_189 ?_
      refine w_getR (b := 127) fX12_272 rfl rfl dX12_keep_190 ?_
      refine r_iload_n (j := 1) rfl rfl dX12_keep_193 ?_
      refine r_iconst (v := 5) rfl dX12_keep_194 ?_
      refine r_iadd dX12_keep_195 ?_
      refine r_iconst (v := 4) rfl dX12_keep_196 ?_
      refine r_iadd dX12_keep_197 ?_
      refine r_iconst (v := 1) rfl dX12_keep_198 ?_
      refine r_iadd dX12_keep_199 ?_
      refine r_aload_n (j := 2) rfl rfl dX12_keep_200 ?_
      refine w_getI fX12_370 rfl dX12_keep_201 ?_
      refine w_iast rfl (by rw [a1, nI_1]; exact vp_in_nI (by omega) (by omega)) dX12_keep_204 (fun J204 hJ204 => ?_)
      have f2 : J204 = kpW I (26 * sn) 26 := by { rw [hJ204, a1, nI_1, nI_clamp (by omega)]; exact kst f1 (by rw [f1, kpW_n _ _ _ (by decide)]; rfl) }
      refine r_aload_n (j := 2) rfl rfl dX12_keep_205 ?_
      refine w_getR (b := 128) fX12_275 rfl rfl dX12_keep_206 ?_
      refine r_iload_n (j := 3) rfl rfl dX12_keep_209 ?_
      refine r_aload_n (j := 2) rfl rfl dX12_keep_210 ?_
      refine w_getL fX12_248 rfl dX12_keep_211 ?_
      refine w_last rfl (by first | assumption | (rw [vp_in_iff]; ((try simp only [bI_0, bI_1, lc_lt, lc_gt, lc_le, lc_ge, Classical.not_not] at *); (try simp only [i_lt, i_le, i_eq, l_lt, l_le, l_eq, Int32.toInt_toInt64, Int32.reduceToInt, Int64.reduceToInt] at *); omega))) dX12_keep_214 (fun J214 hJ214 => ?_)
      refine r_aload_n (j := 2) rfl rfl dX12_keep_215 ?_
      refine w_getR (b := 129) fX12_278 rfl rfl dX12_keep_216 ?_
      refine r_iload_n (j := 3) rfl rfl dX12_keep_219 ?_
      refine r_iconst (v := 1) rfl dX12_keep_220 ?_
      refine w_zast rfl (by first | assumption | (rw [vp_in_iff]; ((try simp only [bI_0, bI_1, lc_lt, lc_gt, lc_le, lc_ge, Classical.not_not] at *); (try simp only [i_lt, i_le, i_eq, l_lt, l_le, l_eq, Int32.toInt_toInt64, Int32.reduceToInt, Int64.reduceToInt] at *); omega))) dX12_keep_221 (fun J221 hJ221 => ?_)
      have f3 : J221 = kpI I sn := by { rw [hJ221, f2, csn]; rfl }
      refine r_aload_n (j := 2) rfl rfl dX12_keep_222 ?_
      refine w_cV0p (k_X12_allFeet (by rw [f3]; simpa [kpI, up_eq, kpW, upr_eq] using t0) (by rw [f3]; simpa [kpI, up_eq, kpW, upr_eq] using t3)) (Nat.le_of_ble_eq_true rfl) lX12_458 vmX12_allFeet rfl (Nat.le_of_ble_eq_true rfl) (Nat.le_of_ble_eq_true rfl) (Nat.le_of_ble_eq_true rfl) dX12_keep_223 ?_
      refine w_iret rfl (rfl) (Nat.le_of_ble_eq_true rfl) (Nat.le_of_ble_eq_true rfl) dX12_keep_226 ?_
      refine ⟨?_, f3, ?_, rfl⟩
      · rw [f3]
        simp [kpI, up_eq, kpW, upr_eq]
      · rw [hJ214, csn]
    · exfalso; ((try simp only [bI_0, bI_1, lc_lt, lc_gt, lc_le, lc_ge, Classical.not_not] at *); (try simp only [i_lt, i_le, i_eq, l_lt, l_le, l_eq, Int32.toInt_toInt64, Int32.reduceToInt, Int64.reduceToInt] at *); omega)
  | succ n ih =>
    intro i hi J x eJ hx
    have cx := cl_of hx
    obtain rfl := x_nI hx
    have a1 : nI (26 * sn + 15) + 5 + nI i = nI (26 * sn + (20 + i)) := by rw [show (5 : Int32) = nI 5 from rfl, nI_add, nI_add]; congr 1; omega
    refine r_iload_n (j := 0) rfl rfl dX12_keep_148 ?_
    refine r_iconst (v := 4) rfl dX12_keep_149 ?_
    refine r_icmp_ge (tgt := 175) dX12_keep_150 (by decide) (fun c150 => ?_) (fun c150 => ?_)
    · exfalso; ((try simp only [bI_0, bI_1, lc_lt, lc_gt, lc_le, lc_ge, Classical.not_not] at *); (try simp only [i_lt, i_le, i_eq, l_lt, l_le, l_eq, Int32.toInt_toInt64, Int32.reduceToInt, Int64.reduceToInt] at *); omega)
    · refine r_aload_n (j := 2) rfl rfl dX12_keep_153 ?_
      refine w_getR (b := 127) fX12_272 rfl rfl dX12_keep_154 ?_
      refine r_iload_n (j := 1) rfl rfl dX12_keep_157 ?_
      refine r_iconst (v := 5) rfl dX12_keep_158 ?_
      refine r_iadd dX12_keep_159 ?_
      refine r_iload_n (j := 0) rfl rfl dX12_keep_160 ?_
      refine r_iadd dX12_keep_161 ?_
      refine r_aload_n (j := 2) rfl rfl dX12_keep_162 ?_
      refine w_getR (b := 126) fX12_269 rfl rfl dX12_keep_163 ?_
      refine r_iload_n (j := 0) rfl rfl dX12_keep_166 ?_
      refine w_iald rfl (up_in hx (by omega)) dX12_keep_167 ?_
      refine w_iast rfl (by rw [a1]; exact vp_in_nI (by omega) (by omega)) dX12_keep_168 (fun J168 hJ168 => ?_)
      refine r_iinc (j := 0) (lv' := fun z => [(3, .int z), (2, .int (nI (26*sn+15))), (0, .ref 95), (1, .int (nI sn))]) dX12_keep_169 rfl (Nat.le_of_ble_eq_true rfl) (fun _ => rfl) (fun x3_169 ex3_169 => ?_)
      refine r_goto (tgt := 148) dX12_keep_172 (by decide) ?_
      refine ih (i + 1) (by omega) _ _ ?_ (by rw [ex3_169]; exact i_inc hx (by omega))
      rw [hJ168, a1, nI_clamp (by omega), cx]
      exact kst eJ (by rw [eJ, kpW_n _ _ _ (by decide), kpf_h I (by omega)])
theorem l_X12_kp2 {sn : Nat} (hs : sn < 2) (t0 : 0 ≤ (I 95 48).toInt) (t3 : (I 95 48).toInt ≤ 3) : ∀ n i : Nat, i + n = 5 → ∀ (J : Is) (x : Int32), J = kpW I (26 * sn) (15 + i) → x.toInt = i → RR sc mX12_keep 2 0 0 (rI (sm (I 121) (nN (I 95 48))) (XW (kpI I sn) (up L 128 sn (L 95 47)) tg)) 0 0 121 [(3, .int x), (2, .int (nI (26 * sn + 15))), (0, .ref 95), (1, .int (nI sn))] [] (XW J L tg) := by
  intro n
  induction n with
  | zero =>
    intro i hi J x eJ hx
    refine r_iload_n (j := 0) rfl rfl dX12_keep_121 ?_
    refine r_iconst (v := 5) rfl dX12_keep_122 ?_
    refine r_icmp_ge (tgt := 146) dX12_keep_123 (by decide) (fun c123 => ?_) (fun c123 => ?_)
    · refine r_iconst (v := 0) rfl dX12_keep_146 ?_
      refine r_istore_n (lv' := fun z => [(3, .int z), (2, .int (nI (26*sn+15))), (0, .ref 95), (1, .int (nI sn))]) dX12_keep_147 rfl (Nat.le_of_ble_eq_true rfl) (fun _ => rfl) (fun x3_147 ex3_147 => ?_)
      exact l_X12_kp3 hs t0 t3 4 0 rfl _ _ (by rw [eJ, show i = 5 by omega]) (by rw [ex3_147]; rfl)
    · exfalso; ((try simp only [bI_0, bI_1, lc_lt, lc_gt, lc_le, lc_ge, Classical.not_not] at *); (try simp only [i_lt, i_le, i_eq, l_lt, l_le, l_eq, Int32.toInt_toInt64, Int32.reduceToInt, Int64.reduceToInt] at *); omega)
  | succ n ih =>
    intro i hi J x eJ hx
    have cx := cl_of hx
    obtain rfl := x_nI hx
    have a1 : nI (26 * sn + 15) + nI i = nI (26 * sn + (15 + i)) := by rw [nI_add]; congr 1; omega
    refine r_iload_n (j := 0) rfl rfl dX12_keep_121 ?_
    refine r_iconst (v := 5) rfl dX12_keep_122 ?_
    refine r_icmp_ge (tgt := 146) dX12_keep_123 (by decide) (fun c123 => ?_) (fun c123 => ?_)
    · exfalso; ((try simp only [bI_0, bI_1, lc_lt, lc_gt, lc_le, lc_ge, Classical.not_not] at *); (try simp only [i_lt, i_le, i_eq, l_lt, l_le, l_eq, Int32.toInt_toInt64, Int32.reduceToInt, Int64.reduceToInt] at *); omega)
    · refine r_aload_n (j := 2) rfl rfl dX12_keep_126 ?_
      refine w_getR (b := 127) fX12_272 rfl rfl dX12_keep_127 ?_
      refine r_iload_n (j := 1) rfl rfl dX12_keep_130 ?_
      refine r_iload_n (j := 0) rfl rfl dX12_keep_131 ?_
      refine r_iadd dX12_keep_132 ?_
      refine r_aload_n (j := 2) rfl rfl dX12_keep_133 ?_
      refine w_getR (b := 125) fX12_267 rfl rfl dX12_keep_134 ?_
      refine r_iload_n (j := 0) rfl rfl dX12_keep_137 ?_
      refine w_iald rfl (up_in hx (by omega)) dX12_keep_138 ?_
      refine w_iast rfl (by rw [a1]; exact vp_in_nI (by omega) (by omega)) dX12_keep_139 (fun J139 hJ139 => ?_)
      refine r_iinc (j := 0) (lv' := fun z => [(3, .int z), (2, .int (nI (26*sn+15))), (0, .ref 95), (1, .int (nI sn))]) dX12_keep_140 rfl (Nat.le_of_ble_eq_true rfl) (fun _ => rfl) (fun x3_140 ex3_140 => ?_)
      refine r_goto (tgt := 121) dX12_keep_143 (by decide) ?_
      refine ih (i + 1) (by omega) _ _ ?_ (by rw [ex3_140]; exact i_inc hx (by omega))
      rw [hJ139, a1, nI_clamp (by omega), cx]
      exact kst eJ (by rw [eJ, kpW_n _ _ _ (by decide), kpf_s I (by omega)])
theorem l_X12_kp1 {sn : Nat} (hs : sn < 2) (t0 : 0 ≤ (I 95 48).toInt) (t3 : (I 95 48).toInt ≤ 3) : ∀ n i : Nat, i + n = 3 → ∀ (J : Is) (x : Int32), J = kpW I (26 * sn) (5 * i) → x.toInt = i → RR sc mX12_keep 2 0 0 (rI (sm (I 121) (nN (I 95 48))) (XW (kpI I sn) (up L 128 sn (L 95 47)) tg)) 0 0 17 [(3, .int x), (2, .int (nI (26 * sn))), (0, .ref 95), (1, .int (nI sn))] [] (XW J L tg) := by
  intro n
  induction n with
  | zero =>
    intro i hi J x eJ hx
    refine r_iload_n (j := 0) rfl rfl dX12_keep_17 ?_
    refine r_iconst (v := 3) rfl dX12_keep_18 ?_
    refine r_icmp_ge (tgt := 116) dX12_keep_19 (by decide) (fun c19 => ?_) (fun c19 => ?_)
    · refine r_iinc (j := 1) (lv' := fun z => [(2, .int z), (3, .int x), (0, .ref 95), (1, .int (nI sn))]) dX12_keep_116 rfl (Nat.le_of_ble_eq_true rfl) (fun _ => rfl) (fun x2_116 ex2_116 => ?_)
      refine r_iconst (v := 0) rfl dX12_keep_119 ?_
      refine r_istore_n (lv' := fun z => [(3, .int z), (2, .int x2_116), (0, .ref 95), (1, .int (nI sn))]) dX12_keep_120 rfl (Nat.le_of_ble_eq_true rfl) (fun _ => rfl) (fun x3_120 ex3_120 => ?_)
      have e2 : x2_116 = nI (26 * sn + 15) := by rw [ex2_116]; exact nI_add _ 15
      rw [e2]
      exact l_X12_kp2 hs t0 t3 5 0 rfl _ _ (by rw [eJ, show i = 3 by omega]) (by rw [ex3_120]; rfl)
    · exfalso; ((try simp only [bI_0, bI_1, lc_lt, lc_gt, lc_le, lc_ge, Classical.not_not] at *); (try simp only [i_lt, i_le, i_eq, l_lt, l_le, l_eq, Int32.toInt_toInt64, Int32.reduceToInt, Int64.reduceToInt] at *); omega)
  | succ n ih =>
    intro i hi J x eJ hx
    have cx := cl_of hx
    obtain rfl := x_nI hx
    have hin := up_in (N := 3) hx (by omega)
    have a0 : nI (26 * sn) + 5 * nI i = nI (26 * sn + (5 * i + 0)) := by rw [show (5 : Int32) = nI 5 from rfl, pk_mul, nI_add]; rfl
    have a1 : nI (26 * sn) + 5 * nI i + 1 = nI (26 * sn + (5 * i + 1)) := by rw [a0, nI_1]; rfl
    have a2 : nI (26 * sn) + 5 * nI i + 2 = nI (26 * sn + (5 * i + 2)) := by rw [a0]; exact nI_add _ 2
    have a3 : nI (26 * sn) + 5 * nI i + 3 = nI (26 * sn + (5 * i + 3)) := by rw [a0]; exact nI_add _ 3
    have a4 : nI (26 * sn) + 5 * nI i + 4 = nI (26 * sn + (5 * i + 4)) := by rw [a0]; exact nI_add _ 4
    refine r_iload_n (j := 0) rfl rfl dX12_keep_17 ?_
    refine r_iconst (v := 3) rfl dX12_keep_18 ?_
    refine r_icmp_ge (tgt := 116) dX12_keep_19 (by decide) (fun c19 => ?_) (fun c19 => ?_)
    · exfalso; ((try simp only [bI_0, bI_1, lc_lt, lc_gt, lc_le, lc_ge, Classical.not_not] at *); (try simp only [i_lt, i_le, i_eq, l_lt, l_le, l_eq, Int32.toInt_toInt64, Int32.reduceToInt, Int64.reduceToInt] at *); omega)
    · refine r_aload_n (j := 2) rfl rfl dX12_keep_22 ?_
      refine w_getR (b := 127) fX12_272 rfl rfl dX12_keep_23 ?_
      refine r_iload_n (j := 1) rfl rfl dX12_keep_26 ?_
      refine r_iconst (v := 5) rfl dX12_keep_27 ?_
      refine r_iload_n (j := 0) rfl rfl dX12_keep_28 ?_
      refine r_imul dX12_keep_29 ?_
      refine r_iadd dX12_keep_30 ?_
      refine r_aload_n (j := 2) rfl rfl dX12_keep_31 ?_
      refine w_getR (b := 120) fX12_252 rfl rfl dX12_keep_32 ?_
      refine r_iload_n (j := 0) rfl rfl dX12_keep_35 ?_
      refine w_iald rfl (by first | assumption | (rw [vp_in_iff]; ((try simp only [bI_0, bI_1, lc_lt, lc_gt, lc_le, lc_ge, Classical.not_not] at *); (try simp only [i_lt, i_le, i_eq, l_lt, l_le, l_eq, Int32.toInt_toInt64, Int32.reduceToInt, Int64.reduceToInt] at *); omega))) dX12_keep_36 ?_
      refine w_iast rfl (by rw [a0]; exact vp_in_nI (by omega) (by omega)) dX12_keep_37 (fun J37 hJ37 => ?_)
      have f0 : J37 = kpW I (26 * sn) (5 * i + 0 + 1) := by { rw [hJ37, a0, nI_clamp (by omega), cx]; exact kst eJ (by rw [eJ, kpW_n _ _ _ (by decide), kpf_t I (by omega) (by omega)]) }
      refine r_aload_n (j := 2) rfl rfl dX12_keep_38 ?_
      refine w_getR (b := 127) fX12_272 rfl rfl dX12_keep_39 ?_
      refine r_iload_n (j := 1) rfl rfl dX12_keep_42 ?_
      refine r_iconst (v := 5) rfl dX12_keep_43 ?_
      refine r_iload_n (j := 0) rfl rfl dX12_keep_44 ?_
      refine r_imul dX12_keep_45 ?_
      refine r_iadd dX12_keep_46 ?_
      refine r_iconst (v := 1) rfl dX12_keep_47 ?_
      refine r_iadd dX12_keep_48 ?_
      refine r_aload_n (j := 2) rfl rfl dX12_keep_49 ?_
      refine w_getR (b := 121) fX12_255 rfl rfl dX12_keep_50 ?_
      refine r_iload_n (j := 0) rfl rfl dX12_keep_53 ?_
      refine w_iald rfl (by first | assumption | (rw [vp_in_iff]; ((try simp only [bI_0, bI_1, lc_lt, lc_gt, lc_le, lc_ge, Classical.not_not] at *); (try simp only [i_lt, i_le, i_eq, l_lt, l_le, l_eq, Int32.toInt_toInt64, Int32.reduceToInt, Int64.reduceToInt] at *); omega))) dX12_keep_54 ?_
      refine w_iast rfl (by rw [a1]; exact vp_in_nI (by omega) (by omega)) dX12_keep_55 (fun J55 hJ55 => ?_)
      have f1 : J55 = kpW I (26 * sn) (5 * i + 1 + 1) := by { rw [hJ55, a1, nI_clamp (by omega), cx]; exact kst f0 (by rw [f0, kpW_n _ _ _ (by decide)]; exact (kpf_t I (i := i) (r := 1) (by omega) (by omega)).symm) }
      refine r_aload_n (j := 2) rfl rfl dX12_keep_56 ?_
      refine w_getR (b := 127) fX12_272 rfl rfl dX12_keep_57 ?_
      refine r_iload_n (j := 1) rfl rfl dX12_keep_60 ?_
      refine r_iconst (v := 5) rfl dX12_keep_61 ?_
      refine r_iload_n (j := 0) rfl rfl dX12_keep_62 ?_
      refine r_imul dX12_keep_63 ?_
      refine r_iadd dX12_keep_64 ?_
      refine r_iconst (v := 2) rfl dX12_keep_65 ?_
      refine r_iadd dX12_keep_66 ?_
      refine r_aload_n (j := 2) rfl rfl dX12_keep_67 ?_
      refine w_getR (b := 122) fX12_258 rfl rfl dX12_keep_68 ?_
      refine r_iload_n (j := 0) rfl rfl dX12_keep_71 ?_
      refine w_iald rfl (by first | assumption | (rw [vp_in_iff]; ((try simp only [bI_0, bI_1, lc_lt, lc_gt, lc_le, lc_ge, Classical.not_not] at *); (try simp only [i_lt, i_le, i_eq, l_lt, l_le, l_eq, Int32.toInt_toInt64, Int32.reduceToInt, Int64.reduceToInt] at *); omega))) dX12_keep_72 ?_
      refine w_iast rfl (by rw [a2]; exact vp_in_nI (by omega) (by omega)) dX12_keep_73 (fun J73 hJ73 => ?_)
      have f2 : J73 = kpW I (26 * sn) (5 * i + 2 + 1) := by { rw [hJ73, a2, nI_clamp (by omega), cx]; exact kst f1 (by rw [f1, kpW_n _ _ _ (by decide)]; exact (kpf_t I (i := i) (r := 2) (by omega) (by omega)).symm) }
      refine r_aload_n (j := 2) rfl rfl dX12_keep_74 ?_
      refine w_getR (b := 127) fX12_272 rfl rfl dX12_keep_75 ?_
      refine r_iload_n (j := 1) rfl rfl dX12_keep_78 ?_
      refine r_iconst (v := 5) rfl dX12_keep_79 ?_
      refine r_iload_n (j := 0) rfl rfl dX12_keep_80 ?_
      refine r_imul dX12_keep_81 ?_
      refine r_iadd dX12_keep_82 ?_
      refine r_iconst (v := 3) rfl dX12_keep_83 ?_
      refine r_iadd dX12_keep_84 ?_
      refine r_aload_n (j := 2) rfl rfl dX12_keep_85 ?_
      refine w_getR (b := 123) fX12_261 rfl rfl dX12_keep_86 ?_
      refine r_iload_n (j := 0) rfl rfl dX12_keep_89 ?_
      refine w_iald rfl (by first | assumption | (rw [vp_in_iff]; ((try simp only [bI_0, bI_1, lc_lt, lc_gt, lc_le, lc_ge, Classical.not_not] at *); (try simp only [i_lt, i_le, i_eq, l_lt, l_le, l_eq, Int32.toInt_toInt64, Int32.reduceToInt, Int64.reduceToInt] at *); omega))) dX12_keep_90 ?_
      refine w_iast rfl (by rw [a3]; exact vp_in_nI (by omega) (by omega)) dX12_keep_91 (fun J91 hJ91 => ?_)
      have f3 : J91 = kpW I (26 * sn) (5 * i + 3 + 1) := by { rw [hJ91, a3, nI_clamp (by omega), cx]; exact kst f2 (by rw [f2, kpW_n _ _ _ (by decide)]; exact (kpf_t I (i := i) (r := 3) (by omega) (by omega)).symm) }
      refine r_aload_n (j := 2) rfl rfl dX12_keep_92 ?_
      refine w_getR (b := 127) fX12_272 rfl rfl dX12_keep_93 ?_
      refine r_iload_n (j := 1) rfl rfl dX12_keep_96 ?_
      refine r_iconst (v := 5) rfl dX12_keep_97 ?_
      refine r_iload_n (j := 0) rfl rfl dX12_keep_98 ?_
      refine r_imul dX12_keep_99 ?_
      refine r_iadd dX12_keep_100 ?_
      refine r_iconst (v := 4) rfl dX12_keep_101 ?_
      refine r_iadd dX12_keep_102 ?_
      refine r_aload_n (j := 2) rfl rfl dX12_keep_103 ?_
      refine w_getR (b := 124) fX12_264 rfl rfl dX12_keep_104 ?_
      refine r_iload_n (j := 0) rfl rfl dX12_keep_107 ?_
      refine w_iald rfl (by first | assumption | (rw [vp_in_iff]; ((try simp only [bI_0, bI_1, lc_lt, lc_gt, lc_le, lc_ge, Classical.not_not] at *); (try simp only [i_lt, i_le, i_eq, l_lt, l_le, l_eq, Int32.toInt_toInt64, Int32.reduceToInt, Int64.reduceToInt] at *); omega))) dX12_keep_108 ?_
      refine w_iast rfl (by rw [a4]; exact vp_in_nI (by omega) (by omega)) dX12_keep_109 (fun J109 hJ109 => ?_)
      have f4 : J109 = kpW I (26 * sn) (5 * i + 4 + 1) := by { rw [hJ109, a4, nI_clamp (by omega), cx]; exact kst f3 (by rw [f3, kpW_n _ _ _ (by decide)]; exact (kpf_t I (i := i) (r := 4) (by omega) (by omega)).symm) }
      refine r_iinc (j := 0) (lv' := fun z => [(3, .int z), (2, .int (nI (26*sn))), (0, .ref 95), (1, .int (nI sn))]) dX12_keep_110 rfl (Nat.le_of_ble_eq_true rfl) (fun _ => rfl) (fun x3_110 ex3_110 => ?_)
      refine r_goto (tgt := 17) dX12_keep_113 (by decide) ?_
      exact ih (i + 1) (by omega) _ _ (by rw [f4]; rfl) (by rw [ex3_110]; exact i_inc hx (by omega))
theorem k_X12_keep_y {s : Int32} {sn : Nat} (es : s = nI sn) (hs : sn < 2) (t0 : 0 ≤ (I 95 48).toInt) (t3 : (I 95 48).toInt ≤ 3) : Con sc mX12_keep 2 0 0 [.ref 95, .int s] (XW I L tg) (rI (sm (I 121) (nN (I 95 48))) (XW (kpI I sn) (up L 128 sn (L 95 47)) tg)) := by
  subst es
  have hsi : (nI sn).toInt = sn := nI_toInt (by omega)
  refine Con_of (by decide) (Nat.le_of_ble_eq_true rfl) ?_
  refine r_iload_n (j := 1) rfl rfl dX12_keep_0 ?_
  refine w_cS1p (k_X12_isSlot) (Nat.le_of_ble_eq_true rfl) lX12_455 mtX12_isSlot (Nat.le_of_ble_eq_true rfl) (Nat.le_of_ble_eq_true rfl) (Nat.le_of_ble_eq_true rfl) dX12_keep_1 ?_
  refine r_if_ne (tgt := 10) dX12_keep_4 (by decide) (fun c4 => ?_) (fun c4 => ?_)
  · refine r_bipush (v := 26) rfl dX12_keep_10 ?_
    refine r_iload_n (j := 1) rfl rfl dX12_keep_12 ?_
    refine r_imul dX12_keep_13 ?_
    refine r_istore_n (lv' := fun z => [(2, .int z), (0, .ref 95), (1, .int (nI sn))]) dX12_keep_14 rfl (Nat.le_of_ble_eq_true rfl) (fun _ => rfl) (fun x2_14 ex2_14 => ?_)
    refine r_iconst (v := 0) rfl dX12_keep_15 ?_
    refine r_istore_n (lv' := fun z => [(3, .int z), (2, .int x2_14), (0, .ref 95), (1, .int (nI sn))]) dX12_keep_16 rfl (Nat.le_of_ble_eq_true rfl) (fun _ => rfl) (fun x3_16 ex3_16 => ?_)
    have e2 : x2_14 = nI (26 * sn) := by rw [ex2_14]; exact pk_mul 26 sn
    rw [e2]
    refine l_X12_kp1 hs t0 t3 3 0 rfl _ _ ?_ (by rw [ex3_16]; rfl)
    unfold kpW
    rw [ins_0]
    funext q
    by_cases h : q = 127
    · subst h; rw [upr_s]
    · rw [upr_n _ _ h]
  · exact absurd ⟨by omega, by omega⟩ (bI_0.mp c4)
theorem k_X12_take_r {s : Int32} (hc : ¬ (0 ≤ s.toInt ∧ s.toInt ≤ 1)) : Con sc mX12_take 2 0 0 [.ref 95, .int s] (XW I L tg) (rI (-2) (XW I L tg)) := by
  refine Con_of (by decide) (Nat.le_of_ble_eq_true rfl) ?_
  refine r_iload_n (j := 1) rfl rfl dX12_take_0 ?_
  refine w_cS1p (k_X12_isSlot) (Nat.le_of_ble_eq_true rfl) lX12_455 mtX12_isSlot (Nat.le_of_ble_eq_true rfl) (Nat.le_of_ble_eq_true rfl) (Nat.le_of_ble_eq_true rfl) dX12_take_1 ?_
  refine r_if_ne (tgt := 10) dX12_take_4 (by decide) (fun c4 => ?_) (fun c4 => ?_)
  · exact absurd (bI_1.mp c4) hc
  · refine r_bipush (v := (-2)) rfl dX12_take_7 ?_
    refine w_iret rfl (rfl) (Nat.le_of_ble_eq_true rfl) (Nat.le_of_ble_eq_true rfl) dX12_take_9 ?_
    exact ⟨rfl, rfl, rfl, rfl⟩
theorem k_X12_take_n {s : Int32} {sn : Nat} (es : s = nI sn) (hs : sn < 2) (hk : I 129 sn = 0) : Con sc mX12_take 2 0 0 [.ref 95, .int s] (XW I L tg) (rI (-4) (XW I L tg)) := by
  subst es
  have hsi : (nI sn).toInt = sn := nI_toInt (by omega)
  have csn := cl_of hsi
  refine Con_of (by decide) (Nat.le_of_ble_eq_true rfl) ?_
  refine r_iload_n (j := 1) rfl rfl dX12_take_0 ?_
  refine w_cS1p (k_X12_isSlot) (Nat.le_of_ble_eq_true rfl) lX12_455 mtX12_isSlot (Nat.le_of_ble_eq_true rfl) (Nat.le_of_ble_eq_true rfl) (Nat.le_of_ble_eq_true rfl) dX12_take_1 ?_
  refine r_if_ne (tgt := 10) dX12_take_4 (by decide) (fun c4 => ?_) (fun c4 => ?_)
  · refine r_aload_n (j := 0) rfl rfl dX12_take_10 ?_
    refine w_getR (b := 129) fX12_278 rfl rfl dX12_take_11 ?_
    refine r_iload_n (j := 1) rfl rfl dX12_take_14 ?_
    refine w_zald rfl (up_in hsi hs) dX12_take_15 ?_
    refine r_if_ne (tgt := 22) dX12_take_16 (by decide) (fun c16 => ?_) (fun c16 => ?_)
    · rw [csn] at c16; exact absurd hk c16
    · refine r_bipush (v := (-4)) rfl dX12_take_19 ?_
      refine w_iret rfl (rfl) (Nat.le_of_ble_eq_true rfl) (Nat.le_of_ble_eq_true rfl) dX12_take_21 ?_
      exact ⟨rfl, rfl, rfl, rfl⟩
  · exact absurd ⟨by omega, by omega⟩ (bI_0.mp c4)
def tkI (I : Is) (k i : Nat) : Is := fun q => if 120 ≤ q ∧ q < 125 then prf (fun t => I 127 (k + (5 * t + (q - 120)))) i (I q) else I q
theorem tk_at (I : Is) (k i : Nat) {r : Nat} (hr : r < 5) : tkI I k i (120 + r) = prf (fun t => I 127 (k + (5 * t + r))) i (I (120 + r)) := by
  unfold tkI
  rw [if_pos (by omega), Nat.add_sub_cancel_left]
theorem tk_n (I : Is) (k i : Nat) {q : Nat} (h : ¬ (120 ≤ q ∧ q < 125)) : tkI I k i q = I q := if_neg h
theorem tk_s (I : Is) (k i : Nat) : up (up (up (up (up (tkI I k i) 120 i (I 127 (k + (5 * i + 0)))) 121 i (I 127 (k + (5 * i + 1)))) 122 i (I 127 (k + (5 * i + 2)))) 123 i (I 127 (k + (5 * i + 3)))) 124 i (I 127 (k + (5 * i + 4))) = tkI I k (i + 1) := by
  funext q
  have go : ∀ r, r < 5 → va_up (tkI I k i (120 + r)) i (I 127 (k + (5 * i + r))) = tkI I k (i + 1) (120 + r) := by
    intro r hr
    rw [tk_at I k i hr, tk_at I k (i + 1) hr]
    exact prf_s (fun t => I 127 (k + (5 * t + r))) i (I (120 + r))
  rcases (show q = 120 ∨ q = 121 ∨ q = 122 ∨ q = 123 ∨ q = 124 ∨ ¬ (120 ≤ q ∧ q < 125) by omega) with rfl | rfl | rfl | rfl | rfl | h
  · rw [up_n _ _ _ (by decide), up_n _ _ _ (by decide), up_n _ _ _ (by decide), up_n _ _ _ (by decide), up_s]; exact go 0 (by decide)
  · rw [up_n _ _ _ (by decide), up_n _ _ _ (by decide), up_n _ _ _ (by decide), up_s, up_n _ _ _ (by decide)]; exact go 1 (by decide)
  · rw [up_n _ _ _ (by decide), up_n _ _ _ (by decide), up_s, up_n _ _ _ (by decide), up_n _ _ _ (by decide)]; exact go 2 (by decide)
  · rw [up_n _ _ _ (by decide), up_s, up_n _ _ _ (by decide), up_n _ _ _ (by decide), up_n _ _ _ (by decide)]; exact go 3 (by decide)
  · rw [up_s, up_n _ _ _ (by decide), up_n _ _ _ (by decide), up_n _ _ _ (by decide), up_n _ _ _ (by decide)]; exact go 4 (by decide)
  · rw [up_n _ _ _ (by omega), up_n _ _ _ (by omega), up_n _ _ _ (by omega), up_n _ _ _ (by omega), up_n _ _ _ (by omega), tk_n I k i h, tk_n I k (i + 1) h]
def tk2 (I : Is) (k i : Nat) : Is := upr (tkI I k 3) 125 (prf (fun h => I 127 (k + (15 + h))) i (I 125))
def tk3 (I : Is) (k i : Nat) : Is := upr (tk2 I k 5) 126 (prf (fun g => I 127 (k + (20 + g))) i (I 126))
def tk4 (I : Is) (k : Nat) : Is := up (up (tk3 I k 4) 95 49 (I 127 (k + 24))) 95 48 (I 127 (k + 25))
theorem tk2_n (I : Is) (k i : Nat) {q : Nat} (h : ¬ (120 ≤ q ∧ q < 126)) : tk2 I k i q = I q := by
  unfold tk2
  rw [upr_n _ _ (by omega), tk_n _ _ _ (by omega)]
theorem tk3_n (I : Is) (k i : Nat) {q : Nat} (h : ¬ (120 ≤ q ∧ q < 127)) : tk3 I k i q = I q := by
  unfold tk3
  rw [upr_n _ _ (by omega), tk2_n _ _ _ (by omega)]
theorem l_X12_tk3 {sn : Nat} (hs : sn < 2) (t0 : 0 ≤ (I 127 (26 * sn + 25)).toInt) (t3 : (I 127 (26 * sn + 25)).toInt ≤ 3) : ∀ n i : Nat, i + n = 4 → ∀ (J : Is) (x : Int32), J = tk3 I (26 * sn) i → x.toInt = i → RR sc mX12_take 2 0 0 (rI (sm (tk4 I (26 * sn) 121) (nN (tk4 I (26 * sn) 95 48))) (XW (tk4 I (26 * sn)) (up L 95 47 (L 128 sn)) tg)) 0 0 160 [(3, .int x), (2, .int (nI (26 * sn + 15))), (0, .ref 95), (1, .int (nI sn))] [] (XW J L tg) := by
  have hsi : (nI sn).toInt = sn := nI_toInt (by omega)
  have csn := cl_of hsi
  have ins := up_in hsi hs
  intro n
  induction n with
  | zero =>
    intro i hi J x eJ hx
    have e4 : i = 4 := by omega
    subst e4
    have a1 : nI (26 * sn + 15) + 5 + 4 = nI (26 * sn + 24) := by rw [show (5 : Int32) = nI 5 from rfl, show (4 : Int32) = nI 4 from rfl, nI_add, nI_add]
    have j7 : J 127 = I 127 := by rw [eJ, tk3_n _ _ _ (by decide)]
    refine r_iload_n (j := 0) rfl rfl dX12_take_160 ?_
    refine r_iconst (v := 4) rfl dX12_take_161 ?_
    refine r_icmp_ge (tgt := 187) dX12_take_162 (by decide) (fun c162 => ?_) (fun c162 => ?_)
    · refine r_aload_n (j := 2) rfl rfl dX12_take_187 ?_
      refine r_aload_n (j := 2) rfl rfl dX12_take_188 ?_
      refine w_getR (b := 127) fX12_272 rfl rfl dX12_take_189 ?_
      refine r_iload_n (j := 1) rfl rfl dX12_take_192 ?_
      refine r_iconst (v := 5) rfl dX12_take_193 ?_
      refine r_iadd dX12_take_194 ?_
      refine r_iconst (v := 4) rfl dX12_take_195 ?_
      refine r_iadd dX12_take_196 ?_
      refine w_iald rfl (by rw [a1]; exact vp_in_nI (by omega) (by omega)) dX12_take_197 ?_
      refine w_putI fX12_373 rfl (rfl) (rfl) dX12_take_198 (fun J198 hJ198 => ?_)
      refine r_aload_n (j := 2) rfl rfl dX12_take_201 ?_
      refine r_aload_n (j := 2) rfl rfl dX12_take_202 ?_
      refine w_getR (b := 127) fX12_272 rfl rfl dX12_take_203 ?_
      refine r_iload_n (j := 1) rfl rfl dX12_take_206 ?_
      refine r_iconst (v := 5) rfl dX12_take_207 ?_
      refine r_iadd dX12_take_208 ?_
      refine r_iconst (v := 4) rfl dX12_take_209 ?_
      refine r_iadd dX12_take_210 ?_
      refine r_iconst (v := 1) rfl dX12_take_211 ?_
      refine r_iadd dX12_take_212 ?_
      refine w_iald rfl (by rw [a1, nI_1]; exact vp_in_nI (by omega) (by omega)) dX12_take_213 ?_
      refine w_putI fX12_370 rfl (rfl) (rfl) dX12_take_214 (fun J214 hJ214 => ?_)
      have f2 : J214 = tk4 I (26 * sn) := by
        rw [hJ214, hJ198, a1, nI_1, nI_clamp (by omega), nI_clamp (by omega), up_n _ _ _ (show (127 : Nat) ≠ 95 by decide), j7, eJ]
        rfl
      have f3 : tk4 I (26 * sn) 95 48 = I 127 (26 * sn + 25) := by unfold tk4; rw [up_s, vu_s]
      refine r_aload_n (j := 2) rfl rfl dX12_take_217 ?_
      refine r_aload_n (j := 2) rfl rfl dX12_take_218 ?_
      refine w_getR (b := 128) fX12_275 rfl rfl dX12_take_219 ?_
      refine r_iload_n (j := 3) rfl rfl dX12_take_222 ?_
      refine w_lald rfl (by first | assumption | (rw [vp_in_iff]; ((try simp only [bI_0, bI_1, lc_lt, lc_gt, lc_le, lc_ge, Classical.not_not] at *); (try simp only [i_lt, i_le, i_eq, l_lt, l_le, l_eq, Int32.toInt_toInt64, Int32.reduceToInt, Int64.reduceToInt] at *); omega))) dX12_take_223 ?_
      refine w_putL fX12_248 rfl (rfl) (rfl) dX12_take_224 (fun J224 hJ224 => ?_)
      refine r_aload_n (j := 2) rfl rfl dX12_take_227 ?_
      refine w_cV0p (k_X12_allFeet (by rw [f2, f3]; exact t0) (by rw [f2, f3]; exact t3)) (Nat.le_of_ble_eq_true rfl) lX12_458 vmX12_allFeet rfl (Nat.le_of_ble_eq_true rfl) (Nat.le_of_ble_eq_true rfl) (Nat.le_of_ble_eq_true rfl) dX12_take_228 ?_
      refine w_iret rfl (rfl) (Nat.le_of_ble_eq_true rfl) (Nat.le_of_ble_eq_true rfl) dX12_take_231 ?_
      exact ⟨by rw [f2], f2, by rw [hJ224, csn], rfl⟩
    · exfalso; ((try simp only [bI_0, bI_1, lc_lt, lc_gt, lc_le, lc_ge, Classical.not_not] at *); (try simp only [i_lt, i_le, i_eq, l_lt, l_le, l_eq, Int32.toInt_toInt64, Int32.reduceToInt, Int64.reduceToInt] at *); omega)
  | succ n ih =>
    intro i hi J x eJ hx
    have cx := cl_of hx
    obtain rfl := x_nI hx
    have a1 : nI (26 * sn + 15) + 5 + nI i = nI (26 * sn + (20 + i)) := by rw [show (5 : Int32) = nI 5 from rfl, nI_add, nI_add]; congr 1; omega
    have j7 : J 127 = I 127 := by rw [eJ, tk3_n _ _ _ (by decide)]
    refine r_iload_n (j := 0) rfl rfl dX12_take_160 ?_
    refine r_iconst (v := 4) rfl dX12_take_161 ?_
    refine r_icmp_ge (tgt := 187) dX12_take_162 (by decide) (fun c162 => ?_) (fun c162 => ?_)
    · exfalso; ((try simp only [bI_0, bI_1, lc_lt, lc_gt, lc_le, lc_ge, Classical.not_not] at *); (try simp only [i_lt, i_le, i_eq, l_lt, l_le, l_eq, Int32.toInt_toInt64, Int32.reduceToInt, Int64.reduceToInt] at *); omega)
    · refine r_aload_n (j := 2) rfl rfl dX12_take_165 ?_
      refine w_getR (b := 126) fX12_269 rfl rfl dX12_take_166 ?_
      refine r_iload_n (j := 0) rfl rfl dX12_take_169 ?_
      refine r_aload_n (j := 2) rfl rfl dX12_take_170 ?_
      refine w_getR (b := 127) fX12_272 rfl rfl dX12_take_171 ?_
      refine r_iload_n (j := 1) rfl rfl dX12_take_174 ?_
      refine r_iconst (v := 5) rfl dX12_take_175 ?_
      refine r_iadd dX12_take_176 ?_
      refine r_iload_n (j := 0) rfl rfl dX12_take_177 ?_
      refine r_iadd dX12_take_178 ?_
      refine w_iald rfl (by rw [a1]; exact vp_in_nI (by omega) (by omega)) dX12_take_179 ?_
      refine w_iast rfl (up_in hx (by omega)) dX12_take_180 (fun J180 hJ180 => ?_)
      refine r_iinc (j := 0) (lv' := fun z => [(3, .int z), (2, .int (nI (26*sn+15))), (0, .ref 95), (1, .int (nI sn))]) dX12_take_181 rfl (Nat.le_of_ble_eq_true rfl) (fun _ => rfl) (fun x3_181 ex3_181 => ?_)
      refine r_goto (tgt := 160) dX12_take_184 (by decide) ?_
      refine ih (i + 1) (by omega) _ _ ?_ (by rw [ex3_181]; exact i_inc hx (by omega))
      rw [hJ180, a1, cx, nI_clamp (by omega), j7, eJ]
      unfold tk3
      rw [upr_up, ← prf_s (fun g => I 127 (26 * sn + (20 + g)))]
theorem l_X12_tk2 {sn : Nat} (hs : sn < 2) (t0 : 0 ≤ (I 127 (26 * sn + 25)).toInt) (t3 : (I 127 (26 * sn + 25)).toInt ≤ 3) : ∀ n i : Nat, i + n = 5 → ∀ (J : Is) (x : Int32), J = tk2 I (26 * sn) i → x.toInt = i → RR sc mX12_take 2 0 0 (rI (sm (tk4 I (26 * sn) 121) (nN (tk4 I (26 * sn) 95 48))) (XW (tk4 I (26 * sn)) (up L 95 47 (L 128 sn)) tg)) 0 0 133 [(3, .int x), (2, .int (nI (26 * sn + 15))), (0, .ref 95), (1, .int (nI sn))] [] (XW J L tg) := by
  intro n
  induction n with
  | zero =>
    intro i hi J x eJ hx
    refine r_iload_n (j := 0) rfl rfl dX12_take_133 ?_
    refine r_iconst (v := 5) rfl dX12_take_134 ?_
    refine r_icmp_ge (tgt := 158) dX12_take_135 (by decide) (fun c135 => ?_) (fun c135 => ?_)
    · refine r_iconst (v := 0) rfl dX12_take_158 ?_
      refine r_istore_n (lv' := fun z => [(3, .int z), (2, .int (nI (26*sn+15))), (0, .ref 95), (1, .int (nI sn))]) dX12_take_159 rfl (Nat.le_of_ble_eq_true rfl) (fun _ => rfl) (fun x3_159 ex3_159 => ?_)
      refine l_X12_tk3 hs t0 t3 4 0 rfl _ _ ?_ (by rw [ex3_159]; rfl)
      rw [eJ, show i = 5 by omega]
      unfold tk3
      rw [prf_0]
      funext q
      by_cases h : q = 126
      · subst h; rw [upr_s, tk2_n _ _ _ (by decide)]
      · rw [upr_n _ _ h]
    · exfalso; ((try simp only [bI_0, bI_1, lc_lt, lc_gt, lc_le, lc_ge, Classical.not_not] at *); (try simp only [i_lt, i_le, i_eq, l_lt, l_le, l_eq, Int32.toInt_toInt64, Int32.reduceToInt, Int64.reduceToInt] at *); omega)
  | succ n ih =>
    intro i hi J x eJ hx
    have cx := cl_of hx
    obtain rfl := x_nI hx
    have a1 : nI (26 * sn + 15) + nI i = nI (26 * sn + (15 + i)) := by rw [nI_add]; congr 1; omega
    have j7 : J 127 = I 127 := by rw [eJ, tk2_n _ _ _ (by decide)]
    refine r_iload_n (j := 0) rfl rfl dX12_take_133 ?_
    refine r_iconst (v := 5) rfl dX12_take_134 ?_
    refine r_icmp_ge (tgt := 158) dX12_take_135 (by decide) (fun c135 => ?_) (fun c135 => ?_)
    · exfalso; ((try simp only [bI_0, bI_1, lc_lt, lc_gt, lc_le, lc_ge, Classical.not_not] at *); (try simp only [i_lt, i_le, i_eq, l_lt, l_le, l_eq, Int32.toInt_toInt64, Int32.reduceToInt, Int64.reduceToInt] at *); omega)
    · refine r_aload_n (j := 2) rfl rfl dX12_take_138 ?_
      refine w_getR (b := 125) fX12_267 rfl rfl dX12_take_139 ?_
      refine r_iload_n (j := 0) rfl rfl dX12_take_142 ?_
      refine r_aload_n (j := 2) rfl rfl dX12_take_143 ?_
      refine w_getR (b := 127) fX12_272 rfl rfl dX12_take_144 ?_
      refine r_iload_n (j := 1) rfl rfl dX12_take_147 ?_
      refine r_iload_n (j := 0) rfl rfl dX12_take_148 ?_
      refine r_iadd dX12_take_149 ?_
      refine w_iald rfl (by rw [a1]; exact vp_in_nI (by omega) (by omega)) dX12_take_150 ?_
      refine w_iast rfl (up_in hx (by omega)) dX12_take_151 (fun J151 hJ151 => ?_)
      refine r_iinc (j := 0) (lv' := fun z => [(3, .int z), (2, .int (nI (26*sn+15))), (0, .ref 95), (1, .int (nI sn))]) dX12_take_152 rfl (Nat.le_of_ble_eq_true rfl) (fun _ => rfl) (fun x3_152 ex3_152 => ?_)
      refine r_goto (tgt := 133) dX12_take_155 (by decide) ?_
      refine ih (i + 1) (by omega) _ _ ?_ (by rw [ex3_152]; exact i_inc hx (by omega))
      rw [hJ151, a1, cx, nI_clamp (by omega), j7, eJ]
      unfold tk2
      rw [upr_up, ← prf_s (fun g => I 127 (26 * sn + (15 + g)))]
theorem l_X12_tk1 {sn : Nat} (hs : sn < 2) (t0 : 0 ≤ (I 127 (26 * sn + 25)).toInt) (t3 : (I 127 (26 * sn + 25)).toInt ≤ 3) : ∀ n i : Nat, i + n = 3 → ∀ (J : Is) (x : Int32), J = tkI I (26 * sn) i → x.toInt = i → RR sc mX12_take 2 0 0 (rI (sm (tk4 I (26 * sn) 121) (nN (tk4 I (26 * sn) 95 48))) (XW (tk4 I (26 * sn)) (up L 95 47 (L 128 sn)) tg)) 0 0 29 [(3, .int x), (2, .int (nI (26 * sn))), (0, .ref 95), (1, .int (nI sn))] [] (XW J L tg) := by
  intro n
  induction n with
  | zero =>
    intro i hi J x eJ hx
    refine r_iload_n (j := 0) rfl rfl dX12_take_29 ?_
    refine r_iconst (v := 3) rfl dX12_take_30 ?_
    refine r_icmp_ge (tgt := 128) dX12_take_31 (by decide) (fun c31 => ?_) (fun c31 => ?_)
    · refine r_iinc (j := 1) (lv' := fun z => [(2, .int z), (3, .int x), (0, .ref 95), (1, .int (nI sn))]) dX12_take_128 rfl (Nat.le_of_ble_eq_true rfl) (fun _ => rfl) (fun x2_128 ex2_128 => ?_)
      refine r_iconst (v := 0) rfl dX12_take_131 ?_
      refine r_istore_n (lv' := fun z => [(3, .int z), (2, .int x2_128), (0, .ref 95), (1, .int (nI sn))]) dX12_take_132 rfl (Nat.le_of_ble_eq_true rfl) (fun _ => rfl) (fun x3_132 ex3_132 => ?_)
      have e2 : x2_128 = nI (26 * sn + 15) := by rw [ex2_128]; exact nI_add _ 15
      rw [e2]
      refine l_X12_tk2 hs t0 t3 5 0 rfl _ _ ?_ (by rw [ex3_132]; rfl)
      rw [eJ, show i = 3 by omega]
      unfold tk2
      rw [prf_0]
      funext q
      by_cases h : q = 125
      · subst h; rw [upr_s, tk_n _ _ _ (by decide)]
      · rw [upr_n _ _ h]
    · exfalso; ((try simp only [bI_0, bI_1, lc_lt, lc_gt, lc_le, lc_ge, Classical.not_not] at *); (try simp only [i_lt, i_le, i_eq, l_lt, l_le, l_eq, Int32.toInt_toInt64, Int32.reduceToInt, Int64.reduceToInt] at *); omega)
  | succ n ih =>
    intro i hi J x eJ hx
    have cx := cl_of hx
    obtain rfl := x_nI hx
    have hin := up_in (N := 3) hx (by omega)
    have a0 : nI (26 * sn) + 5 * nI i = nI (26 * sn + (5 * i + 0)) := by rw [show (5 : Int32) = nI 5 from rfl, pk_mul, nI_add]; rfl
    have a1 : nI (26 * sn) + 5 * nI i + 1 = nI (26 * sn + (5 * i + 1)) := by rw [a0, nI_1]; rfl
    have a2 : nI (26 * sn) + 5 * nI i + 2 = nI (26 * sn + (5 * i + 2)) := by rw [a0]; exact nI_add _ 2
    have a3 : nI (26 * sn) + 5 * nI i + 3 = nI (26 * sn + (5 * i + 3)) := by rw [a0]; exact nI_add _ 3
    have a4 : nI (26 * sn) + 5 * nI i + 4 = nI (26 * sn + (5 * i + 4)) := by rw [a0]; exact nI_add _ 4
    have j7 : J 127 = I 127 := by rw [eJ, tk_n _ _ _ (by decide)]
    refine r_iload_n (j := 0) rfl rfl dX12_take_29 ?_
    refine r_iconst (v := 3) rfl dX12_take_30 ?_
    refine r_icmp_ge (tgt := 128) dX12_take_31 (by decide) (fun c31 => ?_) (fun c31 => ?_)
    · exfalso; ((try simp only [bI_0, bI_1, lc_lt, lc_gt, lc_le, lc_ge, Classical.not_not] at *); (try simp only [i_lt, i_le, i_eq, l_lt, l_le, l_eq, Int32.toInt_toInt64, Int32.reduceToInt, Int64.reduceToInt] at *); omega)
    · refine r_aload_n (j := 2) rfl rfl dX12_take_34 ?_
      refine w_getR (b := 120) fX12_252 rfl rfl dX12_take_35 ?_
      refine r_iload_n (j := 0) rfl rfl dX12_take_38 ?_
      refine r_aload_n (j := 2) rfl rfl dX12_take_39 ?_
      refine w_getR (b := 127) fX12_272 rfl rfl dX12_take_40 ?_
      refine r_iload_n (j := 1) rfl rfl dX12_take_43 ?_
      refine r_iconst (v := 5) rfl dX12_take_44 ?_
      refine r_iload_n (j := 0) rfl rfl dX12_take_45 ?_
      refine r_imul dX12_take_46 ?_
      refine r_iadd dX12_take_47 ?_
      refine w_iald rfl (by rw [a0]; exact vp_in_nI (by omega) (by omega)) dX12_take_48 ?_
      refine w_iast rfl (by first | assumption | (rw [vp_in_iff]; ((try simp only [bI_0, bI_1, lc_lt, lc_gt, lc_le, lc_ge, Classical.not_not] at *); (try simp only [i_lt, i_le, i_eq, l_lt, l_le, l_eq, Int32.toInt_toInt64, Int32.reduceToInt, Int64.reduceToInt] at *); omega))) dX12_take_49 (fun J49 hJ49 => ?_)
      refine r_aload_n (j := 2) rfl rfl dX12_take_50 ?_
      refine w_getR (b := 121) fX12_255 rfl rfl dX12_take_51 ?_
      refine r_iload_n (j := 0) rfl rfl dX12_take_54 ?_
      refine r_aload_n (j := 2) rfl rfl dX12_take_55 ?_
      refine w_getR (b := 127) fX12_272 rfl rfl dX12_take_56 ?_
      refine r_iload_n (j := 1) rfl rfl dX12_take_59 ?_
      refine r_iconst (v := 5) rfl dX12_take_60 ?_
      refine r_iload_n (j := 0) rfl rfl dX12_take_61 ?_
      refine r_imul dX12_take_62 ?_
      refine r_iadd dX12_take_63 ?_
      refine r_iconst (v := 1) rfl dX12_take_64 ?_
      refine r_iadd dX12_take_65 ?_
      refine w_iald rfl (by rw [a1]; exact vp_in_nI (by omega) (by omega)) dX12_take_66 ?_
      refine w_iast rfl (by first | assumption | (rw [vp_in_iff]; ((try simp only [bI_0, bI_1, lc_lt, lc_gt, lc_le, lc_ge, Classical.not_not] at *); (try simp only [i_lt, i_le, i_eq, l_lt, l_le, l_eq, Int32.toInt_toInt64, Int32.reduceToInt, Int64.reduceToInt] at *); omega))) dX12_take_67 (fun J67 hJ67 => ?_)
      refine r_aload_n (j := 2) rfl rfl dX12_take_68 ?_
      refine w_getR (b := 122) fX12_258 rfl rfl dX12_take_69 ?_
      refine r_iload_n (j := 0) rfl rfl dX12_take_72 ?_
      refine r_aload_n (j := 2) rfl rfl dX12_take_73 ?_
      refine w_getR (b := 127) fX12_272 rfl rfl dX12_take_74 ?_
      refine r_iload_n (j := 1) rfl rfl dX12_take_77 ?_
      refine r_iconst (v := 5) rfl dX12_take_78 ?_
      refine r_iload_n (j := 0) rfl rfl dX12_take_79 ?_
      refine r_imul dX12_take_80 ?_
      refine r_iadd dX12_take_81 ?_
      refine r_iconst (v := 2) rfl dX12_take_82 ?_
      refine r_iadd dX12_take_83 ?_
      refine w_iald rfl (by rw [a2]; exact vp_in_nI (by omega) (by omega)) dX12_take_84 ?_
      refine w_iast rfl (by first | assumption | (rw [vp_in_iff]; ((try simp only [bI_0, bI_1, lc_lt, lc_gt, lc_le, lc_ge, Classical.not_not] at *); (try simp only [i_lt, i_le, i_eq, l_lt, l_le, l_eq, Int32.toInt_toInt64, Int32.reduceToInt, Int64.reduceToInt] at *); omega))) dX12_take_85 (fun J85 hJ85 => ?_)
      refine r_aload_n (j := 2) rfl rfl dX12_take_86 ?_
      refine w_getR (b := 123) fX12_261 rfl rfl dX12_take_87 ?_
      refine r_iload_n (j := 0) rfl rfl dX12_take_90 ?_
      refine r_aload_n (j := 2) rfl rfl dX12_take_91 ?_
      refine w_getR (b := 127) fX12_272 rfl rfl dX12_take_92 ?_
      refine r_iload_n (j := 1) rfl rfl dX12_take_95 ?_
      refine r_iconst (v := 5) rfl dX12_take_96 ?_
      refine r_iload_n (j := 0) rfl rfl dX12_take_97 ?_
      refine r_imul dX12_take_98 ?_
      refine r_iadd dX12_take_99 ?_
      refine r_iconst (v := 3) rfl dX12_take_100 ?_
      refine r_iadd dX12_take_101 ?_
      refine w_iald rfl (by rw [a3]; exact vp_in_nI (by omega) (by omega)) dX12_take_102 ?_
      refine w_iast rfl (by first | assumption | (rw [vp_in_iff]; ((try simp only [bI_0, bI_1, lc_lt, lc_gt, lc_le, lc_ge, Classical.not_not] at *); (try simp only [i_lt, i_le, i_eq, l_lt, l_le, l_eq, Int32.toInt_toInt64, Int32.reduceToInt, Int64.reduceToInt] at *); omega))) dX12_take_103 (fun J103 hJ103 => ?_)
      refine r_aload_n (j := 2) rfl rfl dX12_take_104 ?_
      refine w_getR (b := 124) fX12_264 rfl rfl dX12_take_105 ?_
      refine r_iload_n (j := 0) rfl rfl dX12_take_108 ?_
      refine r_aload_n (j := 2) rfl rfl dX12_take_109 ?_
      refine w_getR (b := 127) fX12_272 rfl rfl dX12_take_110 ?_
      refine r_iload_n (j := 1) rfl rfl dX12_take_113 ?_
      refine r_iconst (v := 5) rfl dX12_take_114 ?_
      refine r_iload_n (j := 0) rfl rfl dX12_take_115 ?_
      refine r_imul dX12_take_116 ?_
      refine r_iadd dX12_take_117 ?_
      refine r_iconst (v := 4) rfl dX12_take_118 ?_
      refine r_iadd dX12_take_119 ?_
      refine w_iald rfl (by rw [a4]; exact vp_in_nI (by omega) (by omega)) dX12_take_120 ?_
      refine w_iast rfl (by first | assumption | (rw [vp_in_iff]; ((try simp only [bI_0, bI_1, lc_lt, lc_gt, lc_le, lc_ge, Classical.not_not] at *); (try simp only [i_lt, i_le, i_eq, l_lt, l_le, l_eq, Int32.toInt_toInt64, Int32.reduceToInt, Int64.reduceToInt] at *); omega))) dX12_take_121 (fun J121 hJ121 => ?_)
      refine r_iinc (j := 0) (lv' := fun z => [(3, .int z), (2, .int (nI (26*sn))), (0, .ref 95), (1, .int (nI sn))]) dX12_take_122 rfl (Nat.le_of_ble_eq_true rfl) (fun _ => rfl) (fun x3_122 ex3_122 => ?_)
      refine r_goto (tgt := 29) dX12_take_125 (by decide) ?_
      refine ih (i + 1) (by omega) _ _ ?_ (by rw [ex3_122]; exact i_inc hx (by omega))
      have k1 : J49 127 = I 127 := by rw [hJ49, up_n _ _ _ (by decide), j7]
      have k2 : J67 127 = I 127 := by rw [hJ67, up_n _ _ _ (by decide), k1]
      have k3 : J85 127 = I 127 := by rw [hJ85, up_n _ _ _ (by decide), k2]
      have k4 : J103 127 = I 127 := by rw [hJ103, up_n _ _ _ (by decide), k3]
      rw [hJ121, k4, a4, cx, nI_clamp (by omega), hJ103, k3, a3, cx, nI_clamp (by omega), hJ85, k2, a2, cx, nI_clamp (by omega), hJ67, k1, a1, cx, nI_clamp (by omega), hJ49, j7, a0, cx, nI_clamp (by omega), eJ]
      exact tk_s I _ i
theorem k_X12_take_y {s : Int32} {sn : Nat} (es : s = nI sn) (hs : sn < 2) (hk : ¬ I 129 sn = 0) (t0 : 0 ≤ (I 127 (26 * sn + 25)).toInt) (t3 : (I 127 (26 * sn + 25)).toInt ≤ 3) : Con sc mX12_take 2 0 0 [.ref 95, .int s] (XW I L tg) (rI (sm (tk4 I (26 * sn) 121) (nN (tk4 I (26 * sn) 95 48))) (XW (tk4 I (26 * sn)) (up L 95 47 (L 128 sn)) tg)) := by
  subst es
  have hsi : (nI sn).toInt = sn := nI_toInt (by omega)
  have csn := cl_of hsi
  refine Con_of (by decide) (Nat.le_of_ble_eq_true rfl) ?_
  refine r_iload_n (j := 1) rfl rfl dX12_take_0 ?_
  refine w_cS1p (k_X12_isSlot) (Nat.le_of_ble_eq_true rfl) lX12_455 mtX12_isSlot (Nat.le_of_ble_eq_true rfl) (Nat.le_of_ble_eq_true rfl) (Nat.le_of_ble_eq_true rfl) dX12_take_1 ?_
  refine r_if_ne (tgt := 10) dX12_take_4 (by decide) (fun c4 => ?_) (fun c4 => ?_)
  · refine r_aload_n (j := 0) rfl rfl dX12_take_10 ?_
    refine w_getR (b := 129) fX12_278 rfl rfl dX12_take_11 ?_
    refine r_iload_n (j := 1) rfl rfl dX12_take_14 ?_
    refine w_zald rfl (up_in hsi hs) dX12_take_15 ?_
    refine r_if_ne (tgt := 22) dX12_take_16 (by decide) (fun c16 => ?_) (fun c16 => ?_)
    · refine r_bipush (v := 26) rfl dX12_take_22 ?_
      refine r_iload_n (j := 1) rfl rfl dX12_take_24 ?_
      refine r_imul dX12_take_25 ?_
      refine r_istore_n (lv' := fun z => [(2, .int z), (0, .ref 95), (1, .int (nI sn))]) dX12_take_26 rfl (Nat.le_of_ble_eq_true rfl) (fun _ => rfl) (fun x2_26 ex2_26 => ?_)
      refine r_iconst (v := 0) rfl dX12_take_27 ?_
      refine r_istore_n (lv' := fun z => [(3, .int z), (2, .int x2_26), (0, .ref 95), (1, .int (nI sn))]) dX12_take_28 rfl (Nat.le_of_ble_eq_true rfl) (fun _ => rfl) (fun x3_28 ex3_28 => ?_)
      have e2 : x2_26 = nI (26 * sn) := by rw [ex2_26]; exact pk_mul 26 sn
      rw [e2]
      refine l_X12_tk1 hs t0 t3 3 0 rfl _ _ ?_ (by rw [ex3_28]; rfl)
      funext q
      unfold tkI
      split
      · rw [prf_0]
      · rfl
    · rw [csn] at c16; exact absurd c16 hk
  · exact absurd ⟨by omega, by omega⟩ (bI_0.mp c4)
end
