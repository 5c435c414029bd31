/-! the model's camp -/
section
variable {sc : Sc} {I : Is} {L : Ls} {tg : Nat} {post : Po}
/-- rows a .. that are written out of others, from the first place on -/
def cpS (I J : Is) (a b i : Nat) : Prop := J a = ptr (I b) (I a) i
theorem cpS_0 {a b : Nat} : cpS I I a b 0 := (ptr_0 _ _).symm
theorem cpS_n {J J2 : Is} {a b i : Nat} (h : cpS I J a b i) (e : J2 a = va_up (J a) i (I b i)) : cpS I J2 a b (i + 1) := by
  unfold cpS at *
  rw [e, h, ptr_s]
def lwR (I J : Is) (i : Nat) : Prop := cpS I J 97 98 i ∧ ∀ a, a ≠ 97 → J a = I a
theorem l_X12_cm1 : ∀ n i, i + n = 9 → ∀ (J : Is) (x : Int32), x = nI i → lwR I J i → (∀ (J : Is) (x : Int32), lwR I J 9 → RR sc mX12_camp 8 0 0 post 0 0 115 [(1, .int x), (0, .ref 95)] [] (XW J L tg)) → RR sc mX12_camp 8 0 0 post 0 0 91 [(1, .int x), (0, .ref 95)] [] (XW J L tg) := by
  intro n
  induction n with
  | zero =>
    intro i hi J x ex hJ kk
    obtain rfl : i = 9 := by omega
    subst ex
    refine r_iload_n (j := 0) rfl rfl dX12_camp_91 ?_
    refine r_bipush (v := 9) rfl dX12_camp_92 ?_
    refine r_icmp_ge (tgt := 115) dX12_camp_94 (by decide) (fun c94 => ?_) (fun c94 => ?_)
    · exact kk _ _ hJ
    · exact absurd (by decide : (9 : Int32) ≤ nI 9) c94
  | succ n ih =>
    intro i hi J x ex hJ kk
    have xi : x.toInt = i := by rw [ex, nI_toInt (by omega)]
    have xc : x.toNatClampNeg = i := by rw [ex, nI_clamp (by omega)]
    refine r_iload_n (j := 0) rfl rfl dX12_camp_91 ?_
    refine r_bipush (v := 9) rfl dX12_camp_92 ?_
    refine r_icmp_ge (tgt := 115) dX12_camp_94 (by decide) (fun c94 => ?_) (fun c94 => ?_)
    · exfalso; ((try simp only [bI_0, bI_1, lc_lt, lc_gt, lc_le, lc_ge, Classical.not_not] at *); (try simp only [i_lt, i_le, i_eq, l_lt, l_le, l_eq, Int32.toInt_toInt64, Int32.reduceToInt, Int64.reduceToInt] at *); omega)
    · refine r_aload_n (j := 1) rfl rfl dX12_camp_97 ?_
      refine w_getR (b := 97) fX12_219 rfl rfl dX12_camp_98 ?_
      refine r_iload_n (j := 0) rfl rfl dX12_camp_101 ?_
      refine r_aload_n (j := 1) rfl rfl dX12_camp_102 ?_
      refine w_getR (b := 98) fX12_171 rfl rfl dX12_camp_103 ?_
      refine r_iload_n (j := 0) rfl rfl dX12_camp_106 ?_
      refine w_iald rfl (up_in xi (show _ < 9 by omega)) dX12_camp_107 ?_
      refine w_iast rfl (up_in xi (show _ < 9 by omega)) dX12_camp_108 (fun J108 hJ108 => ?_)
      refine r_iinc (j := 0) (lv' := fun z => [(1, .int z), (0, .ref 95)]) dX12_camp_109 rfl (Nat.le_of_ble_eq_true rfl) (fun _ => rfl) (fun x1_109 ex1_109 => ?_)
      refine r_goto (tgt := 91) dX12_camp_112 (by decide) ?_
      refine ih (i + 1) (by omega) _ _ (by rw [ex1_109, ex]; exact nI_1 _) ⟨cpS_n hJ.1 ?_, fun a ha => ?_⟩ kk
      · rw [hJ108, xc, up_s, hJ.2 98 (by decide)]
      · rw [hJ108, up_n _ _ _ ha, hJ.2 a ha]
def ruR (I J : Is) (i : Nat) : Prop := cpS I J 106 115 i ∧ ∀ a, a ≠ 106 → J a = I a
theorem l_X12_cm2 : ∀ n i, i + n = 25 → ∀ (J : Is) (x : Int32), x = nI i → ruR I J i → (∀ (J : Is) (x : Int32), ruR I J 25 → RR sc mX12_camp 8 0 0 post 0 0 141 [(1, .int x), (0, .ref 95)] [] (XW J L tg)) → RR sc mX12_camp 8 0 0 post 0 0 117 [(1, .int x), (0, .ref 95)] [] (XW J L tg) := by
  intro n
  induction n with
  | zero =>
    intro i hi J x ex hJ kk
    obtain rfl : i = 25 := by omega
    subst ex
    refine r_iload_n (j := 0) rfl rfl dX12_camp_117 ?_
    refine r_bipush (v := 25) rfl dX12_camp_118 ?_
    refine r_icmp_ge (tgt := 141) dX12_camp_120 (by decide) (fun c120 => ?_) (fun c120 => ?_)
    · exact kk _ _ hJ
    · exact absurd (by decide : (25 : Int32) ≤ nI 25) c120
  | succ n ih =>
    intro i hi J x ex hJ kk
    have xi : x.toInt = i := by rw [ex, nI_toInt (by omega)]
    have xc : x.toNatClampNeg = i := by rw [ex, nI_clamp (by omega)]
    refine r_iload_n (j := 0) rfl rfl dX12_camp_117 ?_
    refine r_bipush (v := 25) rfl dX12_camp_118 ?_
    refine r_icmp_ge (tgt := 141) dX12_camp_120 (by decide) (fun c120 => ?_) (fun c120 => ?_)
    · exfalso; ((try simp only [bI_0, bI_1, lc_lt, lc_gt, lc_le, lc_ge, Classical.not_not] at *); (try simp only [i_lt, i_le, i_eq, l_lt, l_le, l_eq, Int32.toInt_toInt64, Int32.reduceToInt, Int64.reduceToInt] at *); omega)
    · refine r_aload_n (j := 1) rfl rfl dX12_camp_123 ?_
      refine w_getR (b := 106) fX12_234 rfl rfl dX12_camp_124 ?_
      refine r_iload_n (j := 0) rfl rfl dX12_camp_127 ?_
      refine r_aload_n (j := 1) rfl rfl dX12_camp_128 ?_
      refine w_getR (b := 115) fX12_141 rfl rfl dX12_camp_129 ?_
      refine r_iload_n (j := 0) rfl rfl dX12_camp_132 ?_
      refine w_iald rfl (up_in xi (show _ < 25 by omega)) dX12_camp_133 ?_
      refine w_iast rfl (up_in xi (show _ < 25 by omega)) dX12_camp_134 (fun J134 hJ134 => ?_)
      refine r_iinc (j := 0) (lv' := fun z => [(1, .int z), (0, .ref 95)]) dX12_camp_135 rfl (Nat.le_of_ble_eq_true rfl) (fun _ => rfl) (fun x1_135 ex1_135 => ?_)
      refine r_goto (tgt := 117) dX12_camp_138 (by decide) ?_
      refine ih (i + 1) (by omega) _ _ (by rw [ex1_135, ex]; exact nI_1 _) ⟨cpS_n hJ.1 ?_, fun a ha => ?_⟩ kk
      · rw [hJ134, xc, up_s, hJ.2 115 (by decide)]
      · rw [hJ134, up_n _ _ _ ha, hJ.2 a ha]
def huR (I J : Is) (i : Nat) : Prop := cpS I J 102 111 i ∧ cpS I J 103 112 i ∧ cpS I J 104 113 i ∧ cpS I J 105 114 i ∧ J 130 = ptr z0 (I 130) i ∧ ∀ a, ¬ (102 ≤ a ∧ a ≤ 105) → a ≠ 130 → J a = I a
theorem l_X12_cm3 {H : Nat} (hH : I 95 10 = nI H) (h5 : H ≤ 5) : ∀ n i, i + n = H → ∀ (J : Is) (x : Int32), x = nI i → huR I J i → (∀ (J : Is) (x : Int32), huR I J H → RR sc mX12_camp 8 0 0 post 0 0 212 [(1, .int x), (0, .ref 95)] [] (XW J L tg)) → RR sc mX12_camp 8 0 0 post 0 0 143 [(1, .int x), (0, .ref 95)] [] (XW J L tg) := by
  have hi5 : (nI H).toInt = H := nI_toInt (by omega)
  intro n
  induction n with
  | zero =>
    intro i hi J x ex hJ kk
    obtain rfl : i = H := by omega
    have xi : x.toInt = i := by rw [ex, nI_toInt (by omega)]
    have jH : J 95 10 = nI i := by rw [hJ.2.2.2.2.2 95 (by omega) (by omega)]; exact hH
    refine r_iload_n (j := 0) rfl rfl dX12_camp_143 ?_
    refine r_aload_n (j := 1) rfl rfl dX12_camp_144 ?_
    refine w_getI fX12_355 rfl dX12_camp_145 ?_
    refine r_icmp_ge (tgt := 212) dX12_camp_148 (by decide) (fun c148 => ?_) (fun c148 => ?_)
    · exact kk _ _ hJ
    · exfalso; rw [jH] at c148; ((try simp only [bI_0, bI_1, lc_lt, lc_gt, lc_le, lc_ge, Classical.not_not] at *); (try simp only [i_lt, i_le, i_eq, l_lt, l_le, l_eq, Int32.toInt_toInt64, Int32.reduceToInt, Int64.reduceToInt] at *); omega)
  | succ n ih =>
    intro i hi J x ex hJ kk
    have xi : x.toInt = i := by rw [ex, nI_toInt (by omega)]
    have xc : x.toNatClampNeg = i := by rw [ex, nI_clamp (by omega)]
    obtain ⟨r1, r2, r3, r4, r5, r6⟩ := hJ
    have jH : J 95 10 = nI H := by rw [r6 95 (by omega) (by omega)]; exact hH
    refine r_iload_n (j := 0) rfl rfl dX12_camp_143 ?_
    refine r_aload_n (j := 1) rfl rfl dX12_camp_144 ?_
    refine w_getI fX12_355 rfl dX12_camp_145 ?_
    refine r_icmp_ge (tgt := 212) dX12_camp_148 (by decide) (fun c148 => ?_) (fun c148 => ?_)
    · exfalso; rw [jH] at c148; ((try simp only [bI_0, bI_1, lc_lt, lc_gt, lc_le, lc_ge, Classical.not_not] at *); (try simp only [i_lt, i_le, i_eq, l_lt, l_le, l_eq, Int32.toInt_toInt64, Int32.reduceToInt, Int64.reduceToInt] at *); omega)
    · refine r_aload_n (j := 1) rfl rfl dX12_camp_151 ?_
      refine w_getR (b := 102) fX12_222 rfl rfl dX12_camp_152 ?_
      refine r_iload_n (j := 0) rfl rfl dX12_camp_155 ?_
      refine r_aload_n (j := 1) rfl rfl dX12_camp_156 ?_
      refine w_getR (b := 111) fX12_110 rfl rfl dX12_camp_157 ?_
      refine r_iload_n (j := 0) rfl rfl dX12_camp_160 ?_
      refine w_iald rfl (up_in xi (show _ < 5 by omega)) dX12_camp_161 ?_
      refine w_iast rfl (up_in xi (show _ < 5 by omega)) dX12_camp_162 (fun J162 hJ162 => ?_)
      refine r_aload_n (j := 1) rfl rfl dX12_camp_163 ?_
      refine w_getR (b := 103) fX12_225 rfl rfl dX12_camp_164 ?_
      refine r_iload_n (j := 0) rfl rfl dX12_camp_167 ?_
      refine r_aload_n (j := 1) rfl rfl dX12_camp_168 ?_
      refine w_getR (b := 112) fX12_114 rfl rfl dX12_camp_169 ?_
      refine r_iload_n (j := 0) rfl rfl dX12_camp_172 ?_
      refine w_iald rfl (up_in xi (show _ < 5 by omega)) dX12_camp_173 ?_
      refine w_iast rfl (up_in xi (show _ < 5 by omega)) dX12_camp_174 (fun J174 hJ174 => ?_)
      refine r_aload_n (j := 1) rfl rfl dX12_camp_175 ?_
      refine w_getR (b := 104) fX12_228 rfl rfl dX12_camp_176 ?_
      refine r_iload_n (j := 0) rfl rfl dX12_camp_179 ?_
      refine r_aload_n (j := 1) rfl rfl dX12_camp_180 ?_
      refine w_getR (b := 113) fX12_117 rfl rfl dX12_camp_181 ?_
      refine r_iload_n (j := 0) rfl rfl dX12_camp_184 ?_
      refine w_iald rfl (up_in xi (show _ < 5 by omega)) dX12_camp_185 ?_
      refine w_iast rfl (up_in xi (show _ < 5 by omega)) dX12_camp_186 (fun J186 hJ186 => ?_)
      refine r_aload_n (j := 1) rfl rfl dX12_camp_187 ?_
      refine w_getR (b := 105) fX12_231 rfl rfl dX12_camp_188 ?_
      refine r_iload_n (j := 0) rfl rfl dX12_camp_191 ?_
      refine r_aload_n (j := 1) rfl rfl dX12_camp_192 ?_
      refine w_getR (b := 114) fX12_120 rfl rfl dX12_camp_193 ?_
      refine r_iload_n (j := 0) rfl rfl dX12_camp_196 ?_
      refine w_iald rfl (up_in xi (show _ < 5 by omega)) dX12_camp_197 ?_
      refine w_iast rfl (up_in xi (show _ < 5 by omega)) dX12_camp_198 (fun J198 hJ198 => ?_)
      refine r_aload_n (j := 1) rfl rfl dX12_camp_199 ?_
      refine w_getR (b := 130) fX12_282 rfl rfl dX12_camp_200 ?_
      refine r_iload_n (j := 0) rfl rfl dX12_camp_203 ?_
      refine r_iconst (v := 0) rfl dX12_camp_204 ?_
      refine w_iast rfl (up_in xi (show _ < 5 by omega)) dX12_camp_205 (fun J205 hJ205 => ?_)
      refine r_iinc (j := 0) (lv' := fun z => [(1, .int z), (0, .ref 95)]) dX12_camp_206 rfl (Nat.le_of_ble_eq_true rfl) (fun _ => rfl) (fun x1_206 ex1_206 => ?_)
      refine r_goto (tgt := 143) dX12_camp_209 (by decide) ?_
      rw [xc] at hJ162 hJ174 hJ186 hJ198 hJ205
      have e1 : ∀ a, a ≠ 102 → J162 a = J a := fun a ha => by rw [hJ162, up_n _ _ _ ha]
      have e2 : ∀ a, a ≠ 103 → J174 a = J162 a := fun a ha => by rw [hJ174, up_n _ _ _ ha]
      have e3 : ∀ a, a ≠ 104 → J186 a = J174 a := fun a ha => by rw [hJ186, up_n _ _ _ ha]
      have e4 : ∀ a, a ≠ 105 → J198 a = J186 a := fun a ha => by rw [hJ198, up_n _ _ _ ha]
      have e5 : ∀ a, a ≠ 130 → J205 a = J198 a := fun a ha => by rw [hJ205, up_n _ _ _ ha]
      refine ih (i + 1) (by omega) _ _ (by rw [ex1_206, ex]; exact nI_1 _) ⟨cpS_n r1 ?_, cpS_n r2 ?_, cpS_n r3 ?_, cpS_n r4 ?_, ?_, fun a a1 a2 => ?_⟩ kk
      · rw [e5 _ (by decide), e4 _ (by decide), e3 _ (by decide), e2 _ (by decide), hJ162, up_s, r6 111 (by omega) (by omega)]
      · rw [e5 _ (by decide), e4 _ (by decide), e3 _ (by decide), hJ174, up_s, e1 _ (by decide), e1 _ (by decide), r6 112 (by omega) (by omega)]
      · rw [e5 _ (by decide), e4 _ (by decide), hJ186, up_s, e2 _ (by decide), e1 _ (by decide), e2 _ (by decide), e1 _ (by decide), r6 113 (by omega) (by omega)]
      · rw [e5 _ (by decide), hJ198, up_s, e3 _ (by decide), e2 _ (by decide), e1 _ (by decide), e3 _ (by decide), e2 _ (by decide), e1 _ (by decide), r6 114 (by omega) (by omega)]
      · rw [hJ205, up_s, e4 _ (by decide), e3 _ (by decide), e2 _ (by decide), e1 _ (by decide), r5]
        exact ptr_s z0 (I 130) i
      · rw [e5 _ a2, e4 _ (by omega), e3 _ (by omega), e2 _ (by omega), e1 _ (by omega), r6 a a1 a2]
def gaR (I J : Is) (i : Nat) : Prop := cpS I J 107 116 i ∧ cpS I J 108 117 i ∧ cpS I J 109 118 i ∧ ∀ a, ¬ (107 ≤ a ∧ a ≤ 109) → J a = I a
theorem l_X12_cm4 {H : Nat} (hH : I 95 11 = nI H) (h5 : H ≤ 4) : ∀ n i, i + n = H → ∀ (J : Is) (x : Int32), x = nI i → gaR I J i → (∀ (J : Is) (x : Int32), gaR I J H → RR sc mX12_camp 8 0 0 post 0 0 264 [(1, .int x), (0, .ref 95)] [] (XW J L tg)) → RR sc mX12_camp 8 0 0 post 0 0 214 [(1, .int x), (0, .ref 95)] [] (XW J L tg) := by
  have hi5 : (nI H).toInt = H := nI_toInt (by omega)
  intro n
  induction n with
  | zero =>
    intro i hi J x ex hJ kk
    obtain rfl : i = H := by omega
    have xi : x.toInt = i := by rw [ex, nI_toInt (by omega)]
    have jH : J 95 11 = nI i := by rw [hJ.2.2.2 95 (by omega)]; exact hH
    refine r_iload_n (j := 0) rfl rfl dX12_camp_214 ?_
    refine r_aload_n (j := 1) rfl rfl dX12_camp_215 ?_
    refine w_getI fX12_358 rfl dX12_camp_216 ?_
    refine r_icmp_ge (tgt := 264) dX12_camp_219 (by decide) (fun c219 => ?_) (fun c219 => ?_)
    · exact kk _ _ hJ
    · exfalso; rw [jH] at c219; ((try simp only [bI_0, bI_1, lc_lt, lc_gt, lc_le, lc_ge, Classical.not_not] at *); (try simp only [i_lt, i_le, i_eq, l_lt, l_le, l_eq, Int32.toInt_toInt64, Int32.reduceToInt, Int64.reduceToInt] at *); omega)
  | succ n ih =>
    intro i hi J x ex hJ kk
    have xi : x.toInt = i := by rw [ex, nI_toInt (by omega)]
    have xc : x.toNatClampNeg = i := by rw [ex, nI_clamp (by omega)]
    obtain ⟨r1, r2, r3, r6⟩ := hJ
    have jH : J 95 11 = nI H := by rw [r6 95 (by omega)]; exact hH
    refine r_iload_n (j := 0) rfl rfl dX12_camp_214 ?_
    refine r_aload_n (j := 1) rfl rfl dX12_camp_215 ?_
    refine w_getI fX12_358 rfl dX12_camp_216 ?_
    refine r_icmp_ge (tgt := 264) dX12_camp_219 (by decide) (fun c219 => ?_) (fun c219 => ?_)
    · exfalso; rw [jH] at c219; ((try simp only [bI_0, bI_1, lc_lt, lc_gt, lc_le, lc_ge, Classical.not_not] at *); (try simp only [i_lt, i_le, i_eq, l_lt, l_le, l_eq, Int32.toInt_toInt64, Int32.reduceToInt, Int64.reduceToInt] at *); omega)
    · refine r_aload_n (j := 1) rfl rfl dX12_camp_222 ?_
      refine w_getR (b := 107) fX12_236 rfl rfl dX12_camp_223 ?_
      refine r_iload_n (j := 0) rfl rfl dX12_camp_226 ?_
      refine r_aload_n (j := 1) rfl rfl dX12_camp_227 ?_
      refine w_getR (b := 116) fX12_129 rfl rfl dX12_camp_228 ?_
      refine r_iload_n (j := 0) rfl rfl dX12_camp_231 ?_
      refine w_iald rfl (up_in xi (show _ < 4 by omega)) dX12_camp_232 ?_
      refine w_iast rfl (up_in xi (show _ < 4 by omega)) dX12_camp_233 (fun J233 hJ233 => ?_)
      refine r_aload_n (j := 1) rfl rfl dX12_camp_234 ?_
      refine w_getR (b := 108) fX12_239 rfl rfl dX12_camp_235 ?_
      refine r_iload_n (j := 0) rfl rfl dX12_camp_238 ?_
      refine r_aload_n (j := 1) rfl rfl dX12_camp_239 ?_
      refine w_getR (b := 117) fX12_132 rfl rfl dX12_camp_240 ?_
      refine r_iload_n (j := 0) rfl rfl dX12_camp_243 ?_
      refine w_iald rfl (up_in xi (show _ < 4 by omega)) dX12_camp_244 ?_
      refine w_iast rfl (up_in xi (show _ < 4 by omega)) dX12_camp_245 (fun J245 hJ245 => ?_)
      refine r_aload_n (j := 1) rfl rfl dX12_camp_246 ?_
      refine w_getR (b := 109) fX12_242 rfl rfl dX12_camp_247 ?_
      refine r_iload_n (j := 0) rfl rfl dX12_camp_250 ?_
      refine r_aload_n (j := 1) rfl rfl dX12_camp_251 ?_
      refine w_getR (b := 118) fX12_135 rfl rfl dX12_camp_252 ?_
      refine r_iload_n (j := 0) rfl rfl dX12_camp_255 ?_
      refine w_iald rfl (up_in xi (show _ < 4 by omega)) dX12_camp_256 ?_
      refine w_iast rfl (up_in xi (show _ < 4 by omega)) dX12_camp_257 (fun J257 hJ257 => ?_)
      refine r_iinc (j := 0) (lv' := fun z => [(1, .int z), (0, .ref 95)]) dX12_camp_258 rfl (Nat.le_of_ble_eq_true rfl) (fun _ => rfl) (fun x1_258 ex1_258 => ?_)
      refine r_goto (tgt := 214) dX12_camp_261 (by decide) ?_
      rw [xc] at hJ233 hJ245 hJ257
      have e1 : ∀ a, a ≠ 107 → J233 a = J a := fun a ha => by rw [hJ233, up_n _ _ _ ha]
      have e2 : ∀ a, a ≠ 108 → J245 a = J233 a := fun a ha => by rw [hJ245, up_n _ _ _ ha]
      have e3 : ∀ a, a ≠ 109 → J257 a = J245 a := fun a ha => by rw [hJ257, up_n _ _ _ ha]
      refine ih (i + 1) (by omega) _ _ (by rw [ex1_258, ex]; exact nI_1 _) ⟨cpS_n r1 ?_, cpS_n r2 ?_, cpS_n r3 ?_, fun a a1 => ?_⟩ kk
      · rw [e3 _ (by decide), e2 _ (by decide), hJ233, up_s, r6 116 (by omega)]
      · rw [e3 _ (by decide), hJ245, up_s, e1 _ (by decide), e1 _ (by decide), r6 117 (by omega)]
      · rw [hJ257, up_s, e2 _ (by decide), e1 _ (by decide), e2 _ (by decide), e1 _ (by decide), r6 118 (by omega)]
      · rw [e3 _ (by omega), e2 _ (by omega), e1 _ (by omega), r6 a a1]
def loR (I J : Is) (i : Nat) : Prop := cpS I J 110 119 i ∧ ∀ a, a ≠ 110 → J a = I a
theorem l_X12_cm5 {H : Nat} (hH : I 95 12 = nI H) (h5 : H ≤ 4) : ∀ n i, i + n = H → ∀ (J : Is) (x : Int32), x = nI i → loR I J i → (∀ (J : Is) (x : Int32), loR I J H → RR sc mX12_camp 8 0 0 post 0 0 292 [(1, .int x), (0, .ref 95)] [] (XW J L tg)) → RR sc mX12_camp 8 0 0 post 0 0 266 [(1, .int x), (0, .ref 95)] [] (XW J L tg) := by
  have hi5 : (nI H).toInt = H := nI_toInt (by omega)
  intro n
  induction n with
  | zero =>
    intro i hi J x ex hJ kk
    obtain rfl : i = H := by omega
    have xi : x.toInt = i := by rw [ex, nI_toInt (by omega)]
    have jH : J 95 12 = nI i := by rw [hJ.2 95 (by omega)]; exact hH
    refine r_iload_n (j := 0) rfl rfl dX12_camp_266 ?_
    refine r_aload_n (j := 1) rfl rfl dX12_camp_267 ?_
    refine w_getI fX12_361 rfl dX12_camp_268 ?_
    refine r_icmp_ge (tgt := 292) dX12_camp_271 (by decide) (fun c271 => ?_) (fun c271 => ?_)
    · exact kk _ _ hJ
    · exfalso; rw [jH] at c271; ((try simp only [bI_0, bI_1, lc_lt, lc_gt, lc_le, lc_ge, Classical.not_not] at *); (try simp only [i_lt, i_le, i_eq, l_lt, l_le, l_eq, Int32.toInt_toInt64, Int32.reduceToInt, Int64.reduceToInt] at *); omega)
  | succ n ih =>
    intro i hi J x ex hJ kk
    have xi : x.toInt = i := by rw [ex, nI_toInt (by omega)]
    have xc : x.toNatClampNeg = i := by rw [ex, nI_clamp (by omega)]
    have jH : J 95 12 = nI H := by rw [hJ.2 95 (by omega)]; exact hH
    refine r_iload_n (j := 0) rfl rfl dX12_camp_266 ?_
    refine r_aload_n (j := 1) rfl rfl dX12_camp_267 ?_
    refine w_getI fX12_361 rfl dX12_camp_268 ?_
    refine r_icmp_ge (tgt := 292) dX12_camp_271 (by decide) (fun c271 => ?_) (fun c271 => ?_)
    · exfalso; rw [jH] at c271; ((try simp only [bI_0, bI_1, lc_lt, lc_gt, lc_le, lc_ge, Classical.not_not] at *); (try simp only [i_lt, i_le, i_eq, l_lt, l_le, l_eq, Int32.toInt_toInt64, Int32.reduceToInt, Int64.reduceToInt] at *); omega)
    · refine r_aload_n (j := 1) rfl rfl dX12_camp_274 ?_
      refine w_getR (b := 110) fX12_245 rfl rfl dX12_camp_275 ?_
      refine r_iload_n (j := 0) rfl rfl dX12_camp_278 ?_
      refine r_aload_n (j := 1) rfl rfl dX12_camp_279 ?_
      refine w_getR (b := 119) fX12_150 rfl rfl dX12_camp_280 ?_
      refine r_iload_n (j := 0) rfl rfl dX12_camp_283 ?_
      refine w_iald rfl (up_in xi (show _ < 4 by omega)) dX12_camp_284 ?_
      refine w_iast rfl (up_in xi (show _ < 4 by omega)) dX12_camp_285 (fun J285 hJ285 => ?_)
      refine r_iinc (j := 0) (lv' := fun z => [(1, .int z), (0, .ref 95)]) dX12_camp_286 rfl (Nat.le_of_ble_eq_true rfl) (fun _ => rfl) (fun x1_286 ex1_286 => ?_)
      refine r_goto (tgt := 266) dX12_camp_289 (by decide) ?_
      refine ih (i + 1) (by omega) _ _ (by rw [ex1_286, ex]; exact nI_1 _) ⟨cpS_n hJ.1 ?_, fun a ha => ?_⟩ kk
      · rw [hJ285, xc, up_s, hJ.2 119 (by decide)]
      · rw [hJ285, up_n _ _ _ ha, hJ.2 a ha]
end
