/-! the component's reader: the end of a clause; any TOKEN -/
section
variable {sc : Sc} {I : Is} {L : Ls}
def ap1 (I : Is) : Is := up I 18 17 (I 18 17 + 1)
def apcI (I : Is) (k H G K : Nat) : Is :=
  if k = 0 then ahI (ap1 I) H (I 35 0) (I 35 1) (I 35 2)
  else if k = 1 then agI (ap1 I) G (I 35 0) (I 35 1) (I 35 2)
  else if k = 2 then up (ap1 I) 25 (I 33 14).toNatClampNeg (I 35 0)
  else if k = 3 then up (up (ap1 I) 26 (I 33 14 * 5 + I 33 15).toNatClampNeg (I 35 0)) 26 (I 33 15 * 5 + I 33 14).toNatClampNeg (I 35 0)
  else if k = 4 then alI (ap1 I) K (I 35 0)
  else if k = 5 then up (up (up (up (ap1 I) 19 12 (I 35 0)) 20 12 1) 19 13 (I 35 1)) 20 13 1
  else up (up (ap1 I) 19 (k - 3) (I 35 0)) 20 (k - 3) 1
def apL (L : Ls) (k H G K : Nat) : Ls := if k = 0 then up L 21 H (L 33 13) else if k = 1 then up L 27 G (L 33 13) else if k = 4 then up L 31 K (L 33 13) else L
/-- what a clause must hold before it ends -/
def clW (I : Is) (k H G K : Nat) : Prop := (k = 0 → H < 5) ∧ (k = 1 → G < 4) ∧ (k = 4 → K < 4) ∧ (k = 2 ∨ k = 3 → 0 ≤ (I 33 14).toInt ∧ (I 33 14).toInt < 5) ∧ (k = 3 → 0 ≤ (I 33 15).toInt ∧ (I 33 15).toInt < 5)
theorem stO_k {k : Nat} (h6 : 6 ≤ k) (h : k < 15) : stO (nI k) = nI (k - 3) := by
  unfold stO
  rw [if_neg (fun z => by have := (nI_ij (b := 5) (by omega) (by omega)).mp z; omega)]
  have e1 : nI k - 6 = nI (k - 6) := pk_sub (b := 6) h6
  have e2 : nI (k - 6) + 3 = nI (k - 6 + 3) := nI_add (k - 6) 3
  rw [e1, e2]
  congr 1
  omega
theorem k_X8_applyClause {k H G K : Nat} (hk : I 33 12 = nI k) (h15 : k < 15) (hB : cBd I H G K) (hW : clW I k H G K) : Con sc mX8_applyClause 1 0 0 [.ref 33] (XW I L 18) (rV (XW (apcI I k H G K) (apL L k H G K) 18)) := by
  refine Con_of (by decide) (Nat.le_of_ble_eq_true rfl) ?_
  obtain ⟨hH, h5, hG, h4, hK, h4'⟩ := hB
  obtain ⟨w0, w1, w4, w2, w3⟩ := hW
  have ki : (I 33 12).toInt = k := by rw [hk, nI_toInt (by omega)]
  refine r_aload_n (j := 0) rfl rfl dX8_applyClause_0 ?_
  refine w_getR (b := 18) fX8_30 rfl rfl dX8_applyClause_1 ?_
  refine r_dup rfl dX8_applyClause_4 ?_
  refine w_getI fX8_194 rfl dX8_applyClause_5 ?_
  refine r_iconst (v := 1) rfl dX8_applyClause_8 ?_
  refine r_iadd dX8_applyClause_9 ?_
  refine w_putI fX8_194 rfl (rfl) (rfl) dX8_applyClause_10 (fun J10 hJ10 => ?_)
  have eJ : J10 = ap1 I := hJ10
  have a33 : J10 33 = I 33 := by rw [hJ10]; simp [up_eq]
  have a35 : J10 35 = I 35 := by rw [hJ10]; simp [up_eq]
  have a14 : J10 18 14 = I 18 14 := by rw [hJ10]; simp [up_eq, vu_eq]
  have a15 : J10 18 15 = I 18 15 := by rw [hJ10]; simp [up_eq, vu_eq]
  have a16 : J10 18 16 = I 18 16 := by rw [hJ10]; simp [up_eq, vu_eq]
  clear hJ10
  refine r_aload_n (j := 0) rfl rfl dX8_applyClause_13 ?_
  refine w_getI fX8_71 rfl dX8_applyClause_14 ?_
  rw [a33]
  refine w_tab (tgtD := 218) dX8_applyClause_17 (by decide) (fun c17 => ?_) (fun i c17 l17 => ?_)
  · refine r_aload_n (j := 0) rfl rfl dX8_applyClause_218 ?_
    refine w_getR (b := 18) fX8_30 rfl rfl dX8_applyClause_219 ?_
    refine r_aload_n (j := 0) rfl rfl dX8_applyClause_222 ?_
    refine w_getI fX8_71 rfl dX8_applyClause_223 ?_
    refine w_cS1p (k_X8_settingOf) (Nat.le_of_ble_eq_true rfl) lX8_134 mtX8_settingOf (Nat.le_of_ble_eq_true rfl) (Nat.le_of_ble_eq_true rfl) (Nat.le_of_ble_eq_true rfl) dX8_applyClause_226 ?_
    refine r_aload_n (j := 0) rfl rfl dX8_applyClause_229 ?_
    refine w_getR (b := 35) fX8_19 rfl rfl dX8_applyClause_230 ?_
    refine r_iconst (v := 0) rfl dX8_applyClause_233 ?_
    refine w_iald rfl (by first | assumption | (rw [vp_in_iff]; ((try simp only [bI_0, bI_1, lc_lt, lc_gt, lc_le, lc_ge, Classical.not_not] at *); (try simp only [i_lt, i_le, i_eq, l_lt, l_le, l_eq, Int32.toInt_toInt64, Int32.reduceToInt, Int64.reduceToInt] at *); omega))) dX8_applyClause_234 ?_
    refine w_cV2v (k_X0_tellSetting (by rw [a33, hk, stO_k (by omega) h15, nI_toInt (by omega)]; omega) (by rw [a33, hk, stO_k (by omega) h15, nI_toInt (by omega)]; omega)) (Nat.le_of_ble_eq_true rfl) lX8_212 vmX0_tellSetting rfl (Nat.le_of_ble_eq_true rfl) (Nat.le_of_ble_eq_true rfl) (Nat.le_of_ble_eq_true rfl) dX8_applyClause_235 (fun J235 K235 hJ235 hK235 => ?_)
    subst hK235
    refine w_vret rfl (Nat.le_of_ble_eq_true rfl) (Nat.le_of_ble_eq_true rfl) dX8_applyClause_238 ?_
    exact ⟨by rw [hJ235, a33, a35, hk, stO_k (by omega) h15, nI_clamp (by omega), eJ]; unfold apcI; rw [if_neg (by omega), if_neg (by omega), if_neg (by omega), if_neg (by omega), if_neg (by omega), if_neg (by omega)]; rfl, by unfold apL; rw [if_neg (by omega), if_neg (by omega), if_neg (by omega)], rfl⟩
  · rcases (show i = 0 ∨ i = 1 ∨ i = 2 ∨ i = 3 ∨ i = 4 ∨ i = 5 by omega) with rfl | rfl | rfl | rfl | rfl | rfl
    · refine ⟨39, 56, rfl, by decide, ?_⟩
      obtain rfl : k = 0 := (by omega)
      refine r_aload_n (j := 0) rfl rfl dX8_applyClause_56 ?_
      refine w_getR (b := 18) fX8_30 rfl rfl dX8_applyClause_57 ?_
      refine r_aload_n (j := 0) rfl rfl dX8_applyClause_60 ?_
      refine w_getL fX8_169 rfl dX8_applyClause_61 ?_
      refine r_aload_n (j := 0) rfl rfl dX8_applyClause_64 ?_
      refine w_getR (b := 35) fX8_19 rfl rfl dX8_applyClause_65 ?_
      refine r_iconst (v := 0) rfl dX8_applyClause_68 ?_
      refine w_iald rfl (by first | assumption | (rw [vp_in_iff]; ((try simp only [bI_0, bI_1, lc_lt, lc_gt, lc_le, lc_ge, Classical.not_not] at *); (try simp only [i_lt, i_le, i_eq, l_lt, l_le, l_eq, Int32.toInt_toInt64, Int32.reduceToInt, Int64.reduceToInt] at *); omega))) dX8_applyClause_69 ?_
      refine r_aload_n (j := 0) rfl rfl dX8_applyClause_70 ?_
      refine w_getR (b := 35) fX8_19 rfl rfl dX8_applyClause_71 ?_
      refine r_iconst (v := 1) rfl dX8_applyClause_74 ?_
      refine w_iald rfl (by first | assumption | (rw [vp_in_iff]; ((try simp only [bI_0, bI_1, lc_lt, lc_gt, lc_le, lc_ge, Classical.not_not] at *); (try simp only [i_lt, i_le, i_eq, l_lt, l_le, l_eq, Int32.toInt_toInt64, Int32.reduceToInt, Int64.reduceToInt] at *); omega))) dX8_applyClause_75 ?_
      refine r_aload_n (j := 0) rfl rfl dX8_applyClause_76 ?_
      refine w_getR (b := 35) fX8_19 rfl rfl dX8_applyClause_77 ?_
      refine r_iconst (v := 2) rfl dX8_applyClause_80 ?_
      refine w_iald rfl (by first | assumption | (rw [vp_in_iff]; ((try simp only [bI_0, bI_1, lc_lt, lc_gt, lc_le, lc_ge, Classical.not_not] at *); (try simp only [i_lt, i_le, i_eq, l_lt, l_le, l_eq, Int32.toInt_toInt64, Int32.reduceToInt, Int64.reduceToInt] at *); omega))) dX8_applyClause_81 ?_
      refine w_cV4v (k_X0_addHut (H := H) (by rw [a14]; exact hH) (w0 rfl)) (Nat.le_of_ble_eq_true rfl) lX8_197 vmX0_addHut rfl (Nat.le_of_ble_eq_true rfl) (Nat.le_of_ble_eq_true rfl) (Nat.le_of_ble_eq_true rfl) dX8_applyClause_82 (fun J82 K82 hJ82 hK82 => ?_)
      subst hK82
      refine r_goto (tgt := 238) dX8_applyClause_85 (by decide) ?_
      refine w_vret rfl (Nat.le_of_ble_eq_true rfl) (Nat.le_of_ble_eq_true rfl) dX8_applyClause_238 ?_
      exact ⟨by rw [hJ82, a35, eJ]; rfl, rfl, rfl⟩
    · refine ⟨71, 88, rfl, by decide, ?_⟩
      obtain rfl : k = 1 := (by omega)
      refine r_aload_n (j := 0) rfl rfl dX8_applyClause_88 ?_
      refine w_getR (b := 18) fX8_30 rfl rfl dX8_applyClause_89 ?_
      refine r_aload_n (j := 0) rfl rfl dX8_applyClause_92 ?_
      refine w_getL fX8_169 rfl dX8_applyClause_93 ?_
      refine r_aload_n (j := 0) rfl rfl dX8_applyClause_96 ?_
      refine w_getR (b := 35) fX8_19 rfl rfl dX8_applyClause_97 ?_
      refine r_iconst (v := 0) rfl dX8_applyClause_100 ?_
      refine w_iald rfl (by first | assumption | (rw [vp_in_iff]; ((try simp only [bI_0, bI_1, lc_lt, lc_gt, lc_le, lc_ge, Classical.not_not] at *); (try simp only [i_lt, i_le, i_eq, l_lt, l_le, l_eq, Int32.toInt_toInt64, Int32.reduceToInt, Int64.reduceToInt] at *); omega))) dX8_applyClause_101 ?_
      refine r_aload_n (j := 0) rfl rfl dX8_applyClause_102 ?_
      refine w_getR (b := 35) fX8_19 rfl rfl dX8_applyClause_103 ?_
      refine r_iconst (v := 1) rfl dX8_applyClause_106 ?_
      refine w_iald rfl (by first | assumption | (rw [vp_in_iff]; ((try simp only [bI_0, bI_1, lc_lt, lc_gt, lc_le, lc_ge, Classical.not_not] at *); (try simp only [i_lt, i_le, i_eq, l_lt, l_le, l_eq, Int32.toInt_toInt64, Int32.reduceToInt, Int64.reduceToInt] at *); omega))) dX8_applyClause_107 ?_
      refine r_aload_n (j := 0) rfl rfl dX8_applyClause_108 ?_
      refine w_getR (b := 35) fX8_19 rfl rfl dX8_applyClause_109 ?_
      refine r_iconst (v := 2) rfl dX8_applyClause_112 ?_
      refine w_iald rfl (by first | assumption | (rw [vp_in_iff]; ((try simp only [bI_0, bI_1, lc_lt, lc_gt, lc_le, lc_ge, Classical.not_not] at *); (try simp only [i_lt, i_le, i_eq, l_lt, l_le, l_eq, Int32.toInt_toInt64, Int32.reduceToInt, Int64.reduceToInt] at *); omega))) dX8_applyClause_113 ?_
      refine w_cV4v (k_X0_addGarden (H := G) (by rw [a15]; exact hG) (w1 rfl)) (Nat.le_of_ble_eq_true rfl) lX8_201 vmX0_addGarden rfl (Nat.le_of_ble_eq_true rfl) (Nat.le_of_ble_eq_true rfl) (Nat.le_of_ble_eq_true rfl) dX8_applyClause_114 (fun J114 K114 hJ114 hK114 => ?_)
      subst hK114
      refine r_goto (tgt := 238) dX8_applyClause_117 (by decide) ?_
      refine w_vret rfl (Nat.le_of_ble_eq_true rfl) (Nat.le_of_ble_eq_true rfl) dX8_applyClause_238 ?_
      exact ⟨by rw [hJ114, a35, eJ]; rfl, rfl, rfl⟩
    · refine ⟨103, 120, rfl, by decide, ?_⟩
      obtain rfl : k = 2 := (by omega); obtain ⟨z0, z5⟩ := w2 (Or.inl rfl)
      refine r_aload_n (j := 0) rfl rfl dX8_applyClause_120 ?_
      refine w_getR (b := 18) fX8_30 rfl rfl dX8_applyClause_121 ?_
      refine w_getR (b := 25) fX8_175 rfl rfl dX8_applyClause_124 ?_
      refine r_aload_n (j := 0) rfl rfl dX8_applyClause_127 ?_
      refine w_getI fX8_172 rfl dX8_applyClause_128 ?_
      refine r_aload_n (j := 0) rfl rfl dX8_applyClause_131 ?_
      refine w_getR (b := 35) fX8_19 rfl rfl dX8_applyClause_132 ?_
      refine r_iconst (v := 0) rfl dX8_applyClause_135 ?_
      refine w_iald rfl (by first | assumption | (rw [vp_in_iff]; ((try simp only [bI_0, bI_1, lc_lt, lc_gt, lc_le, lc_ge, Classical.not_not] at *); (try simp only [i_lt, i_le, i_eq, l_lt, l_le, l_eq, Int32.toInt_toInt64, Int32.reduceToInt, Int64.reduceToInt] at *); omega))) dX8_applyClause_136 ?_
      refine w_iast rfl (by rw [a33, vp_in_iff]; omega) dX8_applyClause_137 (fun J137 hJ137 => ?_)
      refine r_goto (tgt := 238) dX8_applyClause_138 (by decide) ?_
      refine w_vret rfl (Nat.le_of_ble_eq_true rfl) (Nat.le_of_ble_eq_true rfl) dX8_applyClause_238 ?_
      exact ⟨by rw [hJ137, a33, a35, eJ]; rfl, rfl, rfl⟩
    · refine ⟨124, 141, rfl, by decide, ?_⟩
      obtain rfl : k = 3 := (by omega); obtain ⟨z0, z5⟩ := w2 (Or.inr rfl); obtain ⟨y0, y5⟩ := w3 rfl; rw [← a33] at z0 z5 y0 y5
      refine r_aload_n (j := 0) rfl rfl dX8_applyClause_141 ?_
      refine w_getR (b := 18) fX8_30 rfl rfl dX8_applyClause_142 ?_
      refine r_aload_n (j := 0) rfl rfl dX8_applyClause_145 ?_
      refine w_getI fX8_172 rfl dX8_applyClause_146 ?_
      refine r_aload_n (j := 0) rfl rfl dX8_applyClause_149 ?_
      refine w_getI fX8_178 rfl dX8_applyClause_150 ?_
      refine r_aload_n (j := 0) rfl rfl dX8_applyClause_153 ?_
      refine w_getR (b := 35) fX8_19 rfl rfl dX8_applyClause_154 ?_
      refine r_iconst (v := 0) rfl dX8_applyClause_157 ?_
      refine w_iald rfl (by first | assumption | (rw [vp_in_iff]; ((try simp only [bI_0, bI_1, lc_lt, lc_gt, lc_le, lc_ge, Classical.not_not] at *); (try simp only [i_lt, i_le, i_eq, l_lt, l_le, l_eq, Int32.toInt_toInt64, Int32.reduceToInt, Int64.reduceToInt] at *); omega))) dX8_applyClause_158 ?_
      refine w_cV3v (k_X0_tellRun z0 z5 y0 y5) (Nat.le_of_ble_eq_true rfl) lX8_204 vmX0_tellRun rfl (Nat.le_of_ble_eq_true rfl) (Nat.le_of_ble_eq_true rfl) (Nat.le_of_ble_eq_true rfl) dX8_applyClause_159 (fun J159 K159 hJ159 hK159 => ?_)
      subst hK159
      refine r_goto (tgt := 238) dX8_applyClause_162 (by decide) ?_
      refine w_vret rfl (Nat.le_of_ble_eq_true rfl) (Nat.le_of_ble_eq_true rfl) dX8_applyClause_238 ?_
      exact ⟨by rw [hJ159, a33, a35, eJ]; rfl, rfl, rfl⟩
    · refine ⟨148, 165, rfl, by decide, ?_⟩
      obtain rfl : k = 4 := (by omega)
      refine r_aload_n (j := 0) rfl rfl dX8_applyClause_165 ?_
      refine w_getR (b := 18) fX8_30 rfl rfl dX8_applyClause_166 ?_
      refine r_aload_n (j := 0) rfl rfl dX8_applyClause_169 ?_
      refine w_getL fX8_169 rfl dX8_applyClause_170 ?_
      refine r_aload_n (j := 0) rfl rfl dX8_applyClause_173 ?_
      refine w_getR (b := 35) fX8_19 rfl rfl dX8_applyClause_174 ?_
      refine r_iconst (v := 0) rfl dX8_applyClause_177 ?_
      refine w_iald rfl (by first | assumption | (rw [vp_in_iff]; ((try simp only [bI_0, bI_1, lc_lt, lc_gt, lc_le, lc_ge, Classical.not_not] at *); (try simp only [i_lt, i_le, i_eq, l_lt, l_le, l_eq, Int32.toInt_toInt64, Int32.reduceToInt, Int64.reduceToInt] at *); omega))) dX8_applyClause_178 ?_
      refine w_cV2v (k_X0_addLook (H := K) (by rw [a16]; exact hK) (w4 rfl)) (Nat.le_of_ble_eq_true rfl) lX8_208 vmX0_addLook rfl (Nat.le_of_ble_eq_true rfl) (Nat.le_of_ble_eq_true rfl) (Nat.le_of_ble_eq_true rfl) dX8_applyClause_179 (fun J179 K179 hJ179 hK179 => ?_)
      subst hK179
      refine r_goto (tgt := 238) dX8_applyClause_182 (by decide) ?_
      refine w_vret rfl (Nat.le_of_ble_eq_true rfl) (Nat.le_of_ble_eq_true rfl) dX8_applyClause_238 ?_
      exact ⟨by rw [hJ179, a35, eJ]; rfl, rfl, rfl⟩
    · refine ⟨168, 185, rfl, by decide, ?_⟩
      obtain rfl : k = 5 := (by omega)
      refine r_aload_n (j := 0) rfl rfl dX8_applyClause_185 ?_
      refine w_getR (b := 18) fX8_30 rfl rfl dX8_applyClause_186 ?_
      refine r_bipush (v := 12) rfl dX8_applyClause_189 ?_
      refine r_aload_n (j := 0) rfl rfl dX8_applyClause_191 ?_
      refine w_getR (b := 35) fX8_19 rfl rfl dX8_applyClause_192 ?_
      refine r_iconst (v := 0) rfl dX8_applyClause_195 ?_
      refine w_iald rfl (by first | assumption | (rw [vp_in_iff]; ((try simp only [bI_0, bI_1, lc_lt, lc_gt, lc_le, lc_ge, Classical.not_not] at *); (try simp only [i_lt, i_le, i_eq, l_lt, l_le, l_eq, Int32.toInt_toInt64, Int32.reduceToInt, Int64.reduceToInt] at *); omega))) dX8_applyClause_196 ?_
      refine w_cV2v (k_X0_tellSetting (by decide) (by decide)) (Nat.le_of_ble_eq_true rfl) lX8_212 vmX0_tellSetting rfl (Nat.le_of_ble_eq_true rfl) (Nat.le_of_ble_eq_true rfl) (Nat.le_of_ble_eq_true rfl) dX8_applyClause_197 (fun J197 K197 hJ197 hK197 => ?_)
      subst hK197
      refine r_aload_n (j := 0) rfl rfl dX8_applyClause_200 ?_
      refine w_getR (b := 18) fX8_30 rfl rfl dX8_applyClause_201 ?_
      refine r_bipush (v := 13) rfl dX8_applyClause_204 ?_
      refine r_aload_n (j := 0) rfl rfl dX8_applyClause_206 ?_
      refine w_getR (b := 35) fX8_19 rfl rfl dX8_applyClause_207 ?_
      refine r_iconst (v := 1) rfl dX8_applyClause_210 ?_
      refine w_iald rfl (by first | assumption | (rw [vp_in_iff]; ((try simp only [bI_0, bI_1, lc_lt, lc_gt, lc_le, lc_ge, Classical.not_not] at *); (try simp only [i_lt, i_le, i_eq, l_lt, l_le, l_eq, Int32.toInt_toInt64, Int32.reduceToInt, Int64.reduceToInt] at *); omega))) dX8_applyClause_211 ?_
      refine w_cV2v (k_X0_tellSetting (by decide) (by decide)) (Nat.le_of_ble_eq_true rfl) lX8_212 vmX0_tellSetting rfl (Nat.le_of_ble_eq_true rfl) (Nat.le_of_ble_eq_true rfl) (Nat.le_of_ble_eq_true rfl) dX8_applyClause_212 (fun J212 K212 hJ212 hK212 => ?_)
      subst hK212
      refine r_goto (tgt := 238) dX8_applyClause_215 (by decide) ?_
      refine w_vret rfl (Nat.le_of_ble_eq_true rfl) (Nat.le_of_ble_eq_true rfl) dX8_applyClause_238 ?_
      exact ⟨by have g : J197 35 = I 35 := (by rw [hJ197]; simp [up_eq, a35]); rw [hJ212, g, hJ197, a35, eJ]; rfl, rfl, rfl⟩
theorem tb_wd {k : Nat} (h : k < 15) : tb1.getD k 0 = nI (wdN k) := by
  have : ∀ k, k < 15 → tb1.getD k 0 = nI (wdN k) := by decide
  exact this k h
theorem tb_nm {k : Nat} (h : k < 15) : tb2.getD k 0 = nI (nmN k) := by
  have : ∀ k, k < 15 → tb2.getD k 0 = nI (nmN k) := by decide
  exact this k h
theorem wd_r (k : Nat) : wdN k ≤ 2 ∧ nmN k ≤ 3 ∧ 1 ≤ nmN k := by unfold wdN nmN; split <;> split <;> (try split) <;> (try split) <;> omega
/-- a token where the clause stands -/
def acP (I : Is) (L : Ls) (k s H G K : Nat) : Int32 × Is × Ls :=
  if s = 0 then (akR I (kwF I L), akI I (kwF I L), L)
  else if s ≤ wdN k then anF I L H G K
  else if s - wdN k - 1 < nmN k then (amR I k (s - wdN k - 1), amI I k (s - wdN k - 1), L)
  else if ¬ I 33 7 = 3 then (1, I, L)
  else (0, up (apcI I k H G K) 33 11 0, apL L k H G K)
theorem acP_k {k s H G K : Nat} (h : s = 0) : acP I L k s H G K = (akR I (kwF I L), akI I (kwF I L), L) := if_pos h
theorem acP_n {k s H G K : Nat} (h : ¬ s = 0) (h1 : s ≤ wdN k) : acP I L k s H G K = anF I L H G K := by unfold acP; simp only [h, h1, if_false, if_true]
theorem acP_m {k s H G K : Nat} (h : wdN k < s) (h1 : s - wdN k - 1 < nmN k) : acP I L k s H G K = (amR I k (s - wdN k - 1), amI I k (s - wdN k - 1), L) := by unfold acP; rw [if_neg (by omega), if_neg (by omega), if_pos h1]
theorem acP_s {k s H G K : Nat} (h : wdN k < s) (h1 : ¬ s - wdN k - 1 < nmN k) (h2 : ¬ I 33 7 = 3) : acP I L k s H G K = (1, I, L) := by unfold acP; rw [if_neg (by omega), if_neg (by omega), if_neg h1, if_pos h2]
theorem acP_e {k s H G K : Nat} (h : wdN k < s) (h1 : ¬ s - wdN k - 1 < nmN k) (h2 : I 33 7 = 3) : acP I L k s H G K = (0, up (apcI I k H G K) 33 11 0, apL L k H G K) := by unfold acP; rw [if_neg (by omega), if_neg (by omega), if_neg h1, if_neg (by exact fun z => z h2)]
def Pw (I : Is) (k s H G K : Nat) : Prop := I 33 12 = nI k ∧ k < 15 ∧ I 33 11 = nI s ∧ s ≤ wdN k + nmN k + 1 ∧ cBd I H G K ∧ (s ≠ 0 → (k = 0 → H < 5) ∧ (k = 1 → G < 4) ∧ (k = 4 → K < 4)) ∧ (2 ≤ s → k = 2 ∨ k = 3 → 0 ≤ (I 33 14).toInt ∧ (I 33 14).toInt < 5) ∧ (3 ≤ s → k = 3 → 0 ≤ (I 33 15).toInt ∧ (I 33 15).toInt < 5)
theorem k_X8_acceptToken {k s H G K : Nat} (hP : Pw I k s H G K) : Con sc mX8_acceptToken 3 0 0 [.ref 33] (XW I L 18) (rI (acP I L k s H G K).1 (XW (acP I L k s H G K).2.1 (acP I L k s H G K).2.2 18)) := by
  refine Con_of (by decide) (Nat.le_of_ble_eq_true rfl) ?_
  obtain ⟨hk, h15, hs, hsm, hB, hr, hf, hg⟩ := hP
  have wr := wd_r k
  have ki : (I 33 12).toInt = k := by rw [hk, nI_toInt (by omega)]
  have si : (I 33 11).toInt = s := by rw [hs, nI_toInt (by omega)]
  have kc : (I 33 12).toNatClampNeg = k := by rw [hk, nI_clamp (by omega)]
  have wi : (tb1.getD k 0).toInt = wdN k := by rw [tb_wd h15, nI_toInt (by omega)]
  have ni : (tb2.getD k 0).toInt = nmN k := by rw [tb_nm h15, nI_toInt (by omega)]
  refine r_aload_n (j := 0) rfl rfl dX8_acceptToken_0 ?_
  refine w_getI fX8_68 rfl dX8_acceptToken_1 ?_
  refine r_if_ne (tgt := 12) dX8_acceptToken_4 (by decide) (fun c4 => ?_) (fun c4 => ?_)
  · refine r_aload_n (j := 0) rfl rfl dX8_acceptToken_12 ?_
    refine w_getI fX8_68 rfl dX8_acceptToken_13 ?_
    refine r_gets (v := .ref 1001) (by decide +kernel) fsX8_9 dX8_acceptToken_16 ?_
    refine r_aload_n (j := 0) rfl rfl dX8_acceptToken_19 ?_
    refine w_getI fX8_71 rfl dX8_acceptToken_20 ?_
    refine r_tld (t := tb1) oT_1 (up_in ki (show _ < 15 from h15)) dX8_acceptToken_23 ?_
    rw [kc]
    refine r_icmp_gt (tgt := 32) dX8_acceptToken_24 (by decide) (fun c24 => ?_) (fun c24 => ?_)
    · refine r_aload_n (j := 0) rfl rfl dX8_acceptToken_32 ?_
      refine w_getI fX8_68 rfl dX8_acceptToken_33 ?_
      refine r_gets (v := .ref 1001) (by decide +kernel) fsX8_9 dX8_acceptToken_36 ?_
      refine r_aload_n (j := 0) rfl rfl dX8_acceptToken_39 ?_
      refine w_getI fX8_71 rfl dX8_acceptToken_40 ?_
      refine r_tld (t := tb1) oT_1 (up_in ki (show _ < 15 from h15)) dX8_acceptToken_43 ?_
      rw [kc]
      refine r_isub dX8_acceptToken_44 ?_
      refine r_iconst (v := 1) rfl dX8_acceptToken_45 ?_
      refine r_isub dX8_acceptToken_46 ?_
      refine r_istore_n (lv' := fun z => [(1, .int z), (0, .ref 33)]) dX8_acceptToken_47 rfl (Nat.le_of_ble_eq_true rfl) (fun _ => rfl) (fun x1_47 ex1_47 => ?_)
      have hgt : wdN k < s := by rw [i_lt, wi, si] at c24; omega
      have e1 : nI s - tb1.getD k 0 - 1 = nI (s - wdN k - 1) := by
        rw [tb_wd h15, pk_sub (by omega)]
        exact pk_sub (b := 1) (by omega)
      rw [hs, e1] at ex1_47
      have xi : x1_47.toInt = ((s - wdN k - 1 : Nat) : Int) := by rw [ex1_47, nI_toInt (by omega)]
      have n0 : ¬ s = 0 := by omega
      refine r_iload_n (j := 0) rfl rfl dX8_acceptToken_48 ?_
      refine r_gets (v := .ref 1002) (by decide +kernel) fsX8_121 dX8_acceptToken_49 ?_
      refine r_aload_n (j := 1) rfl rfl dX8_acceptToken_52 ?_
      refine w_getI fX8_71 rfl dX8_acceptToken_53 ?_
      refine r_tld (t := tb2) oT_2 (up_in ki (show _ < 15 from h15)) dX8_acceptToken_56 ?_
      rw [kc]
      refine r_icmp_ge (tgt := 66) dX8_acceptToken_57 (by decide) (fun c57 => ?_) (fun c57 => ?_)
      · refine r_aload_n (j := 1) rfl rfl dX8_acceptToken_66 ?_
        refine w_getI fX8_80 rfl dX8_acceptToken_67 ?_
        refine r_iconst (v := 3) rfl dX8_acceptToken_70 ?_
        refine r_icmp_eq (tgt := 76) dX8_acceptToken_71 (by decide) (fun c71 => ?_) (fun c71 => ?_)
        · refine r_aload_n (j := 1) rfl rfl dX8_acceptToken_76 ?_
          refine w_cV0v (k_X8_applyClause hk h15 hB (by rw [i_le, ni, xi] at c57; have hn := hr n0; refine ⟨hn.1, hn.2.1, hn.2.2, fun z => hf (by rcases z with rfl | rfl <;> simp only [wdN, nmN] at * <;> omega) z, fun z => hg (by subst z; have e1 : wdN 3 = 2 := rfl; have e2 : nmN 3 = 1 := rfl; omega) z⟩)) (Nat.le_of_ble_eq_true rfl) lX8_127 vmX8_applyClause rfl (Nat.le_of_ble_eq_true rfl) (Nat.le_of_ble_eq_true rfl) (Nat.le_of_ble_eq_true rfl) dX8_acceptToken_77 (fun J77 K77 hJ77 hK77 => ?_)
          subst hK77
          refine r_aload_n (j := 1) rfl rfl dX8_acceptToken_80 ?_
          refine r_iconst (v := 0) rfl dX8_acceptToken_81 ?_
          refine w_putI fX8_68 rfl (rfl) (rfl) dX8_acceptToken_82 (fun J82 hJ82 => ?_)
          refine r_iconst (v := 0) rfl dX8_acceptToken_85 ?_
          refine w_iret rfl (rfl) (Nat.le_of_ble_eq_true rfl) (Nat.le_of_ble_eq_true rfl) dX8_acceptToken_86 ?_
          rw [acP_e hgt (by rw [i_le, ni, xi] at c57; omega) c71]; exact ⟨rfl, by rw [hJ82, hJ77], rfl, rfl⟩
        · refine r_iconst (v := 1) rfl dX8_acceptToken_74 ?_
          refine w_iret rfl (rfl) (Nat.le_of_ble_eq_true rfl) (Nat.le_of_ble_eq_true rfl) dX8_acceptToken_75 ?_
          rw [acP_s hgt (by rw [i_le, ni, xi] at c57; omega) c71]; exact ⟨rfl, rfl, rfl, rfl⟩
      · refine r_aload_n (j := 1) rfl rfl dX8_acceptToken_60 ?_
        refine r_iload_n (j := 0) rfl rfl dX8_acceptToken_61 ?_
        refine w_cV1s (k_X8_acceptNumber hk h15 ex1_47 (by rw [i_le, ni, xi] at c57; omega)) (Nat.le_of_ble_eq_true rfl) lX8_124 vmX8_acceptNumber rfl (Nat.le_of_ble_eq_true rfl) (Nat.le_of_ble_eq_true rfl) (Nat.le_of_ble_eq_true rfl) dX8_acceptToken_62 (fun J62 K62 hJ62 hK62 => ?_)
        subst hK62
        refine w_iret rfl (rfl) (Nat.le_of_ble_eq_true rfl) (Nat.le_of_ble_eq_true rfl) dX8_acceptToken_65 ?_
        rw [acP_m hgt (by rw [i_le, ni, xi] at c57; omega)]; exact ⟨rfl, hJ62, rfl, rfl⟩
    · have hle : s ≤ wdN k := by rw [i_lt, wi, si] at c24; omega
      have n0 : ¬ s = 0 := by intro z; apply c4; rw [hs, z]; rfl
      refine r_aload_n (j := 0) rfl rfl dX8_acceptToken_27 ?_
      refine w_cV0s (k_X8_acceptName hB (by intro _ z2 z3; have h2 : s = 2 := (by have : ¬ s = 1 := (fun z => z3 (by rw [hs, z]; rfl)); omega); have h3 : k = 3 := (by unfold wdN at hle; split at hle; assumption; split at hle <;> omega); exact hf (by omega) (Or.inr h3))) (Nat.le_of_ble_eq_true rfl) lX8_118 vmX8_acceptName rfl (Nat.le_of_ble_eq_true rfl) (Nat.le_of_ble_eq_true rfl) (Nat.le_of_ble_eq_true rfl) dX8_acceptToken_28 (fun J28 K28 hJ28 hK28 => ?_)
      subst hK28
      refine w_iret rfl (rfl) (Nat.le_of_ble_eq_true rfl) (Nat.le_of_ble_eq_true rfl) dX8_acceptToken_31 ?_
      rw [acP_n n0 hle]; exact ⟨rfl, hJ28, rfl, rfl⟩
  · refine r_aload_n (j := 0) rfl rfl dX8_acceptToken_7 ?_
    refine w_cV0s (k_X8_acceptKeyword) (Nat.le_of_ble_eq_true rfl) lX8_115 vmX8_acceptKeyword rfl (Nat.le_of_ble_eq_true rfl) (Nat.le_of_ble_eq_true rfl) (Nat.le_of_ble_eq_true rfl) dX8_acceptToken_8 (fun J8 K8 hJ8 hK8 => ?_)
    subst hK8
    refine w_iret rfl (rfl) (Nat.le_of_ble_eq_true rfl) (Nat.le_of_ble_eq_true rfl) dX8_acceptToken_11 ?_
    rw [acP_k (by have : (I 33 11).toInt = 0 := (by rw [c4]; rfl); omega)]; exact ⟨rfl, hJ8, rfl, rfl⟩
end
