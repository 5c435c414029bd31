/-! MOST in so many days -/
/-- the first n as f, the others as g -/
def prf (f : Nat → Int32) (n : Nat) (g : Nat → Int32) : Nat → Int32 := fun j => if j < n then f j else g j
theorem prf_s (f : Nat → Int32) (n : Nat) (g : Nat → Int32) : va_up (prf f n g) n (f n) = prf f (n + 1) g := by
  funext j
  simp only [vu_eq, prf]
  by_cases h : j = n
  · subst h; simp
  · rw [if_neg h]
    by_cases h2 : j < n
    · rw [if_pos h2, if_pos (by omega)]
    · rw [if_neg h2, if_neg (by omega)]
theorem prf_0 (f g : Nat → Int32) : prf f 0 g = g := by funext j; simp [prf]
theorem prf_at (f : Nat → Int32) (n : Nat) (g : Nat → Int32) : prf f n g n = g n := by simp [prf]
def W3 (I : Is) (a b c : Nat → Int32) : Is := upr (upr (upr I 65 a) 66 b) 67 c
theorem W3_65 (I : Is) (a b c : Nat → Int32) (k : Nat) (v : Int32) : up (W3 I a b c) 65 k v = W3 I (va_up a k v) b c := by
  funext q
  simp only [W3, up_eq, upr_eq]
  by_cases h : q = 67
  · subst h; simp
  · by_cases h2 : q = 66
    · subst h2; simp
    · by_cases h3 : q = 65
      · subst h3; simp
      · simp [h, h2, h3]
theorem W3_66 (I : Is) (a b c : Nat → Int32) (k : Nat) (v : Int32) : up (W3 I a b c) 66 k v = W3 I a (va_up b k v) c := by
  funext q
  simp only [W3, up_eq, upr_eq]
  by_cases h : q = 67
  · subst h; simp
  · by_cases h2 : q = 66
    · subst h2; simp
    · by_cases h3 : q = 65
      · subst h3; simp
      · simp [h, h2, h3]
theorem W3_67 (I : Is) (a b c : Nat → Int32) (k : Nat) (v : Int32) : up (W3 I a b c) 67 k v = W3 I a b (va_up c k v) := by
  funext q
  simp only [W3, up_eq, upr_eq]
  by_cases h : q = 67
  · subst h; simp
  · by_cases h2 : q = 66
    · subst h2; simp
    · by_cases h3 : q = 65
      · subst h3; simp
      · simp [h, h2, h3]
theorem W3_n (I : Is) (a b c : Nat → Int32) {q : Nat} (h5 : q ≠ 65) (h6 : q ≠ 66) (h7 : q ≠ 67) : W3 I a b c q = I q := by simp [W3, upr_eq, h5, h6, h7]
theorem W3_5 (I : Is) (a b c : Nat → Int32) : W3 I a b c 65 = a := by simp [W3, upr_eq]
theorem W3_6 (I : Is) (a b c : Nat → Int32) : W3 I a b c 66 = b := by simp [W3, upr_eq]
theorem W3_7 (I : Is) (a b c : Nat → Int32) : W3 I a b c 67 = c := by simp [W3, upr_eq]
theorem W3_z (I : Is) : z5 (z5 (z5 I 65) 66) 67 = W3 I (fillr (I 65) 5 0) (fillr (I 66) 5 0) (fillr (I 67) 5 0) := by
  funext q
  simp only [W3, z5, upr_eq]
  by_cases h : q = 67
  · subst h; simp
  · by_cases h2 : q = 66
    · subst h2; simp
    · by_cases h3 : q = 65
      · subst h3; simp
      · simp [h, h2, h3]
/-- a set out of what holds of each -/
def wor (p : Nat → Bool) : Nat → Int32
  | 0 => 0
  | g + 1 => if p g then wor p g ||| ((1 : Int32) <<< (nI g &&& 31)) else wor p g
def mF (I : Is) (d : Int32) (h : Nat) : Int32 := iMin (I 42 h) (I 9 h * I 4 6 * d)
def mR (I : Is) (h g : Nat) : Bool := decide (iAbs (I 13 g - I 7 h) + I 8 h ≤ I 4 7)
def mW (I : Is) (h : Nat) : Int32 := wor (mR I h) (nN (I 3 15))
def mT (I : Is) (d : Int32) (g : Nat) : Int32 := iMin (I 14 g * d) (I 15 g - I 43 g)
/-- Flow's rows as mostIn leaves them -/
def mJ (I : Is) (d : Int32) : Is := W3 I (prf (mF I d) (nN (I 3 14)) (fillr (I 65) 5 0)) (prf (mT I d) (nN (I 3 15)) (fillr (I 66) 5 0)) (prf (mW I) (nN (I 3 14)) (fillr (I 67) 5 0))
section Most
variable {sc : Sc} {I : Is} {L : Ls} {tg NH NG : Nat} {d : Int32}
theorem l_X3_most3 (hG : (I 3 15).toInt = NG) (h4 : NG ≤ 4) {a c : Nat → Int32} : ∀ n i : Nat, i + n = NG → ∀ (J : Is) (x : Int32), J = W3 I a (prf (mT I d) i (fillr (I 66) 5 0)) c → x.toInt = i → RR sc mX3_mostIn 2 0 0 (rI (grt (W3 I a (prf (mT I d) NG (fillr (I 66) 5 0)) c)) (XW (W3 I a (prf (mT I d) NG (fillr (I 66) 5 0)) c) L tg)) 0 0 105 [(4, .int x), (0, .ref 36), (1, .ref 3), (2, .ref 64), (3, .int d)] [] (XW J L tg) := by
  intro n
  induction n with
  | zero =>
    intro i hi J x eJ hx
    have hGJ : (J 3 15).toInt = NG := by rw [eJ, W3_n _ _ _ _ (by decide) (by decide) (by decide)]; exact hG
    refine r_iload (j := 0) rfl dX3_mostIn_105 ?_
    refine r_aload_n (j := 2) rfl rfl dX3_mostIn_107 ?_
    refine w_getI fX3_120 rfl dX3_mostIn_108 ?_
    refine r_icmp_ge (tgt := 146) dX3_mostIn_111 (by decide) (fun c111 => ?_) (fun c111 => ?_)
    · refine r_aload_n (j := 3) rfl rfl dX3_mostIn_146 ?_
      refine w_cV0p (k_X4_greatest) (Nat.le_of_ble_eq_true rfl) lX3_132 vmX4_greatest rfl (Nat.le_of_ble_eq_true rfl) (Nat.le_of_ble_eq_true rfl) (Nat.le_of_ble_eq_true rfl) dX3_mostIn_147 ?_
      refine w_iret rfl (rfl) (Nat.le_of_ble_eq_true rfl) (Nat.le_of_ble_eq_true rfl) dX3_mostIn_150 ?_
      subst eJ; rw [show i = NG by omega]; exact ⟨rfl, rfl, rfl, rfl⟩
    · exfalso; ((try simp only [bI_0, bI_1, lc_lt, lc_gt, lc_le, lc_ge, Classical.not_not] at *); (try simp only [i_lt, i_le, i_eq, l_lt, l_le, l_eq, Int32.toInt_toInt64, Int32.reduceToInt, Int64.reduceToInt] at *); omega)
  | succ n ih =>
    intro i hi J x eJ hx
    have cx := cl_of hx
    have hGJ : (J 3 15).toInt = NG := by rw [eJ, W3_n _ _ _ _ (by decide) (by decide) (by decide)]; exact hG
    refine r_iload (j := 0) rfl dX3_mostIn_105 ?_
    refine r_aload_n (j := 2) rfl rfl dX3_mostIn_107 ?_
    refine w_getI fX3_120 rfl dX3_mostIn_108 ?_
    refine r_icmp_ge (tgt := 146) dX3_mostIn_111 (by decide) (fun c111 => ?_) (fun c111 => ?_)
    · exfalso; ((try simp only [bI_0, bI_1, lc_lt, lc_gt, lc_le, lc_ge, Classical.not_not] at *); (try simp only [i_lt, i_le, i_eq, l_lt, l_le, l_eq, Int32.toInt_toInt64, Int32.reduceToInt, Int64.reduceToInt] at *); omega)
    · refine r_aload_n (j := 3) rfl rfl dX3_mostIn_114 ?_
      refine w_getR (b := 66) fX3_126 rfl rfl dX3_mostIn_115 ?_
      refine r_iload (j := 0) rfl dX3_mostIn_118 ?_
      refine r_aload_n (j := 2) rfl rfl dX3_mostIn_120 ?_
      refine w_getR (b := 14) fX3_129 rfl rfl dX3_mostIn_121 ?_
      refine r_iload (j := 0) rfl dX3_mostIn_124 ?_
      refine w_iald rfl (up_in hx (by omega)) dX3_mostIn_126 ?_
      refine r_iload_n (j := 4) rfl rfl dX3_mostIn_127 ?_
      refine r_imul dX3_mostIn_128 ?_
      refine r_aload_n (j := 1) rfl rfl dX3_mostIn_129 ?_
      refine r_aload_n (j := 2) rfl rfl dX3_mostIn_130 ?_
      refine r_iload (j := 0) rfl dX3_mostIn_131 ?_
      refine w_cV2p (k_X3_roomLeft hx (by omega)) (Nat.le_of_ble_eq_true rfl) lX3_100 vmX3_roomLeft rfl (Nat.le_of_ble_eq_true rfl) (Nat.le_of_ble_eq_true rfl) (Nat.le_of_ble_eq_true rfl) dX3_mostIn_133 ?_
      refine r_mmin lmX3_84 (Nat.le_of_ble_eq_true rfl) (Nat.le_of_ble_eq_true rfl) (Nat.le_of_ble_eq_true rfl) (Nat.le_of_ble_eq_true rfl) dX3_mostIn_136 ?_
      refine w_iast rfl (up_in hx (by omega)) dX3_mostIn_139 (fun J139 hJ139 => ?_)
      refine r_iinc (j := 0) (lv' := fun z => [(4, .int z), (0, .ref 36), (1, .ref 3), (2, .ref 64), (3, .int d)]) dX3_mostIn_140 rfl (Nat.le_of_ble_eq_true rfl) (fun _ => rfl) (fun x4_140 ex4_140 => ?_)
      refine r_goto (tgt := 105) dX3_mostIn_143 (by decide) ?_
      refine ih (i + 1) (by omega) _ _ ?_ (by rw [ex4_140]; exact i_inc hx (by omega))
      rw [hJ139, cx, eJ, W3_66, W3_n _ _ _ _ (by decide) (by decide) (by decide), W3_n _ _ _ _ (by decide) (by decide) (by decide), W3_n _ _ _ _ (by decide) (by decide) (by decide)]
      rw [← prf_s]
      rfl
theorem l_X3_most2 {hn : Nat} (h5 : hn < 5) (hG : (I 3 15).toInt = NG) (h4 : NG ≤ 4) {h w : Int32} (eh : h.toInt = hn) {a b c : Nat → Int32}
    (K : ∀ J, J = W3 I a b (va_up c hn (wor (mR I hn) NG)) → ∀ x6 : Int32, RR sc mX3_mostIn 2 0 0 (rI (grt (mJ I d)) (XW (mJ I d) L tg)) 0 0 96 [(6, .int x6), (5, .int w), (4, .int h), (0, .ref 36), (1, .ref 3), (2, .ref 64), (3, .int d)] [] (XW J L tg)) : ∀ n i : Nat, i + n = NG → ∀ (J : Is) (x : Int32), J = W3 I a b (va_up c hn (wor (mR I hn) i)) → x.toInt = i → RR sc mX3_mostIn 2 0 0 (rI (grt (mJ I d)) (XW (mJ I d) L tg)) 0 0 56 [(6, .int x), (5, .int w), (4, .int h), (0, .ref 36), (1, .ref 3), (2, .ref 64), (3, .int d)] [] (XW J L tg) := by
  have ch := cl_of eh
  intro n
  induction n with
  | zero =>
    intro i hi J x eJ hx
    have hGJ : (J 3 15).toInt = NG := by rw [eJ, W3_n _ _ _ _ (by decide) (by decide) (by decide)]; exact hG
    refine r_iload (j := 0) rfl dX3_mostIn_56 ?_
    refine r_aload_n (j := 4) rfl rfl dX3_mostIn_58 ?_
    refine w_getI fX3_120 rfl dX3_mostIn_59 ?_
    refine r_icmp_ge (tgt := 96) dX3_mostIn_62 (by decide) (fun c62 => ?_) (fun c62 => ?_)
    · exact K _ (by rw [eJ, show i = NG by omega]) _
    · exfalso; ((try simp only [bI_0, bI_1, lc_lt, lc_gt, lc_le, lc_ge, Classical.not_not] at *); (try simp only [i_lt, i_le, i_eq, l_lt, l_le, l_eq, Int32.toInt_toInt64, Int32.reduceToInt, Int64.reduceToInt] at *); omega)
  | succ n ih =>
    intro i hi J x eJ hx
    have cx := cl_of hx
    have hGJ : (J 3 15).toInt = NG := by rw [eJ, W3_n _ _ _ _ (by decide) (by decide) (by decide)]; exact hG
    have hrc : (iAbs (J 13 i - J 7 hn) + J 8 hn ≤ J 4 7) = (mR I hn i = true) := by
      rw [eJ, W3_n _ _ _ _ (by decide) (by decide) (by decide), W3_n _ _ _ _ (by decide) (by decide) (by decide), W3_n _ _ _ _ (by decide) (by decide) (by decide), W3_n _ _ _ _ (by decide) (by decide) (by decide)]
      simp [mR]
    refine r_iload (j := 0) rfl dX3_mostIn_56 ?_
    refine r_aload_n (j := 4) rfl rfl dX3_mostIn_58 ?_
    refine w_getI fX3_120 rfl dX3_mostIn_59 ?_
    refine r_icmp_ge (tgt := 96) dX3_mostIn_62 (by decide) (fun c62 => ?_) (fun c62 => ?_)
    · exfalso; ((try simp only [bI_0, bI_1, lc_lt, lc_gt, lc_le, lc_ge, Classical.not_not] at *); (try simp only [i_lt, i_le, i_eq, l_lt, l_le, l_eq, Int32.toInt_toInt64, Int32.reduceToInt, Int64.reduceToInt] at *); omega)
    · refine r_aload_n (j := 4) rfl rfl dX3_mostIn_65 ?_
      refine r_iload (j := 2) rfl dX3_mostIn_66 ?_
      refine r_iload (j := 0) rfl dX3_mostIn_68 ?_
      refine w_cV2p (k_X0_isInReach eh hx h5 (by omega)) (Nat.le_of_ble_eq_true rfl) lX3_96 vmX0_isInReach rfl (Nat.le_of_ble_eq_true rfl) (Nat.le_of_ble_eq_true rfl) (Nat.le_of_ble_eq_true rfl) dX3_mostIn_70 ?_
      refine r_if_eq (tgt := 90) dX3_mostIn_73 (by decide) (fun c73 => ?_) (fun c73 => ?_)
      · refine r_iinc (j := 0) (lv' := fun z => [(6, .int z), (5, .int w), (4, .int h), (0, .ref 36), (1, .ref 3), (2, .ref 64), (3, .int d)]) dX3_mostIn_90 rfl (Nat.le_of_ble_eq_true rfl) (fun _ => rfl) (fun x6_90 ex6_90 => ?_)
        refine r_goto (tgt := 56) dX3_mostIn_93 (by decide) ?_
        rw [bI_0, hrc] at c73
        refine ih (i + 1) (by omega) _ _ ?_ (by rw [ex6_90]; exact i_inc hx (by omega))
        rw [eJ, wor, if_neg c73]
      · refine r_aload_n (j := 5) rfl rfl dX3_mostIn_76 ?_
        refine w_getR (b := 67) fX3_123 rfl rfl dX3_mostIn_77 ?_
        refine r_iload (j := 2) rfl dX3_mostIn_80 ?_
        refine r_dup2 rfl rfl dX3_mostIn_82 ?_
        refine w_iald rfl (up_in eh h5) dX3_mostIn_83 ?_
        refine r_iconst (v := 1) rfl dX3_mostIn_84 ?_
        refine r_iload (j := 0) rfl dX3_mostIn_85 ?_
        refine r_ishl dX3_mostIn_87 ?_
        refine r_ior dX3_mostIn_88 ?_
        refine w_iast rfl (up_in eh h5) dX3_mostIn_89 (fun J89 hJ89 => ?_)
        refine r_iinc (j := 0) (lv' := fun z => [(6, .int z), (5, .int w), (4, .int h), (0, .ref 36), (1, .ref 3), (2, .ref 64), (3, .int d)]) dX3_mostIn_90 rfl (Nat.le_of_ble_eq_true rfl) (fun _ => rfl) (fun x6_90 ex6_90 => ?_)
        refine r_goto (tgt := 56) dX3_mostIn_93 (by decide) ?_
        rw [bI_1, hrc] at c73
        refine ih (i + 1) (by omega) _ _ ?_ (by rw [ex6_90]; exact i_inc hx (by omega))
        rw [hJ89, ch, eJ, W3_67, W3_7, x_nI hx, wor, if_pos c73, vu_s, bx_uu]
theorem l_X3_most1 (hH : (I 3 14).toInt = NH) (h5 : NH ≤ 5) (hG : (I 3 15).toInt = NG) (h4 : NG ≤ 4) : ∀ n i : Nat, i + n = NH → ∀ (J : Is) (x : Int32), J = W3 I (prf (mF I d) i (fillr (I 65) 5 0)) (fillr (I 66) 5 0) (prf (mW I) i (fillr (I 67) 5 0)) → x.toInt = i → RR sc mX3_mostIn 2 0 0 (rI (grt (mJ I d)) (XW (mJ I d) L tg)) 0 0 7 [(4, .int x), (0, .ref 36), (1, .ref 3), (2, .ref 64), (3, .int d)] [] (XW J L tg) := by
  have eG : nN (I 3 15) = NG := cl_of hG
  have eH : nN (I 3 14) = NH := cl_of hH
  intro n
  induction n with
  | zero =>
    intro i hi J x eJ hx
    have hHJ : (J 3 14).toInt = NH := by rw [eJ, W3_n _ _ _ _ (by decide) (by decide) (by decide)]; exact hH
    refine r_iload (j := 0) rfl dX3_mostIn_7 ?_
    refine r_aload_n (j := 2) rfl rfl dX3_mostIn_9 ?_
    refine w_getI fX3_111 rfl dX3_mostIn_10 ?_
    refine r_icmp_ge (tgt := 102) dX3_mostIn_13 (by decide) (fun c13 => ?_) (fun c13 => ?_)
    · refine r_iconst (v := 0) rfl dX3_mostIn_102 ?_
      refine r_istore (lv' := fun z => [(4, .int z), (0, .ref 36), (1, .ref 3), (2, .ref 64), (3, .int d)]) dX3_mostIn_103 (Nat.le_of_ble_eq_true rfl) (fun _ => rfl) (fun x4_103 ex4_103 => ?_)
      have := l_X3_most3 (sc := sc) (L := L) (tg := tg) (d := d) hG h4 (a := prf (mF I d) NH (fillr (I 65) 5 0)) (c := prf (mW I) NH (fillr (I 67) 5 0)) NG 0 (Nat.zero_add _) J x4_103 (by rw [eJ, show i = NH by omega, prf_0]) (by rw [ex4_103]; rfl)
      unfold mJ
      rw [eG, eH]
      exact this
    · exfalso; ((try simp only [bI_0, bI_1, lc_lt, lc_gt, lc_le, lc_ge, Classical.not_not] at *); (try simp only [i_lt, i_le, i_eq, l_lt, l_le, l_eq, Int32.toInt_toInt64, Int32.reduceToInt, Int64.reduceToInt] at *); omega)
  | succ n ih =>
    intro i hi J x eJ hx
    have cx := cl_of hx
    have hHJ : (J 3 14).toInt = NH := by rw [eJ, W3_n _ _ _ _ (by decide) (by decide) (by decide)]; exact hH
    refine r_iload (j := 0) rfl dX3_mostIn_7 ?_
    refine r_aload_n (j := 2) rfl rfl dX3_mostIn_9 ?_
    refine w_getI fX3_111 rfl dX3_mostIn_10 ?_
    refine r_icmp_ge (tgt := 102) dX3_mostIn_13 (by decide) (fun c13 => ?_) (fun c13 => ?_)
    · exfalso; ((try simp only [bI_0, bI_1, lc_lt, lc_gt, lc_le, lc_ge, Classical.not_not] at *); (try simp only [i_lt, i_le, i_eq, l_lt, l_le, l_eq, Int32.toInt_toInt64, Int32.reduceToInt, Int64.reduceToInt] at *); omega)
    · refine r_aload_n (j := 2) rfl rfl dX3_mostIn_16 ?_
      refine w_getR (b := 9) fX3_114 rfl rfl dX3_mostIn_17 ?_
      refine r_iload (j := 0) rfl dX3_mostIn_20 ?_
      refine w_iald rfl (up_in hx (by omega)) dX3_mostIn_22 ?_
      refine r_aload_n (j := 2) rfl rfl dX3_mostIn_23 ?_
      refine r_bipush (v := 6) rfl dX3_mostIn_24 ?_
      refine w_cV1p (k_X0_setting (by decide) (by decide)) (Nat.le_of_ble_eq_true rfl) lX3_73 vmX0_setting rfl (Nat.le_of_ble_eq_true rfl) (Nat.le_of_ble_eq_true rfl) (Nat.le_of_ble_eq_true rfl) dX3_mostIn_26 ?_
      refine r_imul dX3_mostIn_29 ?_
      refine r_iload_n (j := 4) rfl rfl dX3_mostIn_30 ?_
      refine r_imul dX3_mostIn_31 ?_
      refine r_istore (lv' := fun z => [(5, .int z), (4, .int x), (0, .ref 36), (1, .ref 3), (2, .ref 64), (3, .int d)]) dX3_mostIn_32 (Nat.le_of_ble_eq_true rfl) (fun _ => rfl) (fun x5_32 ex5_32 => ?_)
      refine r_aload_n (j := 4) rfl rfl dX3_mostIn_34 ?_
      refine w_getR (b := 65) fX3_117 rfl rfl dX3_mostIn_35 ?_
      refine r_iload (j := 1) rfl dX3_mostIn_38 ?_
      refine r_aload_n (j := 2) rfl rfl dX3_mostIn_40 ?_
      refine w_getR (b := 42) fX3_27 rfl rfl dX3_mostIn_41 ?_
      refine r_iload (j := 1) rfl dX3_mostIn_44 ?_
      refine w_iald rfl (up_in hx (by omega)) dX3_mostIn_46 ?_
      refine r_iload (j := 0) rfl dX3_mostIn_47 ?_
      refine r_mmin lmX3_84 (Nat.le_of_ble_eq_true rfl) (Nat.le_of_ble_eq_true rfl) (Nat.le_of_ble_eq_true rfl) (Nat.le_of_ble_eq_true rfl) dX3_mostIn_49 ?_
      refine w_iast rfl (up_in hx (by omega)) dX3_mostIn_52 (fun J52 hJ52 => ?_)
      refine r_iconst (v := 0) rfl dX3_mostIn_53 ?_
      refine r_istore (lv' := fun z => [(6, .int z), (5, .int x5_32), (4, .int x), (0, .ref 36), (1, .ref 3), (2, .ref 64), (3, .int d)]) dX3_mostIn_54 (Nat.le_of_ble_eq_true rfl) (fun _ => rfl) (fun x6_54 ex6_54 => ?_)
      refine l_X3_most2 (I := I) (hn := i) (by omega) hG h4 hx (a := prf (mF I d) (i + 1) (fillr (I 65) 5 0)) (b := fillr (I 66) 5 0) (c := prf (mW I) i (fillr (I 67) 5 0)) ?_ NG 0 (Nat.zero_add _) _ _ ?_ (by rw [ex6_54]; rfl)
      · intro J2 eJ2 x6
        refine r_lvs [(4, .int x), (0, .ref 36), (1, .ref 3), (2, .ref 64), (3, .int d)] [2, 3, 4, 5, 6] rfl ?_
        refine r_iinc (j := 0) (lv' := fun z => [(4, .int z), (0, .ref 36), (1, .ref 3), (2, .ref 64), (3, .int d)]) dX3_mostIn_96 rfl (Nat.le_of_ble_eq_true rfl) (fun _ => rfl) (fun x4_96 ex4_96 => ?_)
        refine r_goto (tgt := 7) dX3_mostIn_99 (by decide) ?_
        refine ih (i + 1) (by omega) _ _ ?_ (by rw [ex4_96]; exact i_inc hx (by omega))
        have : mW I i = wor (mR I i) NG := by unfold mW; rw [eG]
        rw [eJ2, ← prf_s (mW I), this]
      · rw [hJ52, cx, ex5_32, eJ, W3_65, W3_n _ _ _ _ (by decide) (by decide) (by decide), W3_n _ _ _ _ (by decide) (by decide) (by decide), W3_n _ _ _ _ (by decide) (by decide) (by decide), ← prf_s (mF I d), cx]
        have : va_up (prf (mW I) i (fillr (I 67) 5 0)) i (wor (mR I i) 0) = prf (mW I) i (fillr (I 67) 5 0) := by
          funext j
          by_cases hj : j = i
          · subst hj
            rw [vu_s, prf_at]
            simp [wor, fillr]
            omega
          · rw [vu_n _ _ hj]
        rw [this]
        rfl
theorem k_X3_mostIn (h0 : 0 ≤ (I 3 14).toInt) (h5 : (I 3 14).toInt ≤ 5) (g0 : 0 ≤ (I 3 15).toInt) (g4 : (I 3 15).toInt ≤ 4) : Con sc mX3_mostIn 2 0 0 [.ref 36, .ref 3, .ref 64, .int d] (XW I L tg) (rI (grt (mJ I d)) (XW (mJ I d) L tg)) := by
  refine Con_of (by decide) (Nat.le_of_ble_eq_true rfl) ?_
  have hH := nN_of h0
  have hG := nN_of g0
  refine r_aload_n (j := 2) rfl rfl dX3_mostIn_0 ?_
  refine w_cV0v (k_X4_clear) (Nat.le_of_ble_eq_true rfl) lX3_106 vmX4_clear rfl (Nat.le_of_ble_eq_true rfl) (Nat.le_of_ble_eq_true rfl) (Nat.le_of_ble_eq_true rfl) dX3_mostIn_1 (fun J1 K1 hJ1 hK1 => ?_)
  subst hK1
  refine r_iconst (v := 0) rfl dX3_mostIn_4 ?_
  refine r_istore (lv' := fun z => [(4, .int z), (0, .ref 36), (1, .ref 3), (2, .ref 64), (3, .int d)]) dX3_mostIn_5 (Nat.le_of_ble_eq_true rfl) (fun _ => rfl) (fun x4_5 ex4_5 => ?_)
  exact l_X3_most1 hH (by omega) hG (by omega) _ 0 (Nat.zero_add _) _ _ (by rw [hJ1, W3_z, prf_0, prf_0]) (by rw [ex4_5]; rfl)
end Most
