/-! the component's reader: TOKENS -/
section
variable {sc : Sc} {I : Is} {L : Ls} {tg : Nat}
theorem k_X8_isLetter {c : Int32} : Con sc mX8_isLetter 0 0 0 [.int c] (XW I L tg) (rI (bI (97 ≤ c.toInt ∧ c.toInt ≤ 122)) (XW I L tg)) := by
  refine Con_of (by decide) (Nat.le_of_ble_eq_true rfl) ?_
  refine r_iload_n (j := 0) rfl rfl dX8_isLetter_0 ?_
  refine r_bipush (v := 97) rfl dX8_isLetter_1 ?_
  refine r_icmp_lt (tgt := 16) dX8_isLetter_3 (by decide) (fun c3 => ?_) (fun c3 => ?_)
  · refine r_iconst (v := 0) rfl dX8_isLetter_16 ?_
    refine w_iret rfl (rfl) (Nat.le_of_ble_eq_true rfl) (Nat.le_of_ble_eq_true rfl) dX8_isLetter_17 ?_
    exact ⟨by first | exact (bI_t (by ((try simp only [bI_0, bI_1, lc_lt, lc_gt, lc_le, lc_ge, Classical.not_not] at *); (try simp only [i_lt, i_le, i_eq, l_lt, l_le, l_eq, Int32.toInt_toInt64, Int32.reduceToInt, Int64.reduceToInt] at *); omega))).symm | exact (bI_f (by ((try simp only [bI_0, bI_1, lc_lt, lc_gt, lc_le, lc_ge, Classical.not_not] at *); (try simp only [i_lt, i_le, i_eq, l_lt, l_le, l_eq, Int32.toInt_toInt64, Int32.reduceToInt, Int64.reduceToInt] at *); omega))).symm, rfl, rfl, rfl⟩
  · refine r_iload_n (j := 0) rfl rfl dX8_isLetter_6 ?_
    refine r_bipush (v := 122) rfl dX8_isLetter_7 ?_
    refine r_icmp_gt (tgt := 16) dX8_isLetter_9 (by decide) (fun c9 => ?_) (fun c9 => ?_)
    · refine r_iconst (v := 0) rfl dX8_isLetter_16 ?_
      refine w_iret rfl (rfl) (Nat.le_of_ble_eq_true rfl) (Nat.le_of_ble_eq_true rfl) dX8_isLetter_17 ?_
      exact ⟨by first | exact (bI_t (by ((try simp only [bI_0, bI_1, lc_lt, lc_gt, lc_le, lc_ge, Classical.not_not] at *); (try simp only [i_lt, i_le, i_eq, l_lt, l_le, l_eq, Int32.toInt_toInt64, Int32.reduceToInt, Int64.reduceToInt] at *); omega))).symm | exact (bI_f (by ((try simp only [bI_0, bI_1, lc_lt, lc_gt, lc_le, lc_ge, Classical.not_not] at *); (try simp only [i_lt, i_le, i_eq, l_lt, l_le, l_eq, Int32.toInt_toInt64, Int32.reduceToInt, Int64.reduceToInt] at *); omega))).symm, rfl, rfl, rfl⟩
    · refine r_iconst (v := 1) rfl dX8_isLetter_12 ?_
      refine r_goto (tgt := 17) dX8_isLetter_13 (by decide) ?_
      refine w_iret rfl (rfl) (Nat.le_of_ble_eq_true rfl) (Nat.le_of_ble_eq_true rfl) dX8_isLetter_17 ?_
      exact ⟨by first | exact (bI_t (by ((try simp only [bI_0, bI_1, lc_lt, lc_gt, lc_le, lc_ge, Classical.not_not] at *); (try simp only [i_lt, i_le, i_eq, l_lt, l_le, l_eq, Int32.toInt_toInt64, Int32.reduceToInt, Int64.reduceToInt] at *); omega))).symm | exact (bI_f (by ((try simp only [bI_0, bI_1, lc_lt, lc_gt, lc_le, lc_ge, Classical.not_not] at *); (try simp only [i_lt, i_le, i_eq, l_lt, l_le, l_eq, Int32.toInt_toInt64, Int32.reduceToInt, Int64.reduceToInt] at *); omega))).symm, rfl, rfl, rfl⟩
theorem k_X8_isDigit {c : Int32} : Con sc mX8_isDigit 0 0 0 [.int c] (XW I L tg) (rI (bI (48 ≤ c.toInt ∧ c.toInt ≤ 57)) (XW I L tg)) := by
  refine Con_of (by decide) (Nat.le_of_ble_eq_true rfl) ?_
  refine r_iload_n (j := 0) rfl rfl dX8_isDigit_0 ?_
  refine r_bipush (v := 48) rfl dX8_isDigit_1 ?_
  refine r_icmp_lt (tgt := 16) dX8_isDigit_3 (by decide) (fun c3 => ?_) (fun c3 => ?_)
  · refine r_iconst (v := 0) rfl dX8_isDigit_16 ?_
    refine w_iret rfl (rfl) (Nat.le_of_ble_eq_true rfl) (Nat.le_of_ble_eq_true rfl) dX8_isDigit_17 ?_
    exact ⟨by first | exact (bI_t (by ((try simp only [bI_0, bI_1, lc_lt, lc_gt, lc_le, lc_ge, Classical.not_not] at *); (try simp only [i_lt, i_le, i_eq, l_lt, l_le, l_eq, Int32.toInt_toInt64, Int32.reduceToInt, Int64.reduceToInt] at *); omega))).symm | exact (bI_f (by ((try simp only [bI_0, bI_1, lc_lt, lc_gt, lc_le, lc_ge, Classical.not_not] at *); (try simp only [i_lt, i_le, i_eq, l_lt, l_le, l_eq, Int32.toInt_toInt64, Int32.reduceToInt, Int64.reduceToInt] at *); omega))).symm, rfl, rfl, rfl⟩
  · refine r_iload_n (j := 0) rfl rfl dX8_isDigit_6 ?_
    refine r_bipush (v := 57) rfl dX8_isDigit_7 ?_
    refine r_icmp_gt (tgt := 16) dX8_isDigit_9 (by decide) (fun c9 => ?_) (fun c9 => ?_)
    · refine r_iconst (v := 0) rfl dX8_isDigit_16 ?_
      refine w_iret rfl (rfl) (Nat.le_of_ble_eq_true rfl) (Nat.le_of_ble_eq_true rfl) dX8_isDigit_17 ?_
      exact ⟨by first | exact (bI_t (by ((try simp only [bI_0, bI_1, lc_lt, lc_gt, lc_le, lc_ge, Classical.not_not] at *); (try simp only [i_lt, i_le, i_eq, l_lt, l_le, l_eq, Int32.toInt_toInt64, Int32.reduceToInt, Int64.reduceToInt] at *); omega))).symm | exact (bI_f (by ((try simp only [bI_0, bI_1, lc_lt, lc_gt, lc_le, lc_ge, Classical.not_not] at *); (try simp only [i_lt, i_le, i_eq, l_lt, l_le, l_eq, Int32.toInt_toInt64, Int32.reduceToInt, Int64.reduceToInt] at *); omega))).symm, rfl, rfl, rfl⟩
    · refine r_iconst (v := 1) rfl dX8_isDigit_12 ?_
      refine r_goto (tgt := 17) dX8_isDigit_13 (by decide) ?_
      refine w_iret rfl (rfl) (Nat.le_of_ble_eq_true rfl) (Nat.le_of_ble_eq_true rfl) dX8_isDigit_17 ?_
      exact ⟨by first | exact (bI_t (by ((try simp only [bI_0, bI_1, lc_lt, lc_gt, lc_le, lc_ge, Classical.not_not] at *); (try simp only [i_lt, i_le, i_eq, l_lt, l_le, l_eq, Int32.toInt_toInt64, Int32.reduceToInt, Int64.reduceToInt] at *); omega))).symm | exact (bI_f (by ((try simp only [bI_0, bI_1, lc_lt, lc_gt, lc_le, lc_ge, Classical.not_not] at *); (try simp only [i_lt, i_le, i_eq, l_lt, l_le, l_eq, Int32.toInt_toInt64, Int32.reduceToInt, Int64.reduceToInt] at *); omega))).symm, rfl, rfl, rfl⟩
def wlS (w : Int64) (c : Int32) : Int64 := w * 32 + (c - 97 + 1).toInt64
theorem k_X8_withLetter {w : Int64} {c : Int32} : Con sc mX8_withLetter 0 0 0 [.long w, .int c] (XW I L tg) (rL (wlS w c) (XW I L tg)) := by
  refine Con_of (by decide) (Nat.le_of_ble_eq_true rfl) ?_
  refine r_lload_n (j := 0) rfl rfl dX8_withLetter_0 ?_
  refine r_ldc2 kX8_58 dX8_withLetter_1 ?_
  refine r_lmul dX8_withLetter_4 ?_
  refine r_iload_n (j := 1) rfl rfl dX8_withLetter_5 ?_
  refine r_bipush (v := 97) rfl dX8_withLetter_6 ?_
  refine r_isub dX8_withLetter_8 ?_
  refine r_iconst (v := 1) rfl dX8_withLetter_9 ?_
  refine r_iadd dX8_withLetter_10 ?_
  refine r_i2l dX8_withLetter_11 ?_
  refine r_ladd dX8_withLetter_12 ?_
  refine w_lret rfl (Nat.le_of_ble_eq_true rfl) (Nat.le_of_ble_eq_true rfl) dX8_withLetter_13 ?_
  exact ⟨rfl, rfl, rfl, rfl⟩
/-- blanks, letters, digits of a tape -/
abbrev isBl (c : Int32) : Prop := c = 32 ∨ c = 10
abbrev isL (c : Int32) : Prop := 97 ≤ c.toInt ∧ c.toInt ≤ 122
abbrev isDg (c : Int32) : Prop := 48 ≤ c.toInt ∧ c.toInt ≤ 57
def skB (t : Nat → Int32) : Nat → Nat → Nat
  | 0, p => p
  | n + 1, p => if isBl (t p) then skB t n (p + 1) else p
def wdE (t : Nat → Int32) : Nat → Nat → Int64 → Nat × Int64
  | 0, p, w => (p, w)
  | n + 1, p, w => if isL (t p) then wdE t n (p + 1) (wlS w (t p)) else (p, w)
def nmE (t : Nat → Int32) : Nat → Nat → Int32 → Nat × Int32
  | 0, p, v => (p, v)
  | n + 1, p, v => if isDg (t p) then nmE t n (p + 1) (v * 10 + (t p - 48)) else (p, v)
theorem skB_r (t : Nat → Int32) : ∀ n p, p ≤ skB t n p ∧ skB t n p ≤ p + n := by
  intro n
  induction n with
  | zero => intro p; exact ⟨Nat.le_refl _, Nat.le_refl _⟩
  | succ n ih => intro p; rw [skB]; split; have := ih (p + 1); omega; omega
theorem wdE_r (t : Nat → Int32) : ∀ n p w, p ≤ (wdE t n p w).1 ∧ (wdE t n p w).1 ≤ p + n := by
  intro n
  induction n with
  | zero => intro p w; exact ⟨Nat.le_refl _, Nat.le_refl _⟩
  | succ n ih => intro p w; rw [wdE]; split; have := ih (p + 1) (wlS w (t p)); omega; exact ⟨Nat.le_refl _, Nat.le_add_right _ _⟩
theorem nmE_r (t : Nat → Int32) : ∀ n p v, p ≤ (nmE t n p v).1 ∧ (nmE t n p v).1 ≤ p + n := by
  intro n
  induction n with
  | zero => intro p v; exact ⟨Nat.le_refl _, Nat.le_refl _⟩
  | succ n ih => intro p v; rw [nmE]; split; have := ih (p + 1) (v * 10 + (t p - 48)); omega; exact ⟨Nat.le_refl _, Nat.le_add_right _ _⟩
theorem at_in {N p : Nat} {x : Int32} (hN : I 1 1 = nI N) (h9 : N ≤ 900) (ex : x = nI p) (hp : p < N) : (if 0 ≤ x ∧ x < I 1 1 then I 2 x.toNatClampNeg else -1) = I 2 p := by
  rw [ex, hN, nI_clamp (by omega), if_pos ⟨by rw [i_le, nI_toInt (by omega)]; exact Int.natCast_nonneg _, (nI_ltI (by omega) (by omega)).mpr hp⟩]
theorem l_X8_skipBlanks {N : Nat} (hN : I 1 1 = nI N) (h9 : N ≤ 900) : ∀ n p, p + n = N → I 33 6 = nI p → RR sc mX8_skipBlanks 1 0 0 (rV (XW (up I 33 6 (nI (skB (I 2) n p))) L tg)) 0 0 0 [(0, .ref 33)] [] (XW I L tg) := by
  intro n
  induction n generalizing I with
  | zero =>
    intro p hp h6
    have hNi : (I 1 1).toInt = N := by rw [hN, nI_toInt (by omega)]
    have hpi : (I 33 6).toInt = p := by rw [h6, nI_toInt (by omega)]
    refine r_aload_n (j := 0) rfl rfl dX8_skipBlanks_0 ?_
    refine w_getI fX8_65 rfl dX8_skipBlanks_1 ?_
    refine r_aload_n (j := 0) rfl rfl dX8_skipBlanks_4 ?_
    refine w_getR (b := 1) fX8_26 rfl rfl dX8_skipBlanks_5 ?_
    refine w_getI fX8_106 rfl dX8_skipBlanks_8 ?_
    refine r_icmp_ge (tgt := 59) dX8_skipBlanks_11 (by decide) (fun c11 => ?_) (fun c11 => ?_)
    · refine w_vret rfl (Nat.le_of_ble_eq_true rfl) (Nat.le_of_ble_eq_true rfl) dX8_skipBlanks_59 ?_
      exact ⟨by rw [skB, ← h6, up_id], rfl, rfl⟩
    · exfalso; ((try simp only [bI_0, bI_1, lc_lt, lc_gt, lc_le, lc_ge, Classical.not_not] at *); (try simp only [i_lt, i_le, i_eq, l_lt, l_le, l_eq, Int32.toInt_toInt64, Int32.reduceToInt, Int64.reduceToInt] at *); omega)
  | succ n ih =>
    intro p hp h6
    have hNi : (I 1 1).toInt = N := by rw [hN, nI_toInt (by omega)]
    have hpi : (I 33 6).toInt = p := by rw [h6, nI_toInt (by omega)]
    have ea := at_in (I := I) hN h9 h6 (show p < N by omega)
    have yes : isBl (I 2 p) → RR sc mX8_skipBlanks 1 0 0 (rV (XW (up I 33 6 (nI (skB (I 2) (n + 1) p))) L tg)) 0 0 46 [(0, .ref 33)] [] (XW I L tg) := by
      intro hb
      rw [skB, if_pos hb]
      refine r_aload_n (j := 0) rfl rfl dX8_skipBlanks_46 ?_
      refine r_dup rfl dX8_skipBlanks_47 ?_
      refine w_getI fX8_65 rfl dX8_skipBlanks_48 ?_
      refine r_iconst (v := 1) rfl dX8_skipBlanks_51 ?_
      refine r_iadd dX8_skipBlanks_52 ?_
      refine w_putI fX8_65 rfl (rfl) (rfl) dX8_skipBlanks_53 (fun J53 hJ53 => ?_)
      refine r_goto (tgt := 0) dX8_skipBlanks_56 (by decide) ?_
      rw [h6, nI_1] at hJ53
      have q := ih (I := J53) (by rw [hJ53, up_n _ _ _ (by decide)]; exact hN) (p + 1) (by omega) (by rw [hJ53, up_s, vu_s])
      have e2 : J53 2 = I 2 := by rw [hJ53, up_n _ _ _ (by decide)]
      rw [e2, hJ53, up_up] at q
      rw [hJ53]
      exact q
    refine r_aload_n (j := 0) rfl rfl dX8_skipBlanks_0 ?_
    refine w_getI fX8_65 rfl dX8_skipBlanks_1 ?_
    refine r_aload_n (j := 0) rfl rfl dX8_skipBlanks_4 ?_
    refine w_getR (b := 1) fX8_26 rfl rfl dX8_skipBlanks_5 ?_
    refine w_getI fX8_106 rfl dX8_skipBlanks_8 ?_
    refine r_icmp_ge (tgt := 59) dX8_skipBlanks_11 (by decide) (fun c11 => ?_) (fun c11 => ?_)
    · exfalso; ((try simp only [bI_0, bI_1, lc_lt, lc_gt, lc_le, lc_ge, Classical.not_not] at *); (try simp only [i_lt, i_le, i_eq, l_lt, l_le, l_eq, Int32.toInt_toInt64, Int32.reduceToInt, Int64.reduceToInt] at *); omega)
    · refine r_aload_n (j := 0) rfl rfl dX8_skipBlanks_14 ?_
      refine w_getR (b := 1) fX8_26 rfl rfl dX8_skipBlanks_15 ?_
      refine r_aload_n (j := 0) rfl rfl dX8_skipBlanks_18 ?_
      refine w_getI fX8_65 rfl dX8_skipBlanks_19 ?_
      refine w_cV1p (k_X10_at (by omega)) (Nat.le_of_ble_eq_true rfl) lX8_92 vmX10_at rfl (Nat.le_of_ble_eq_true rfl) (Nat.le_of_ble_eq_true rfl) (Nat.le_of_ble_eq_true rfl) dX8_skipBlanks_22 ?_
      refine r_bipush (v := 32) rfl dX8_skipBlanks_25 ?_
      rw [ea]
      refine r_icmp_eq (tgt := 46) dX8_skipBlanks_27 (by decide) (fun c27 => ?_) (fun c27 => ?_)
      · exact yes (Or.inl c27)
      · refine r_aload_n (j := 0) rfl rfl dX8_skipBlanks_30 ?_
        refine w_getR (b := 1) fX8_26 rfl rfl dX8_skipBlanks_31 ?_
        refine r_aload_n (j := 0) rfl rfl dX8_skipBlanks_34 ?_
        refine w_getI fX8_65 rfl dX8_skipBlanks_35 ?_
        refine w_cV1p (k_X10_at (by omega)) (Nat.le_of_ble_eq_true rfl) lX8_92 vmX10_at rfl (Nat.le_of_ble_eq_true rfl) (Nat.le_of_ble_eq_true rfl) (Nat.le_of_ble_eq_true rfl) dX8_skipBlanks_38 ?_
        refine r_bipush (v := 10) rfl dX8_skipBlanks_41 ?_
        rw [ea]
        refine r_icmp_ne (tgt := 59) dX8_skipBlanks_43 (by decide) (fun c43 => ?_) (fun c43 => ?_)
        · refine w_vret rfl (Nat.le_of_ble_eq_true rfl) (Nat.le_of_ble_eq_true rfl) dX8_skipBlanks_59 ?_
          exact ⟨by rw [skB, if_neg (by rintro (z | z); exact c27 z; exact c43 z), ← h6, up_id], rfl, rfl⟩
        · exact yes (Or.inr c43)
theorem k_X8_skipBlanks {N p : Nat} (hN : I 1 1 = nI N) (h9 : N ≤ 900) (hp : p ≤ N) (h6 : I 33 6 = nI p) : Con sc mX8_skipBlanks 1 0 0 [.ref 33] (XW I L tg) (rV (XW (up I 33 6 (nI (skB (I 2) (N - p) p))) L tg)) := by
  refine Con_of (by decide) (Nat.le_of_ble_eq_true rfl) ?_
  exact l_X8_skipBlanks hN h9 (N - p) p (by omega) h6
theorem l_X8_readWord {N f : Nat} (hN : I 1 1 = nI N) (h9 : N ≤ 900) (h8 : I 33 8 = nI f) : ∀ n p, p + n = N → f ≤ p → I 33 6 = nI p → RR sc mX8_readWord 1 0 0 (rV (XW (up (up I 33 6 (nI (wdE (I 2) n p (L 33 9)).1)) 33 7 (if 8 < (wdE (I 2) n p (L 33 9)).1 - f then 0 else 1)) (up L 33 9 (wdE (I 2) n p (L 33 9)).2) tg)) 0 0 5 [(0, .ref 33)] [] (XW I L tg) := by
  have fin : ∀ (I : Is) (L : Ls) (p : Nat), I 33 8 = nI f → f ≤ p → p ≤ 900 → I 33 6 = nI p → RR sc mX8_readWord 1 0 0 (rV (XW (up I 33 7 (if 8 < p - f then 0 else 1)) L tg)) 0 0 71 [(0, .ref 33)] [] (XW I L tg) := by
    intro I L p h8 hf hp h6
    have es : (I 33 6 - I 33 8).toInt = ((p - f : Nat) : Int) := by rw [h6, h8, pk_sub hf, nI_toInt (by omega)]
    refine r_aload_n (j := 0) rfl rfl dX8_readWord_71 ?_
    refine r_aload_n (j := 0) rfl rfl dX8_readWord_72 ?_
    refine w_getI fX8_65 rfl dX8_readWord_73 ?_
    refine r_aload_n (j := 0) rfl rfl dX8_readWord_76 ?_
    refine w_getI fX8_86 rfl dX8_readWord_77 ?_
    refine r_isub dX8_readWord_80 ?_
    refine r_bipush (v := 8) rfl dX8_readWord_81 ?_
    refine r_icmp_le (tgt := 90) dX8_readWord_83 (by decide) (fun c83 => ?_) (fun c83 => ?_)
    · refine r_iconst (v := 1) rfl dX8_readWord_90 ?_
      refine w_putI fX8_80 rfl (rfl) (rfl) dX8_readWord_91 (fun J91 hJ91 => ?_)
      refine w_vret rfl (Nat.le_of_ble_eq_true rfl) (Nat.le_of_ble_eq_true rfl) dX8_readWord_94 ?_
      exact ⟨by rw [hJ91, if_neg (by ((try simp only [bI_0, bI_1, lc_lt, lc_gt, lc_le, lc_ge, Classical.not_not] at *); (try simp only [i_lt, i_le, i_eq, l_lt, l_le, l_eq, Int32.toInt_toInt64, Int32.reduceToInt, Int64.reduceToInt] at *); omega))], rfl, rfl⟩
    · refine r_iconst (v := 0) rfl dX8_readWord_86 ?_
      refine r_goto (tgt := 91) dX8_readWord_87 (by decide) ?_
      refine w_putI fX8_80 rfl (rfl) (rfl) dX8_readWord_91 (fun J91 hJ91 => ?_)
      refine w_vret rfl (Nat.le_of_ble_eq_true rfl) (Nat.le_of_ble_eq_true rfl) dX8_readWord_94 ?_
      exact ⟨by rw [hJ91, if_pos (by ((try simp only [bI_0, bI_1, lc_lt, lc_gt, lc_le, lc_ge, Classical.not_not] at *); (try simp only [i_lt, i_le, i_eq, l_lt, l_le, l_eq, Int32.toInt_toInt64, Int32.reduceToInt, Int64.reduceToInt] at *); omega))], rfl, rfl⟩
  intro n
  induction n generalizing I L with
  | zero =>
    intro p hp hf h6
    have hNi : (I 1 1).toInt = N := by rw [hN, nI_toInt (by omega)]
    have hpi : (I 33 6).toInt = p := by rw [h6, nI_toInt (by omega)]
    refine r_aload_n (j := 0) rfl rfl dX8_readWord_5 ?_
    refine w_getI fX8_65 rfl dX8_readWord_6 ?_
    refine r_aload_n (j := 0) rfl rfl dX8_readWord_9 ?_
    refine w_getR (b := 1) fX8_26 rfl rfl dX8_readWord_10 ?_
    refine w_getI fX8_106 rfl dX8_readWord_13 ?_
    refine r_icmp_ge (tgt := 71) dX8_readWord_16 (by decide) (fun c16 => ?_) (fun c16 => ?_)
    · rw [wdE]
      have q := fin I L p h8 hf (by omega) h6
      have e1 : up I 33 6 (nI p) = I := by rw [← h6, up_id]
      rw [e1, up_id]
      exact q
    · exfalso; ((try simp only [bI_0, bI_1, lc_lt, lc_gt, lc_le, lc_ge, Classical.not_not] at *); (try simp only [i_lt, i_le, i_eq, l_lt, l_le, l_eq, Int32.toInt_toInt64, Int32.reduceToInt, Int64.reduceToInt] at *); omega)
  | succ n ih =>
    intro p hp hf h6
    have hNi : (I 1 1).toInt = N := by rw [hN, nI_toInt (by omega)]
    have hpi : (I 33 6).toInt = p := by rw [h6, nI_toInt (by omega)]
    have ea := at_in (I := I) hN h9 h6 (show p < N by omega)
    refine r_aload_n (j := 0) rfl rfl dX8_readWord_5 ?_
    refine w_getI fX8_65 rfl dX8_readWord_6 ?_
    refine r_aload_n (j := 0) rfl rfl dX8_readWord_9 ?_
    refine w_getR (b := 1) fX8_26 rfl rfl dX8_readWord_10 ?_
    refine w_getI fX8_106 rfl dX8_readWord_13 ?_
    refine r_icmp_ge (tgt := 71) dX8_readWord_16 (by decide) (fun c16 => ?_) (fun c16 => ?_)
    · exfalso; ((try simp only [bI_0, bI_1, lc_lt, lc_gt, lc_le, lc_ge, Classical.not_not] at *); (try simp only [i_lt, i_le, i_eq, l_lt, l_le, l_eq, Int32.toInt_toInt64, Int32.reduceToInt, Int64.reduceToInt] at *); omega)
    · refine r_aload_n (j := 0) rfl rfl dX8_readWord_19 ?_
      refine w_getR (b := 1) fX8_26 rfl rfl dX8_readWord_20 ?_
      refine r_aload_n (j := 0) rfl rfl dX8_readWord_23 ?_
      refine w_getI fX8_65 rfl dX8_readWord_24 ?_
      refine w_cV1p (k_X10_at (by omega)) (Nat.le_of_ble_eq_true rfl) lX8_92 vmX10_at rfl (Nat.le_of_ble_eq_true rfl) (Nat.le_of_ble_eq_true rfl) (Nat.le_of_ble_eq_true rfl) dX8_readWord_27 ?_
      rw [ea]
      refine w_cS1p (k_X8_isLetter) (Nat.le_of_ble_eq_true rfl) lX8_50 mtX8_isLetter (Nat.le_of_ble_eq_true rfl) (Nat.le_of_ble_eq_true rfl) (Nat.le_of_ble_eq_true rfl) dX8_readWord_30 ?_
      refine r_if_eq (tgt := 71) dX8_readWord_33 (by decide) (fun c33 => ?_) (fun c33 => ?_)
      · rw [wdE, if_neg (bI_0.mp c33)]
        have q := fin I L p h8 hf (by omega) h6
        have e1 : up I 33 6 (nI p) = I := by rw [← h6, up_id]
        rw [e1, up_id]
        exact q
      · refine r_aload_n (j := 0) rfl rfl dX8_readWord_36 ?_
        refine r_aload_n (j := 0) rfl rfl dX8_readWord_37 ?_
        refine w_getL fX8_108 rfl dX8_readWord_38 ?_
        refine r_aload_n (j := 0) rfl rfl dX8_readWord_41 ?_
        refine w_getR (b := 1) fX8_26 rfl rfl dX8_readWord_42 ?_
        refine r_aload_n (j := 0) rfl rfl dX8_readWord_45 ?_
        refine w_getI fX8_65 rfl dX8_readWord_46 ?_
        refine w_cV1p (k_X10_at (by omega)) (Nat.le_of_ble_eq_true rfl) lX8_92 vmX10_at rfl (Nat.le_of_ble_eq_true rfl) (Nat.le_of_ble_eq_true rfl) (Nat.le_of_ble_eq_true rfl) dX8_readWord_49 ?_
        rw [ea]
        refine w_cS2l (k_X8_withLetter) (Nat.le_of_ble_eq_true rfl) lX8_54 mtX8_withLetter (Nat.le_of_ble_eq_true rfl) (Nat.le_of_ble_eq_true rfl) (Nat.le_of_ble_eq_true rfl) dX8_readWord_52 ?_
        refine w_putL fX8_108 rfl (rfl) (rfl) dX8_readWord_55 (fun J55 hJ55 => ?_)
        refine r_aload_n (j := 0) rfl rfl dX8_readWord_58 ?_
        refine r_dup rfl dX8_readWord_59 ?_
        refine w_getI fX8_65 rfl dX8_readWord_60 ?_
        refine r_iconst (v := 1) rfl dX8_readWord_63 ?_
        refine r_iadd dX8_readWord_64 ?_
        refine w_putI fX8_65 rfl (rfl) (rfl) dX8_readWord_65 (fun J65 hJ65 => ?_)
        refine r_goto (tgt := 5) dX8_readWord_68 (by decide) ?_
        rw [wdE, if_pos (bI_1.mp c33)]
        rw [h6, nI_1] at hJ65
        have q := ih (I := J65) (L := J55) (by rw [hJ65, up_n _ _ _ (by decide)]; exact hN) (by rw [hJ65, up_s, vu_n _ _ (by decide)]; exact h8) (p + 1) (by omega) (by omega) (by rw [hJ65, up_s, vu_s])
        have e2 : J65 2 = I 2 := by rw [hJ65, up_n _ _ _ (by decide)]
        have e3 : J55 33 9 = wlS (L 33 9) (I 2 p) := by rw [hJ55, up_s, vu_s]
        rw [e2, e3] at q
        have e4 : up J65 33 6 (nI (wdE (I 2) n (p + 1) (wlS (L 33 9) (I 2 p))).1) = up I 33 6 (nI (wdE (I 2) n (p + 1) (wlS (L 33 9) (I 2 p))).1) := by rw [hJ65, up_up]
        have e5 : up J55 33 9 (wdE (I 2) n (p + 1) (wlS (L 33 9) (I 2 p))).2 = up L 33 9 (wdE (I 2) n (p + 1) (wlS (L 33 9) (I 2 p))).2 := by rw [hJ55, up_up]
        rw [e4, e5] at q
        exact q
theorem k_X8_readWord {N p : Nat} (hN : I 1 1 = nI N) (h9 : N ≤ 900) (h8 : I 33 8 = nI p) (hp : p ≤ N) (h6 : I 33 6 = nI p) : Con sc mX8_readWord 1 0 0 [.ref 33] (XW I L tg) (rV (XW (up (up I 33 6 (nI (wdE (I 2) (N - p) p 0).1)) 33 7 (if 8 < (wdE (I 2) (N - p) p 0).1 - p then 0 else 1)) (up L 33 9 (wdE (I 2) (N - p) p 0).2) tg)) := by
  refine Con_of (by decide) (Nat.le_of_ble_eq_true rfl) ?_
  refine r_aload_n (j := 0) rfl rfl dX8_readWord_0 ?_
  refine r_lconst (v := 0) rfl dX8_readWord_1 ?_
  refine w_putL fX8_108 rfl (rfl) (rfl) dX8_readWord_2 (fun J2 hJ2 => ?_)
  have q := l_X8_readWord (sc := sc) (tg := tg) (I := I) (L := J2) hN h9 h8 (N - p) p (by omega) (Nat.le_refl _) h6
  have e3 : J2 33 9 = 0 := by rw [hJ2, up_s, vu_s]
  have e5 : up J2 33 9 (wdE (I 2) (N - p) p 0).2 = up L 33 9 (wdE (I 2) (N - p) p 0).2 := by rw [hJ2, up_up]
  rw [e3, e5] at q
  exact q
theorem l_X8_readNumber {N f : Nat} (hN : I 1 1 = nI N) (h9 : N ≤ 900) (h8 : I 33 8 = nI f) : ∀ n p, p + n = N → f ≤ p → I 33 6 = nI p → RR sc mX8_readNumber 1 0 0 (rV (XW (up (up (up I 33 10 (nmE (I 2) n p (I 33 10)).2) 33 6 (nI (nmE (I 2) n p (I 33 10)).1)) 33 7 (if 4 < (nmE (I 2) n p (I 33 10)).1 - f then 0 else 2)) L tg)) 0 0 5 [(0, .ref 33)] [] (XW I L tg) := by
  have fin : ∀ (I : Is) (p : Nat), I 33 8 = nI f → f ≤ p → p ≤ 900 → I 33 6 = nI p → RR sc mX8_readNumber 1 0 0 (rV (XW (up I 33 7 (if 4 < p - f then 0 else 2)) L tg)) 0 0 75 [(0, .ref 33)] [] (XW I L tg) := by
    intro I p h8 hf hp h6
    have es : (I 33 6 - I 33 8).toInt = ((p - f : Nat) : Int) := by rw [h6, h8, pk_sub hf, nI_toInt (by omega)]
    refine r_aload_n (j := 0) rfl rfl dX8_readNumber_75 ?_
    refine r_aload_n (j := 0) rfl rfl dX8_readNumber_76 ?_
    refine w_getI fX8_65 rfl dX8_readNumber_77 ?_
    refine r_aload_n (j := 0) rfl rfl dX8_readNumber_80 ?_
    refine w_getI fX8_86 rfl dX8_readNumber_81 ?_
    refine r_isub dX8_readNumber_84 ?_
    refine r_iconst (v := 4) rfl dX8_readNumber_85 ?_
    refine r_icmp_le (tgt := 93) dX8_readNumber_86 (by decide) (fun c86 => ?_) (fun c86 => ?_)
    · refine r_iconst (v := 2) rfl dX8_readNumber_93 ?_
      refine w_putI fX8_80 rfl (rfl) (rfl) dX8_readNumber_94 (fun J94 hJ94 => ?_)
      refine w_vret rfl (Nat.le_of_ble_eq_true rfl) (Nat.le_of_ble_eq_true rfl) dX8_readNumber_97 ?_
      exact ⟨by rw [hJ94, if_neg (by ((try simp only [bI_0, bI_1, lc_lt, lc_gt, lc_le, lc_ge, Classical.not_not] at *); (try simp only [i_lt, i_le, i_eq, l_lt, l_le, l_eq, Int32.toInt_toInt64, Int32.reduceToInt, Int64.reduceToInt] at *); omega))], rfl, rfl⟩
    · refine r_iconst (v := 0) rfl dX8_readNumber_89 ?_
      refine r_goto (tgt := 94) dX8_readNumber_90 (by decide) ?_
      refine w_putI fX8_80 rfl (rfl) (rfl) dX8_readNumber_94 (fun J94 hJ94 => ?_)
      refine w_vret rfl (Nat.le_of_ble_eq_true rfl) (Nat.le_of_ble_eq_true rfl) dX8_readNumber_97 ?_
      exact ⟨by rw [hJ94, if_pos (by ((try simp only [bI_0, bI_1, lc_lt, lc_gt, lc_le, lc_ge, Classical.not_not] at *); (try simp only [i_lt, i_le, i_eq, l_lt, l_le, l_eq, Int32.toInt_toInt64, Int32.reduceToInt, Int64.reduceToInt] at *); omega))], rfl, rfl⟩
  intro n
  induction n generalizing I with
  | zero =>
    intro p hp hf h6
    have hNi : (I 1 1).toInt = N := by rw [hN, nI_toInt (by omega)]
    have hpi : (I 33 6).toInt = p := by rw [h6, nI_toInt (by omega)]
    refine r_aload_n (j := 0) rfl rfl dX8_readNumber_5 ?_
    refine w_getI fX8_65 rfl dX8_readNumber_6 ?_
    refine r_aload_n (j := 0) rfl rfl dX8_readNumber_9 ?_
    refine w_getR (b := 1) fX8_26 rfl rfl dX8_readNumber_10 ?_
    refine w_getI fX8_106 rfl dX8_readNumber_13 ?_
    refine r_icmp_ge (tgt := 75) dX8_readNumber_16 (by decide) (fun c16 => ?_) (fun c16 => ?_)
    · rw [nmE]
      have q := fin I p h8 hf (by omega) h6
      have e1 : up I 33 6 (nI p) = I := by rw [← h6, up_id]
      rw [up_id, e1]
      exact q
    · exfalso; ((try simp only [bI_0, bI_1, lc_lt, lc_gt, lc_le, lc_ge, Classical.not_not] at *); (try simp only [i_lt, i_le, i_eq, l_lt, l_le, l_eq, Int32.toInt_toInt64, Int32.reduceToInt, Int64.reduceToInt] at *); omega)
  | succ n ih =>
    intro p hp hf h6
    have hNi : (I 1 1).toInt = N := by rw [hN, nI_toInt (by omega)]
    have hpi : (I 33 6).toInt = p := by rw [h6, nI_toInt (by omega)]
    have ea := at_in (I := I) hN h9 h6 (show p < N by omega)
    refine r_aload_n (j := 0) rfl rfl dX8_readNumber_5 ?_
    refine w_getI fX8_65 rfl dX8_readNumber_6 ?_
    refine r_aload_n (j := 0) rfl rfl dX8_readNumber_9 ?_
    refine w_getR (b := 1) fX8_26 rfl rfl dX8_readNumber_10 ?_
    refine w_getI fX8_106 rfl dX8_readNumber_13 ?_
    refine r_icmp_ge (tgt := 75) dX8_readNumber_16 (by decide) (fun c16 => ?_) (fun c16 => ?_)
    · exfalso; ((try simp only [bI_0, bI_1, lc_lt, lc_gt, lc_le, lc_ge, Classical.not_not] at *); (try simp only [i_lt, i_le, i_eq, l_lt, l_le, l_eq, Int32.toInt_toInt64, Int32.reduceToInt, Int64.reduceToInt] at *); omega)
    · refine r_aload_n (j := 0) rfl rfl dX8_readNumber_19 ?_
      refine w_getR (b := 1) fX8_26 rfl rfl dX8_readNumber_20 ?_
      refine r_aload_n (j := 0) rfl rfl dX8_readNumber_23 ?_
      refine w_getI fX8_65 rfl dX8_readNumber_24 ?_
      refine w_cV1p (k_X10_at (by omega)) (Nat.le_of_ble_eq_true rfl) lX8_92 vmX10_at rfl (Nat.le_of_ble_eq_true rfl) (Nat.le_of_ble_eq_true rfl) (Nat.le_of_ble_eq_true rfl) dX8_readNumber_27 ?_
      rw [ea]
      refine w_cS1p (k_X8_isDigit) (Nat.le_of_ble_eq_true rfl) lX8_100 mtX8_isDigit (Nat.le_of_ble_eq_true rfl) (Nat.le_of_ble_eq_true rfl) (Nat.le_of_ble_eq_true rfl) dX8_readNumber_30 ?_
      refine r_if_eq (tgt := 75) dX8_readNumber_33 (by decide) (fun c33 => ?_) (fun c33 => ?_)
      · rw [nmE, if_neg (bI_0.mp c33)]
        have q := fin I p h8 hf (by omega) h6
        have e1 : up I 33 6 (nI p) = I := by rw [← h6, up_id]
        rw [up_id, e1]
        exact q
      · refine r_aload_n (j := 0) rfl rfl dX8_readNumber_36 ?_
        refine r_aload_n (j := 0) rfl rfl dX8_readNumber_37 ?_
        refine w_getI fX8_112 rfl dX8_readNumber_38 ?_
        refine r_bipush (v := 10) rfl dX8_readNumber_41 ?_
        refine r_imul dX8_readNumber_43 ?_
        refine r_aload_n (j := 0) rfl rfl dX8_readNumber_44 ?_
        refine w_getR (b := 1) fX8_26 rfl rfl dX8_readNumber_45 ?_
        refine r_aload_n (j := 0) rfl rfl dX8_readNumber_48 ?_
        refine w_getI fX8_65 rfl dX8_readNumber_49 ?_
        refine w_cV1p (k_X10_at (by omega)) (Nat.le_of_ble_eq_true rfl) lX8_92 vmX10_at rfl (Nat.le_of_ble_eq_true rfl) (Nat.le_of_ble_eq_true rfl) (Nat.le_of_ble_eq_true rfl) dX8_readNumber_52 ?_
        refine r_bipush (v := 48) rfl dX8_readNumber_55 ?_
        rw [ea]
        refine r_isub dX8_readNumber_57 ?_
        refine r_iadd dX8_readNumber_58 ?_
        refine w_putI fX8_112 rfl (rfl) (rfl) dX8_readNumber_59 (fun J59 hJ59 => ?_)
        refine r_aload_n (j := 0) rfl rfl dX8_readNumber_62 ?_
        refine r_dup rfl dX8_readNumber_63 ?_
        refine w_getI fX8_65 rfl dX8_readNumber_64 ?_
        refine r_iconst (v := 1) rfl dX8_readNumber_67 ?_
        refine r_iadd dX8_readNumber_68 ?_
        refine w_putI fX8_65 rfl (rfl) (rfl) dX8_readNumber_69 (fun J69 hJ69 => ?_)
        refine r_goto (tgt := 5) dX8_readNumber_72 (by decide) ?_
        rw [nmE, if_pos (bI_1.mp c33)]
        have a6 : J59 33 6 = nI p := by rw [hJ59, up_s, vu_n _ _ (by decide)]; exact h6
        rw [a6, nI_1] at hJ69
        have q := ih (I := J69) (by rw [hJ69, up_n _ _ _ (by decide), hJ59, up_n _ _ _ (by decide)]; exact hN) (by rw [hJ69, up_s, vu_n _ _ (by decide), hJ59, up_s, vu_n _ _ (by decide)]; exact h8) (p + 1) (by omega) (by omega) (by rw [hJ69, up_s, vu_s])
        have e2 : J69 2 = I 2 := by rw [hJ69, up_n _ _ _ (by decide), hJ59, up_n _ _ _ (by decide)]
        have e3 : J69 33 10 = I 33 10 * 10 + (I 2 p - 48) := by rw [hJ69, up_s, vu_n _ _ (by decide), hJ59, up_s, vu_s]
        rw [e2, e3] at q
        have e4 : ∀ (x y : Int32), up (up J69 33 10 x) 33 6 y = up (up I 33 10 x) 33 6 y := by
          intro x y
          rw [hJ69, hJ59]
          funext a
          by_cases h : a = 33
          · subst h
            funext j
            by_cases h1 : j = 6
            · subst h1; simp [up_eq, vu_eq]
            · by_cases h2 : j = 10
              · subst h2; simp [up_eq, vu_eq]
              · simp [up_eq, vu_eq, h1, h2]
          · simp [up_eq, h]
        rw [e4] at q
        exact q
theorem k_X8_readNumber {N p : Nat} (hN : I 1 1 = nI N) (h9 : N ≤ 900) (h8 : I 33 8 = nI p) (hp : p ≤ N) (h6 : I 33 6 = nI p) : Con sc mX8_readNumber 1 0 0 [.ref 33] (XW I L tg) (rV (XW (up (up (up I 33 10 (nmE (I 2) (N - p) p 0).2) 33 6 (nI (nmE (I 2) (N - p) p 0).1)) 33 7 (if 4 < (nmE (I 2) (N - p) p 0).1 - p then 0 else 2)) L tg)) := by
  refine Con_of (by decide) (Nat.le_of_ble_eq_true rfl) ?_
  refine r_aload_n (j := 0) rfl rfl dX8_readNumber_0 ?_
  refine r_iconst (v := 0) rfl dX8_readNumber_1 ?_
  refine w_putI fX8_112 rfl (rfl) (rfl) dX8_readNumber_2 (fun J2 hJ2 => ?_)
  have q := l_X8_readNumber (sc := sc) (tg := tg) (I := J2) (L := L) (by rw [hJ2, up_n _ _ _ (by decide)]; exact hN) h9 (by rw [hJ2, up_s, vu_n _ _ (by decide)]; exact h8) (N - p) p (by omega) (Nat.le_refl _) (by rw [hJ2, up_s, vu_n _ _ (by decide)]; exact h6)
  have e2 : J2 2 = I 2 := by rw [hJ2, up_n _ _ _ (by decide)]
  have e3 : J2 33 10 = 0 := by rw [hJ2, up_s, vu_s]
  have e5 : ∀ x, up J2 33 10 x = up I 33 10 x := fun x => by rw [hJ2, up_up]
  rw [e2, e3, e5] at q
  exact q
end
