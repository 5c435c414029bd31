/-! BEST: the row; the public face of the night -/
section Bu
variable {sc : Sc} {I : Is} {L : Ls} {tg P : Nat}
/-- who is next, out of the set lf, at minute m, with so many others behind -/
def lnp (la : Nat → Int32) (out : Nat → Int32 → Int32) (P lf : Nat) (m oth : Int32) (p : Nat) : Bool := lf.testBit p && anyN (cfp la (nI (clr lf p)) oth (out p m)) (2 ^ P) 0
theorem l_X7_leastNext {lf : Nat} {m oth : Int32} (hlf : lf < 256) (hP : I 84 7 = nI P) (h8 : P ≤ 8) (r0 : 0 ≤ (I 84 8).toInt) (r5 : (I 84 8).toInt ≤ 5) : ∀ n i : Nat, i + n = P → ∀ x : Int32, x.toInt = i → RR sc mX7_leastNext 2 0 0 (rI (fsk (lnp (I 91) (outI I) P lf m oth) n i) (XW I L tg)) 0 0 3 [(4, .int x), (0, .ref 84), (1, .int (nI lf)), (2, .int m), (3, .int oth)] [] (XW I L tg) := by
  have hPi : (I 84 7).toInt = P := by rw [hP, nI_toInt (by omega)]
  intro n
  induction n with
  | zero =>
    intro i hi x hx
    refine r_iload (j := 0) rfl dX7_leastNext_3 ?_
    refine r_aload_n (j := 1) rfl rfl dX7_leastNext_5 ?_
    refine w_getI fX7_37 rfl dX7_leastNext_6 ?_
    refine r_icmp_ge (tgt := 53) dX7_leastNext_9 (by decide) (fun c9 => ?_) (fun c9 => ?_)
    · refine r_iconst (v := (-1)) rfl dX7_leastNext_53 ?_
      refine w_iret rfl (rfl) (Nat.le_of_ble_eq_true rfl) (Nat.le_of_ble_eq_true rfl) dX7_leastNext_54 ?_
      exact ⟨rfl, rfl, rfl, rfl⟩
    · exfalso; ((try simp only [bI_0, bI_1, lc_lt, lc_gt, lc_le, lc_ge, Classical.not_not] at *); (try simp only [i_lt, i_le, i_eq, l_lt, l_le, l_eq, Int32.toInt_toInt64, Int32.reduceToInt, Int64.reduceToInt] at *); omega)
  | succ n ih =>
    intro i hi x hx
    obtain rfl := x_nI hx
    have hi8 : i < 8 := by omega
    have hb := s8_bz lf hlf i hi8
    have hc := s8_clr lf hlf i hi8
    rw [fsk]
    refine r_iload (j := 0) rfl dX7_leastNext_3 ?_
    refine r_aload_n (j := 1) rfl rfl dX7_leastNext_5 ?_
    refine w_getI fX7_37 rfl dX7_leastNext_6 ?_
    refine r_icmp_ge (tgt := 53) dX7_leastNext_9 (by decide) (fun c9 => ?_) (fun c9 => ?_)
    · exfalso; ((try simp only [bI_0, bI_1, lc_lt, lc_gt, lc_le, lc_ge, Classical.not_not] at *); (try simp only [i_lt, i_le, i_eq, l_lt, l_le, l_eq, Int32.toInt_toInt64, Int32.reduceToInt, Int64.reduceToInt] at *); omega)
    · refine r_iload_n (j := 2) rfl rfl dX7_leastNext_12 ?_
      refine r_iload (j := 0) rfl dX7_leastNext_13 ?_
      refine r_ishr dX7_leastNext_15 ?_
      refine r_iconst (v := 1) rfl dX7_leastNext_16 ?_
      refine r_iand dX7_leastNext_17 ?_
      refine r_if_eq (tgt := 47) dX7_leastNext_18 (by decide) (fun c18 => ?_) (fun c18 => ?_)
      · refine r_iinc (j := 0) (lv' := fun z => [(4, .int z), (0, .ref 84), (1, .int (nI lf)), (2, .int m), (3, .int oth)]) dX7_leastNext_47 rfl (Nat.le_of_ble_eq_true rfl) (fun _ => rfl) (fun x4_47 ex4_47 => ?_)
        refine r_goto (tgt := 3) dX7_leastNext_50 (by decide) ?_
        rw [if_neg (show ¬ lnp (I 91) (outI I) P lf m oth i = true by unfold lnp; rw [hb.mp c18]; simp)]
        exact ih (i + 1) (by omega) _ (by rw [ex4_47]; exact i_inc hx (by omega))
      · refine r_aload_n (j := 1) rfl rfl dX7_leastNext_21 ?_
        refine r_iload_n (j := 2) rfl rfl dX7_leastNext_22 ?_
        refine r_iconst (v := 1) rfl dX7_leastNext_23 ?_
        refine r_iload (j := 0) rfl dX7_leastNext_24 ?_
        refine r_ishl dX7_leastNext_26 ?_
        refine r_iconst (v := (-1)) rfl dX7_leastNext_27 ?_
        refine r_ixor dX7_leastNext_28 ?_
        refine r_iand dX7_leastNext_29 ?_
        refine r_iload_n (j := 4) rfl rfl dX7_leastNext_30 ?_
        refine r_aload_n (j := 1) rfl rfl dX7_leastNext_31 ?_
        refine r_iload_n (j := 3) rfl rfl dX7_leastNext_32 ?_
        refine r_iload (j := 0) rfl dX7_leastNext_33 ?_
        refine w_cV2p (k_X7_outFrom hx hi8 r0 r5) (Nat.le_of_ble_eq_true rfl) lX7_56 vmX7_outFrom rfl (Nat.le_of_ble_eq_true rfl) (Nat.le_of_ble_eq_true rfl) (Nat.le_of_ble_eq_true rfl) dX7_leastNext_35 ?_
        rw [hc]
        refine w_cV3p (k_X7_canFollow hP h8) (Nat.le_of_ble_eq_true rfl) lX7_89 vmX7_canFollow rfl (Nat.le_of_ble_eq_true rfl) (Nat.le_of_ble_eq_true rfl) (Nat.le_of_ble_eq_true rfl) dX7_leastNext_38 ?_
        refine r_if_eq (tgt := 47) dX7_leastNext_41 (by decide) (fun c41 => ?_) (fun c41 => ?_)
        · refine r_iinc (j := 0) (lv' := fun z => [(4, .int z), (0, .ref 84), (1, .int (nI lf)), (2, .int m), (3, .int oth)]) dX7_leastNext_47 rfl (Nat.le_of_ble_eq_true rfl) (fun _ => rfl) (fun x4_47 ex4_47 => ?_)
          refine r_goto (tgt := 3) dX7_leastNext_50 (by decide) ?_
          have ha : ¬ anyN (cfp (I 91) (nI (clr lf i)) oth (outI I i m)) (2 ^ P) 0 = true := fun h => absurd (c41.symm.trans (if_pos h)) (by decide)
          rw [if_neg (show ¬ lnp (I 91) (outI I) P lf m oth i = true by unfold lnp; simp only [Bool.and_eq_true]; exact fun z => ha z.2)]
          exact ih (i + 1) (by omega) _ (by rw [ex4_47]; exact i_inc hx (by omega))
        · refine r_iload (j := 0) rfl dX7_leastNext_44 ?_
          refine w_iret rfl (rfl) (Nat.le_of_ble_eq_true rfl) (Nat.le_of_ble_eq_true rfl) dX7_leastNext_46 ?_
          have ht : lf.testBit i = true := by
            cases h : lf.testBit i with
            | true => rfl
            | false => exact absurd (hb.mpr h) c18
          have ha : anyN (cfp (I 91) (nI (clr lf i)) oth (outI I i m)) (2 ^ P) 0 = true := by
            by_cases h : anyN (cfp (I 91) (nI (clr lf i)) oth (outI I i m)) (2 ^ P) 0 = true
            · exact h
            · exact absurd (if_neg h) c41
          exact ⟨by rw [if_pos (show lnp (I 91) (outI I) P lf m oth i = true by unfold lnp; rw [ht, ha]; rfl)], rfl, rfl, rfl⟩
theorem k_X7_leastNext {lf : Nat} {m oth : Int32} (hlf : lf < 256) (hP : I 84 7 = nI P) (h8 : P ≤ 8) (r0 : 0 ≤ (I 84 8).toInt) (r5 : (I 84 8).toInt ≤ 5) : Con sc mX7_leastNext 2 0 0 [.ref 84, .int (nI lf), .int m, .int oth] (XW I L tg) (rI (fsk (lnp (I 91) (outI I) P lf m oth) P 0) (XW I L tg)) := by
  refine Con_of (by decide) (Nat.le_of_ble_eq_true rfl) ?_
  refine r_iconst (v := 0) rfl dX7_leastNext_0 ?_
  refine r_istore (lv' := fun z => [(4, .int z), (0, .ref 84), (1, .int (nI lf)), (2, .int m), (3, .int oth)]) dX7_leastNext_1 (Nat.le_of_ble_eq_true rfl) (fun _ => rfl) (fun x4_1 ex4_1 => ?_)
  exact l_X7_leastNext hlf hP h8 r0 r5 _ 0 (Nat.zero_add _) _ (by rw [ex4_1]; rfl)
/-- the person at a place -/
def prs (la : Nat → Int32) (out : Nat → Int32 → Int32) (P lf : Nat) (m oth : Int32) : Nat := (iMax 0 (fsk (lnp la out P lf m oth) P 0)).toNatClampNeg
/-- who is left and when it is, after i places of a row of k -/
def flS (la : Nat → Int32) (out : Nat → Int32 → Int32) (P k : Nat) : Nat → Nat × Int32
  | 0 => (2 ^ P - 1, 0)
  | i + 1 => (clr (flS la out P k i).1 (prs la out P (flS la out P k i).1 (flS la out P k i).2 (nI k - nI i - 1)), out (prs la out P (flS la out P k i).1 (flS la out P k i).2 (nI k - nI i - 1)) (flS la out P k i).2)
def flW (la : Nat → Int32) (out : Nat → Int32 → Int32) (P k i : Nat) : Int32 := nI (prs la out P (flS la out P k i).1 (flS la out P k i).2 (nI k - nI i - 1))
def flO (la : Nat → Int32) (out : Nat → Int32 → Int32) (P k i : Nat) : Int32 := (flS la out P k (i + 1)).2
theorem prs_lt {la : Nat → Int32} {out : Nat → Int32 → Int32} {P lf : Nat} {m oth : Int32} (h8 : P ≤ 8) : prs la out P lf m oth < 8 ∧ iMax 0 (fsk (lnp la out P lf m oth) P 0) = nI (prs la out P lf m oth) := by
  unfold prs
  rcases fsk_rng (lnp la out P lf m oth) P 0 with ⟨h1, -⟩ | ⟨j, h1, h2, h3, -⟩
  · rw [h1]; exact ⟨by decide, by decide⟩
  · rw [h3]
    have : iMax 0 (nI j) = nI j := by
      unfold iMax
      by_cases hj : (0 : Int32) < nI j
      · rw [if_pos hj]
      · have h0 : j = 0 := by
          rcases Nat.eq_zero_or_pos j with h | h
          · exact h
          · exact absurd (nI_lt h (by omega)) hj
        subst h0
        rfl
    rw [this, nI_clamp (by omega)]
    exact ⟨by omega, rfl⟩
theorem flS_lt {la : Nat → Int32} {out : Nat → Int32 → Int32} {P k : Nat} (h8 : P ≤ 8) : ∀ i, (flS la out P k i).1 < 256 := by
  intro i
  induction i with
  | zero => have := p2_le P h8; have := p2_1 P h8; show 2 ^ P - 1 < 256; omega
  | succ i ih => exact clr_lt _ ih _ (prs_lt h8).1
def flI (I : Is) (P k i : Nat) : Is := upr (upr (up I 84 9 (nI k)) 88 (prf (flW (I 91) (outI I) P k) i (I 88))) 89 (prf (flO (I 91) (outI I) P k) i (I 89))
theorem fl_s {I : Is} {P k i : Nat} : up (up (flI I P k i) 88 i (flW (I 91) (outI I) P k i)) 89 i (flO (I 91) (outI I) P k i) = flI I P k (i + 1) := by
  unfold flI
  rw [← prf_s (flW (I 91) (outI I) P k), ← prf_s (flO (I 91) (outI I) P k)]
  funext q
  by_cases h1 : q = 88
  · subst h1; simp [up_eq, upr_eq]
  · by_cases h2 : q = 89
    · subst h2; simp [up_eq, upr_eq]
    · simp [up_eq, upr_eq, h1, h2]
theorem fl_n (I : Is) (P k i : Nat) {q : Nat} (h : q ≠ 84) (h1 : q ≠ 88) (h2 : q ≠ 89) : flI I P k i q = I q := by simp [flI, up_eq, upr_eq, h, h1, h2]
theorem fl_84 (I : Is) (P k i : Nat) {j : Nat} (h : j ≠ 9) : flI I P k i 84 j = I 84 j := by simp [flI, up_eq, upr_eq, vu_eq, h]
theorem l_X7_fillRow {k : Nat} (hk : k ≤ 8) (hP : I 84 7 = nI P) (h8 : P ≤ 8) (r0 : 0 ≤ (I 84 8).toInt) (r5 : (I 84 8).toInt ≤ 5) : ∀ n i : Nat, i + n = k → ∀ (J : Is) (lf m x : Int32), J = flI I P k i → lf = nI (flS (I 91) (outI I) P k i).1 → m = (flS (I 91) (outI I) P k i).2 → x.toInt = i → RR sc mX7_fillRow 3 0 0 (rV (XW (flI I P k k) L tg)) 0 0 19 [(4, .int x), (3, .int m), (2, .int lf), (0, .ref 84), (1, .int (nI k))] [] (XW J L tg) := by
  have hki : (nI k).toInt = k := nI_toInt (by omega)
  intro n
  induction n with
  | zero =>
    intro i hi J lf m x eJ el em hx
    refine r_iload (j := 0) rfl dX7_fillRow_19 ?_
    refine r_iload_n (j := 4) rfl rfl dX7_fillRow_21 ?_
    refine r_icmp_ge (tgt := 90) dX7_fillRow_22 (by decide) (fun c22 => ?_) (fun c22 => ?_)
    · refine w_vret rfl (Nat.le_of_ble_eq_true rfl) (Nat.le_of_ble_eq_true rfl) dX7_fillRow_90 ?_
      exact ⟨by rw [eJ, show i = k by omega], rfl, rfl⟩
    · exfalso; ((try simp only [bI_0, bI_1, lc_lt, lc_gt, lc_le, lc_ge, Classical.not_not] at *); (try simp only [i_lt, i_le, i_eq, l_lt, l_le, l_eq, Int32.toInt_toInt64, Int32.reduceToInt, Int64.reduceToInt] at *); omega)
  | succ n ih =>
    intro i hi J lf m x eJ el em hx
    obtain rfl := x_nI hx
    have cx := cl_of hx
    have e8 : J 84 8 = I 84 8 := by rw [eJ]; exact fl_84 _ _ _ _ (by decide)
    have e7 : J 84 7 = nI P := by rw [eJ, fl_84 _ _ _ _ (by decide)]; exact hP
    have e91 : J 91 = I 91 := by rw [eJ]; exact fl_n _ _ _ _ (by decide) (by decide) (by decide)
    have eo : outI J = outI I := by
      unfold outI
      rw [e8, eJ, fl_n _ _ _ _ (by decide) (by decide) (by decide), fl_n _ _ _ _ (by decide) (by decide) (by decide), fl_n _ _ _ _ (by decide) (by decide) (by decide)]
    have hlt := flS_lt (la := I 91) (out := outI I) (P := P) (k := k) h8 i
    obtain ⟨hp1, hp2⟩ := prs_lt (la := I 91) (out := outI I) (P := P) (lf := (flS (I 91) (outI I) P k i).1) (m := (flS (I 91) (outI I) P k i).2) (oth := nI k - nI i - 1) h8
    subst el em
    refine r_iload (j := 0) rfl dX7_fillRow_19 ?_
    refine r_iload_n (j := 4) rfl rfl dX7_fillRow_21 ?_
    refine r_icmp_ge (tgt := 90) dX7_fillRow_22 (by decide) (fun c22 => ?_) (fun c22 => ?_)
    · exfalso; ((try simp only [bI_0, bI_1, lc_lt, lc_gt, lc_le, lc_ge, Classical.not_not] at *); (try simp only [i_lt, i_le, i_eq, l_lt, l_le, l_eq, Int32.toInt_toInt64, Int32.reduceToInt, Int64.reduceToInt] at *); omega)
    · refine r_iload (j := 0) rfl dX7_fillRow_25 ?_
      refine r_bipush (v := 8) rfl dX7_fillRow_27 ?_
      refine r_icmp_ge (tgt := 90) dX7_fillRow_29 (by decide) (fun c29 => ?_) (fun c29 => ?_)
      · exfalso; ((try simp only [bI_0, bI_1, lc_lt, lc_gt, lc_le, lc_ge, Classical.not_not] at *); (try simp only [i_lt, i_le, i_eq, l_lt, l_le, l_eq, Int32.toInt_toInt64, Int32.reduceToInt, Int64.reduceToInt] at *); omega)
      · refine r_iconst (v := 0) rfl dX7_fillRow_32 ?_
        refine r_aload_n (j := 3) rfl rfl dX7_fillRow_33 ?_
        refine r_iload_n (j := 2) rfl rfl dX7_fillRow_34 ?_
        refine r_iload_n (j := 1) rfl rfl dX7_fillRow_35 ?_
        refine r_iload_n (j := 4) rfl rfl dX7_fillRow_36 ?_
        refine r_iload (j := 0) rfl dX7_fillRow_37 ?_
        refine r_isub dX7_fillRow_39 ?_
        refine r_iconst (v := 1) rfl dX7_fillRow_40 ?_
        refine r_isub dX7_fillRow_41 ?_
        refine w_cV3p (k_X7_leastNext hlt e7 h8 (by rw [e8]; exact r0) (by rw [e8]; exact r5)) (Nat.le_of_ble_eq_true rfl) lX7_85 vmX7_leastNext rfl (Nat.le_of_ble_eq_true rfl) (Nat.le_of_ble_eq_true rfl) (Nat.le_of_ble_eq_true rfl) dX7_fillRow_42 ?_
        refine r_mmax lmX7_82 (Nat.le_of_ble_eq_true rfl) (Nat.le_of_ble_eq_true rfl) (Nat.le_of_ble_eq_true rfl) (Nat.le_of_ble_eq_true rfl) dX7_fillRow_45 ?_
        refine r_istore (lv' := fun z => [(5, .int z), (4, .int (nI i)), (3, .int (flS (I 91) (outI I) P k i).2), (2, .int (nI (flS (I 91) (outI I) P k i).1)), (0, .ref 84), (1, .int (nI k))]) dX7_fillRow_48 (Nat.le_of_ble_eq_true rfl) (fun _ => rfl) (fun x5_48 ex5_48 => ?_)
        rw [e91, eo, hp2] at ex5_48; have e5 : x5_48.toInt = (prs (I 91) (outI I) P (flS (I 91) (outI I) P k i).1 (flS (I 91) (outI I) P k i).2 (nI k - nI i - 1) : Int) := by rw [ex5_48, nI_toInt (by omega)]
        refine r_aload_n (j := 4) rfl rfl dX7_fillRow_50 ?_
        refine r_iload_n (j := 2) rfl rfl dX7_fillRow_51 ?_
        refine r_iload (j := 0) rfl dX7_fillRow_52 ?_
        refine w_cV2p (k_X7_outFrom e5 hp1 (by rw [e8]; exact r0) (by rw [e8]; exact r5)) (Nat.le_of_ble_eq_true rfl) lX7_56 vmX7_outFrom rfl (Nat.le_of_ble_eq_true rfl) (Nat.le_of_ble_eq_true rfl) (Nat.le_of_ble_eq_true rfl) dX7_fillRow_54 ?_
        refine r_istore_n (lv' := fun z => [(3, .int z), (5, .int x5_48), (4, .int (nI i)), (2, .int (nI (flS (I 91) (outI I) P k i).1)), (0, .ref 84), (1, .int (nI k))]) dX7_fillRow_57 rfl (Nat.le_of_ble_eq_true rfl) (fun _ => rfl) (fun x3_57 ex3_57 => ?_)
        refine r_iload_n (j := 3) rfl rfl dX7_fillRow_58 ?_
        refine r_iconst (v := 1) rfl dX7_fillRow_59 ?_
        refine r_iload (j := 1) rfl dX7_fillRow_60 ?_
        refine r_ishl dX7_fillRow_62 ?_
        refine r_iconst (v := (-1)) rfl dX7_fillRow_63 ?_
        refine r_ixor dX7_fillRow_64 ?_
        refine r_iand dX7_fillRow_65 ?_
        refine r_istore_n (lv' := fun z => [(2, .int z), (3, .int x3_57), (5, .int x5_48), (4, .int (nI i)), (0, .ref 84), (1, .int (nI k))]) dX7_fillRow_66 rfl (Nat.le_of_ble_eq_true rfl) (fun _ => rfl) (fun x2_66 ex2_66 => ?_)
        refine r_aload_n (j := 4) rfl rfl dX7_fillRow_67 ?_
        refine w_getR (b := 88) fX7_21 rfl rfl dX7_fillRow_68 ?_
        refine r_iload (j := 3) rfl dX7_fillRow_71 ?_
        refine r_iload (j := 2) rfl dX7_fillRow_73 ?_
        refine w_iast rfl (up_in hx (by omega)) dX7_fillRow_75 (fun J75 hJ75 => ?_)
        refine r_aload_n (j := 4) rfl rfl dX7_fillRow_76 ?_
        refine w_getR (b := 89) fX7_24 rfl rfl dX7_fillRow_77 ?_
        refine r_iload (j := 3) rfl dX7_fillRow_80 ?_
        refine r_iload_n (j := 1) rfl rfl dX7_fillRow_82 ?_
        refine w_iast rfl (up_in hx (by omega)) dX7_fillRow_83 (fun J83 hJ83 => ?_)
        refine r_iinc (j := 3) (lv' := fun z => [(4, .int z), (2, .int x2_66), (3, .int x3_57), (5, .int x5_48), (0, .ref 84), (1, .int (nI k))]) dX7_fillRow_84 rfl (Nat.le_of_ble_eq_true rfl) (fun _ => rfl) (fun x4_84 ex4_84 => ?_)
        refine r_goto (tgt := 19) dX7_fillRow_87 (by decide) ?_
        refine r_lvs [(4, .int x4_84), (3, .int x3_57), (2, .int x2_66), (0, .ref 84), (1, .int (nI k))] [0, 2, 1, 4, 5] rfl ?_
        have em2 : x3_57 = (flS (I 91) (outI I) P k (i + 1)).2 := by rw [ex3_57]; exact congrFun (congrFun eo _) _
        have el2 : x2_66 = nI (flS (I 91) (outI I) P k (i + 1)).1 := by rw [ex2_66, ex5_48, s8_clr _ hlt _ hp1]; rfl
        refine ih (i + 1) (by omega) _ _ _ _ ?_ el2 em2 (by rw [ex4_84]; exact i_inc hx (by omega))
        rw [hJ83, hJ75, cx, em2, ex5_48, eJ, ← fl_s]
        rfl
theorem k_X7_fillRow {k : Nat} (hk : k ≤ 8) (hP : I 84 7 = nI P) (h8 : P ≤ 8) (r0 : 0 ≤ (I 84 8).toInt) (r5 : (I 84 8).toInt ≤ 5) : Con sc mX7_fillRow 3 0 0 [.ref 84, .int (nI k)] (XW I L tg) (rV (XW (flI I P k k) L tg)) := by
  refine Con_of (by decide) (Nat.le_of_ble_eq_true rfl) ?_
  have hp1 := p2_1 P h8
  refine r_iconst (v := 1) rfl dX7_fillRow_0 ?_
  refine r_aload_n (j := 0) rfl rfl dX7_fillRow_1 ?_
  refine w_getI fX7_37 rfl dX7_fillRow_2 ?_
  refine r_ishl dX7_fillRow_5 ?_
  refine r_iconst (v := 1) rfl dX7_fillRow_6 ?_
  refine r_isub dX7_fillRow_7 ?_
  refine r_istore_n (lv' := fun z => [(2, .int z), (0, .ref 84), (1, .int (nI k))]) dX7_fillRow_8 rfl (Nat.le_of_ble_eq_true rfl) (fun _ => rfl) (fun x2_8 ex2_8 => ?_)
  refine r_iconst (v := 0) rfl dX7_fillRow_9 ?_
  refine r_istore_n (lv' := fun z => [(3, .int z), (2, .int x2_8), (0, .ref 84), (1, .int (nI k))]) dX7_fillRow_10 rfl (Nat.le_of_ble_eq_true rfl) (fun _ => rfl) (fun x3_10 ex3_10 => ?_)
  refine r_aload_n (j := 2) rfl rfl dX7_fillRow_11 ?_
  refine r_iload_n (j := 3) rfl rfl dX7_fillRow_12 ?_
  refine w_putI fX7_33 rfl (rfl) (rfl) dX7_fillRow_13 (fun J13 hJ13 => ?_)
  refine r_iconst (v := 0) rfl dX7_fillRow_16 ?_
  refine r_istore (lv' := fun z => [(4, .int z), (3, .int x3_10), (2, .int x2_8), (0, .ref 84), (1, .int (nI k))]) dX7_fillRow_17 (Nat.le_of_ble_eq_true rfl) (fun _ => rfl) (fun x4_17 ex4_17 => ?_)
  refine l_X7_fillRow hk hP h8 r0 r5 _ 0 (Nat.zero_add _) _ _ _ _ ?_ ?_ (by rw [ex3_10]; rfl) (by rw [ex4_17]; rfl)
  · rw [hJ13]
    unfold flI
    rw [prf_0, prf_0]
    funext q
    by_cases h1 : q = 88
    · subst h1; simp [up_eq, upr_eq]
    · by_cases h2 : q = 89
      · subst h2; simp [up_eq, upr_eq]
      · simp [upr_eq, h1, h2]
  · rw [ex2_8, hP, s8_one P (by omega)]
    show nI (2 ^ P) - 1 = nI (2 ^ P - 1)
    obtain ⟨j, hj⟩ : ∃ j, 2 ^ P = j + 1 := ⟨2 ^ P - 1, by omega⟩
    rw [hj, nI_pred]
    rfl
/-- the most, and when they are done, of the sets up to s -/
def fbS (e : Nat → Int32) (lim : Int32) : Nat → Nat × Int32
  | 0 => (0, 0)
  | s + 1 => if e (s + 1) ≤ lim ∧ ((fbS e lim s).1 < pop (s + 1) ∨ pop (s + 1) = (fbS e lim s).1 ∧ e (s + 1) < (fbS e lim s).2) then (pop (s + 1), e (s + 1)) else fbS e lim s
theorem pop_le : ∀ s, s < 256 → pop s ≤ 8 := by decide +kernel
theorem fb_le {e : Nat → Int32} {lim : Int32} : ∀ s, s < 256 → (fbS e lim s).1 ≤ 8 := by
  intro s
  induction s with
  | zero => intro _; exact Nat.zero_le _
  | succ s ih =>
    intro h
    rw [fbS]
    split
    · exact pop_le _ h
    · exact ih (by omega)
/-- what is there behind best -/
def bsI (I : Is) (P : Nat) (lim : Int32) : Is := flI (upr (upr I 90 (erT (outI I) P (I 90) (2 ^ P))) 91 (laT (befI I) P (fbS (erT (outI I) P (I 90) (2 ^ P)) lim (2 ^ P - 1)).2 (I 91) (2 ^ P))) P (fbS (erT (outI I) P (I 90) (2 ^ P)) lim (2 ^ P - 1)).1 (fbS (erT (outI I) P (I 90) (2 ^ P)) lim (2 ^ P - 1)).1
theorem l_X7_findBest {E : Nat → Int32} {lim : Int32} (hP : I 84 7 = nI P) (h8 : P ≤ 8) (r0 : 0 ≤ (I 84 8).toInt) (r5 : (I 84 8).toInt ≤ 5) : ∀ n i : Nat, i + n = 2 ^ P - 1 → ∀ a b x : Int32, a = nI (fbS E lim i).1 → b = (fbS E lim i).2 → x.toInt = ((i + 1 : Nat) : Int) → RR sc mX7_findBest 4 0 0 (rI (nI (fbS E lim (2 ^ P - 1)).1) (XW (flI (upr (upr I 90 E) 91 (laT (befI I) P (fbS E lim (2 ^ P - 1)).2 (I 91) (2 ^ P))) P (fbS E lim (2 ^ P - 1)).1 (fbS E lim (2 ^ P - 1)).1) L tg)) 0 0 11 [(4, .int x), (3, .int b), (2, .int a), (0, .ref 84), (1, .int lim)] [] (XW (upr I 90 E) L tg) := by
  have h256 := p2_le P h8
  have hp1 := p2_1 P h8
  have e84 : upr I 90 E 84 = I 84 := upr_n _ _ (by decide)
  have e90 : upr I 90 E 90 = E := upr_s _ _ _
  have e9 : ((1 : Int32) <<< (upr I 90 E 84 7 &&& 31)).toInt = ((2 ^ P : Nat) : Int) := by rw [e84, hP, s8_one P (by omega), nI_toInt (by omega)]
  intro n
  induction n with
  | zero =>
    intro i hi a b x ea eb hx
    have hi2 : i = 2 ^ P - 1 := by omega
    subst hi2
    subst ea eb
    refine r_iload (j := 0) rfl dX7_findBest_11 ?_
    refine r_iconst (v := 1) rfl dX7_findBest_13 ?_
    refine r_aload_n (j := 3) rfl rfl dX7_findBest_14 ?_
    refine w_getI fX7_37 rfl dX7_findBest_15 ?_
    refine r_ishl dX7_findBest_18 ?_
    refine r_icmp_ge (tgt := 92) dX7_findBest_19 (by decide) (fun c19 => ?_) (fun c19 => ?_)
    · refine r_aload_n (j := 3) rfl rfl dX7_findBest_92 ?_
      refine r_iload_n (j := 1) rfl rfl dX7_findBest_93 ?_
      refine w_cV1v (k_X7_reckonLatest (P := P) (by rw [e84]; exact hP) h8 (by rw [e84]; exact r0) (by rw [e84]; exact r5)) (Nat.le_of_ble_eq_true rfl) lX7_67 vmX7_reckonLatest rfl (Nat.le_of_ble_eq_true rfl) (Nat.le_of_ble_eq_true rfl) (Nat.le_of_ble_eq_true rfl) dX7_findBest_94 (fun J94 K94 hJ94 hK94 => ?_)
      subst hK94
      have hb : befI (upr I 90 E) = befI I := by
        unfold befI
        rw [e84, upr_n _ _ (by decide), upr_n _ _ (by decide), upr_n _ _ (by decide)]
      rw [hb, upr_n _ _ (show (91 : Nat) ≠ 90 by decide)] at hJ94
      have f84 : J94 84 = I 84 := by rw [hJ94, upr_n _ _ (by decide), e84]
      refine r_aload_n (j := 3) rfl rfl dX7_findBest_97 ?_
      refine r_iload_n (j := 2) rfl rfl dX7_findBest_98 ?_
      refine w_cV1v (k_X7_fillRow (fb_le _ (by omega)) (by rw [f84]; exact hP) h8 (by rw [f84]; exact r0) (by rw [f84]; exact r5)) (Nat.le_of_ble_eq_true rfl) lX7_71 vmX7_fillRow rfl (Nat.le_of_ble_eq_true rfl) (Nat.le_of_ble_eq_true rfl) (Nat.le_of_ble_eq_true rfl) dX7_findBest_99 (fun J99 K99 hJ99 hK99 => ?_)
      subst hK99
      refine r_iload_n (j := 2) rfl rfl dX7_findBest_102 ?_
      refine w_iret rfl (rfl) (Nat.le_of_ble_eq_true rfl) (Nat.le_of_ble_eq_true rfl) dX7_findBest_103 ?_
      subst hJ99 hJ94; exact ⟨rfl, rfl, rfl, rfl⟩
    · exfalso; ((try simp only [bI_0, bI_1, lc_lt, lc_gt, lc_le, lc_ge, Classical.not_not] at *); (try simp only [i_lt, i_le, i_eq, l_lt, l_le, l_eq, Int32.toInt_toInt64, Int32.reduceToInt, Int64.reduceToInt] at *); omega)
  | succ n ih =>
    intro i hi a b x ea eb hx
    have hq1 : (fbS E lim i).1 ≤ 8 := fb_le _ (by omega)
    have hq2 : pop (i + 1) ≤ 8 := pop_le _ (by omega)
    have hai : a.toInt = ((fbS E lim i).1 : Int) := by rw [ea, nI_toInt (by omega)]
    have cx := cl_of hx
    obtain rfl := x_nI hx
    have h5 : (nI (pop (i + 1))).toInt = (pop (i + 1) : Int) := nI_toInt (by omega)
    refine r_iload (j := 0) rfl dX7_findBest_11 ?_
    refine r_iconst (v := 1) rfl dX7_findBest_13 ?_
    refine r_aload_n (j := 3) rfl rfl dX7_findBest_14 ?_
    refine w_getI fX7_37 rfl dX7_findBest_15 ?_
    refine r_ishl dX7_findBest_18 ?_
    refine r_icmp_ge (tgt := 92) dX7_findBest_19 (by decide) (fun c19 => ?_) (fun c19 => ?_)
    · exfalso; ((try simp only [bI_0, bI_1, lc_lt, lc_gt, lc_le, lc_ge, Classical.not_not] at *); (try simp only [i_lt, i_le, i_eq, l_lt, l_le, l_eq, Int32.toInt_toInt64, Int32.reduceToInt, Int64.reduceToInt] at *); omega)
    · refine r_iload (j := 0) rfl dX7_findBest_22 ?_
      refine w_cS1p (k_J6_bitCount_0f7a4) (Nat.le_of_ble_eq_true rfl) lX7_62 mtJ6_bitCount_0f7a4 (Nat.le_of_ble_eq_true rfl) (Nat.le_of_ble_eq_true rfl) (Nat.le_of_ble_eq_true rfl) dX7_findBest_24 ?_
      refine r_istore (lv' := fun z => [(5, .int z), (4, .int (nI (i+1))), (3, .int b), (2, .int a), (0, .ref 84), (1, .int lim)]) dX7_findBest_27 (Nat.le_of_ble_eq_true rfl) (fun _ => rfl) (fun x5_27 ex5_27 => ?_)
      rw [s8_pop (i + 1) (by omega)] at ex5_27
      refine r_iload (j := 0) rfl dX7_findBest_29 ?_
      refine r_iload_n (j := 3) rfl rfl dX7_findBest_31 ?_
      refine r_icmp_gt (tgt := 52) dX7_findBest_32 (by decide) (fun c32 => ?_) (fun c32 => ?_)
      · refine r_iconst (v := 1) rfl dX7_findBest_52 ?_
        refine r_goto (tgt := 57) dX7_findBest_53 (by decide) ?_
        refine r_istore (lv' := fun z => [(6, .int z), (5, .int x5_27), (4, .int (nI (i+1))), (3, .int b), (2, .int a), (0, .ref 84), (1, .int lim)]) dX7_findBest_57 (Nat.le_of_ble_eq_true rfl) (fun _ => rfl) (fun x6_57 ex6_57 => ?_)
        refine r_aload_n (j := 5) rfl rfl dX7_findBest_59 ?_
        refine w_getR (b := 90) fX7_27 rfl rfl dX7_findBest_60 ?_
        refine r_iload (j := 2) rfl dX7_findBest_63 ?_
        refine w_iald rfl (up_in hx (by omega)) dX7_findBest_65 ?_
        refine r_iload_n (j := 6) rfl rfl dX7_findBest_66 ?_
        refine r_icmp_gt (tgt := 86) dX7_findBest_67 (by decide) (fun c67 => ?_) (fun c67 => ?_)
        · refine r_iinc (j := 2) (lv' := fun z => [(4, .int z), (6, .int x6_57), (5, .int x5_27), (3, .int b), (2, .int a), (0, .ref 84), (1, .int lim)]) dX7_findBest_86 rfl (Nat.le_of_ble_eq_true rfl) (fun _ => rfl) (fun x4_86 ex4_86 => ?_)
          refine r_goto (tgt := 11) dX7_findBest_89 (by decide) ?_
          refine r_lvs [(4, .int x4_86), (3, .int b), (2, .int a), (0, .ref 84), (1, .int lim)] [0, 3, 4, 5, 6] rfl ?_
          (try rw [e90, cx] at c49)
          rw [e90, cx] at c67
          (try rw [e90, cx] at ex3_85)
          subst eb
          first
          | (have hT : E (i + 1) ≤ lim ∧ ((fbS E lim i).1 < pop (i + 1) ∨ pop (i + 1) = (fbS E lim i).1 ∧ E (i + 1) < (fbS E lim i).2) := (by ((try simp only [bI_0, bI_1, lc_lt, lc_gt, lc_le, lc_ge, Classical.not_not] at *); (try simp only [i_lt, i_le, i_eq, l_lt, l_le, l_eq, Int32.toInt_toInt64, Int32.reduceToInt, Int64.reduceToInt] at *); omega))
             exact ih (i + 1) (by omega) _ _ _ (by rw [fbS, if_pos hT, ex2_77, ex5_27]) (by rw [fbS, if_pos hT, ex3_85]) (by rw [ex4_86]; exact i_inc hx (by omega)))
          | (have hT : ¬ (E (i + 1) ≤ lim ∧ ((fbS E lim i).1 < pop (i + 1) ∨ pop (i + 1) = (fbS E lim i).1 ∧ E (i + 1) < (fbS E lim i).2)) := (by ((try simp only [bI_0, bI_1, lc_lt, lc_gt, lc_le, lc_ge, Classical.not_not] at *); (try simp only [i_lt, i_le, i_eq, l_lt, l_le, l_eq, Int32.toInt_toInt64, Int32.reduceToInt, Int64.reduceToInt] at *); omega))
             exact ih (i + 1) (by omega) _ _ _ (by rw [fbS, if_neg hT]; exact ea) (by rw [fbS, if_neg hT]) (by rw [ex4_86]; exact i_inc hx (by omega)))
          | (exfalso; ((try simp only [bI_0, bI_1, lc_lt, lc_gt, lc_le, lc_ge, Classical.not_not] at *); (try simp only [i_lt, i_le, i_eq, l_lt, l_le, l_eq, Int32.toInt_toInt64, Int32.reduceToInt, Int64.reduceToInt] at *); omega))
        · refine r_iload (j := 0) rfl dX7_findBest_70 ?_
          refine r_if_eq (tgt := 86) dX7_findBest_72 (by decide) (fun c72 => ?_) (fun c72 => ?_)
          · refine r_iinc (j := 2) (lv' := fun z => [(4, .int z), (6, .int x6_57), (5, .int x5_27), (3, .int b), (2, .int a), (0, .ref 84), (1, .int lim)]) dX7_findBest_86 rfl (Nat.le_of_ble_eq_true rfl) (fun _ => rfl) (fun x4_86 ex4_86 => ?_)
            refine r_goto (tgt := 11) dX7_findBest_89 (by decide) ?_
            refine r_lvs [(4, .int x4_86), (3, .int b), (2, .int a), (0, .ref 84), (1, .int lim)] [0, 3, 4, 5, 6] rfl ?_
            (try rw [e90, cx] at c49)
            rw [e90, cx] at c67
            (try rw [e90, cx] at ex3_85)
            subst eb
            first
            | (have hT : E (i + 1) ≤ lim ∧ ((fbS E lim i).1 < pop (i + 1) ∨ pop (i + 1) = (fbS E lim i).1 ∧ E (i + 1) < (fbS E lim i).2) := (by ((try simp only [bI_0, bI_1, lc_lt, lc_gt, lc_le, lc_ge, Classical.not_not] at *); (try simp only [i_lt, i_le, i_eq, l_lt, l_le, l_eq, Int32.toInt_toInt64, Int32.reduceToInt, Int64.reduceToInt] at *); omega))
               exact ih (i + 1) (by omega) _ _ _ (by rw [fbS, if_pos hT, ex2_77, ex5_27]) (by rw [fbS, if_pos hT, ex3_85]) (by rw [ex4_86]; exact i_inc hx (by omega)))
            | (have hT : ¬ (E (i + 1) ≤ lim ∧ ((fbS E lim i).1 < pop (i + 1) ∨ pop (i + 1) = (fbS E lim i).1 ∧ E (i + 1) < (fbS E lim i).2)) := (by ((try simp only [bI_0, bI_1, lc_lt, lc_gt, lc_le, lc_ge, Classical.not_not] at *); (try simp only [i_lt, i_le, i_eq, l_lt, l_le, l_eq, Int32.toInt_toInt64, Int32.reduceToInt, Int64.reduceToInt] at *); omega))
               exact ih (i + 1) (by omega) _ _ _ (by rw [fbS, if_neg hT]; exact ea) (by rw [fbS, if_neg hT]) (by rw [ex4_86]; exact i_inc hx (by omega)))
            | (exfalso; ((try simp only [bI_0, bI_1, lc_lt, lc_gt, lc_le, lc_ge, Classical.not_not] at *); (try simp only [i_lt, i_le, i_eq, l_lt, l_le, l_eq, Int32.toInt_toInt64, Int32.reduceToInt, Int64.reduceToInt] at *); omega))
          · refine r_iload (j := 1) rfl dX7_findBest_75 ?_
            refine r_istore_n (lv' := fun z => [(2, .int z), (6, .int x6_57), (5, .int x5_27), (4, .int (nI (i+1))), (3, .int b), (0, .ref 84), (1, .int lim)]) dX7_findBest_77 rfl (Nat.le_of_ble_eq_true rfl) (fun _ => rfl) (fun x2_77 ex2_77 => ?_)
            refine r_aload_n (j := 5) rfl rfl dX7_findBest_78 ?_
            refine w_getR (b := 90) fX7_27 rfl rfl dX7_findBest_79 ?_
            refine r_iload (j := 3) rfl dX7_findBest_82 ?_
            refine w_iald rfl (up_in hx (by omega)) dX7_findBest_84 ?_
            refine r_istore_n (lv' := fun z => [(3, .int z), (2, .int x2_77), (6, .int x6_57), (5, .int x5_27), (4, .int (nI (i+1))), (0, .ref 84), (1, .int lim)]) dX7_findBest_85 rfl (Nat.le_of_ble_eq_true rfl) (fun _ => rfl) (fun x3_85 ex3_85 => ?_)
            refine r_iinc (j := 4) (lv' := fun z => [(4, .int z), (3, .int x3_85), (2, .int x2_77), (6, .int x6_57), (5, .int x5_27), (0, .ref 84), (1, .int lim)]) dX7_findBest_86 rfl (Nat.le_of_ble_eq_true rfl) (fun _ => rfl) (fun x4_86 ex4_86 => ?_)
            refine r_goto (tgt := 11) dX7_findBest_89 (by decide) ?_
            refine r_lvs [(4, .int x4_86), (3, .int x3_85), (2, .int x2_77), (0, .ref 84), (1, .int lim)] [0, 1, 2, 5, 6] rfl ?_
            (try rw [e90, cx] at c49)
            rw [e90, cx] at c67
            (try rw [e90, cx] at ex3_85)
            subst eb
            first
            | (have hT : E (i + 1) ≤ lim ∧ ((fbS E lim i).1 < pop (i + 1) ∨ pop (i + 1) = (fbS E lim i).1 ∧ E (i + 1) < (fbS E lim i).2) := (by ((try simp only [bI_0, bI_1, lc_lt, lc_gt, lc_le, lc_ge, Classical.not_not] at *); (try simp only [i_lt, i_le, i_eq, l_lt, l_le, l_eq, Int32.toInt_toInt64, Int32.reduceToInt, Int64.reduceToInt] at *); omega))
               exact ih (i + 1) (by omega) _ _ _ (by rw [fbS, if_pos hT, ex2_77, ex5_27]) (by rw [fbS, if_pos hT, ex3_85]) (by rw [ex4_86]; exact i_inc hx (by omega)))
            | (have hT : ¬ (E (i + 1) ≤ lim ∧ ((fbS E lim i).1 < pop (i + 1) ∨ pop (i + 1) = (fbS E lim i).1 ∧ E (i + 1) < (fbS E lim i).2)) := (by ((try simp only [bI_0, bI_1, lc_lt, lc_gt, lc_le, lc_ge, Classical.not_not] at *); (try simp only [i_lt, i_le, i_eq, l_lt, l_le, l_eq, Int32.toInt_toInt64, Int32.reduceToInt, Int64.reduceToInt] at *); omega))
               exact ih (i + 1) (by omega) _ _ _ (by rw [fbS, if_neg hT]; exact ea) (by rw [fbS, if_neg hT]) (by rw [ex4_86]; exact i_inc hx (by omega)))
            | (exfalso; ((try simp only [bI_0, bI_1, lc_lt, lc_gt, lc_le, lc_ge, Classical.not_not] at *); (try simp only [i_lt, i_le, i_eq, l_lt, l_le, l_eq, Int32.toInt_toInt64, Int32.reduceToInt, Int64.reduceToInt] at *); omega))
      · refine r_iload (j := 0) rfl dX7_findBest_35 ?_
        refine r_iload_n (j := 3) rfl rfl dX7_findBest_37 ?_
        refine r_icmp_ne (tgt := 56) dX7_findBest_38 (by decide) (fun c38 => ?_) (fun c38 => ?_)
        · refine r_iconst (v := 0) rfl dX7_findBest_56 ?_
          refine r_istore (lv' := fun z => [(6, .int z), (5, .int x5_27), (4, .int (nI (i+1))), (3, .int b), (2, .int a), (0, .ref 84), (1, .int lim)]) dX7_findBest_57 (Nat.le_of_ble_eq_true rfl) (fun _ => rfl) (fun x6_57 ex6_57 => ?_)
          refine r_aload_n (j := 5) rfl rfl dX7_findBest_59 ?_
          refine w_getR (b := 90) fX7_27 rfl rfl dX7_findBest_60 ?_
          refine r_iload (j := 2) rfl dX7_findBest_63 ?_
          refine w_iald rfl (up_in hx (by omega)) dX7_findBest_65 ?_
          refine r_iload_n (j := 6) rfl rfl dX7_findBest_66 ?_
          refine r_icmp_gt (tgt := 86) dX7_findBest_67 (by decide) (fun c67 => ?_) (fun c67 => ?_)
          · refine r_iinc (j := 2) (lv' := fun z => [(4, .int z), (6, .int x6_57), (5, .int x5_27), (3, .int b), (2, .int a), (0, .ref 84), (1, .int lim)]) dX7_findBest_86 rfl (Nat.le_of_ble_eq_true rfl) (fun _ => rfl) (fun x4_86 ex4_86 => ?_)
            refine r_goto (tgt := 11) dX7_findBest_89 (by decide) ?_
            refine r_lvs [(4, .int x4_86), (3, .int b), (2, .int a), (0, .ref 84), (1, .int lim)] [0, 3, 4, 5, 6] rfl ?_
            (try rw [e90, cx] at c49)
            rw [e90, cx] at c67
            (try rw [e90, cx] at ex3_85)
            subst eb
            first
            | (have hT : E (i + 1) ≤ lim ∧ ((fbS E lim i).1 < pop (i + 1) ∨ pop (i + 1) = (fbS E lim i).1 ∧ E (i + 1) < (fbS E lim i).2) := (by ((try simp only [bI_0, bI_1, lc_lt, lc_gt, lc_le, lc_ge, Classical.not_not] at *); (try simp only [i_lt, i_le, i_eq, l_lt, l_le, l_eq, Int32.toInt_toInt64, Int32.reduceToInt, Int64.reduceToInt] at *); omega))
               exact ih (i + 1) (by omega) _ _ _ (by rw [fbS, if_pos hT, ex2_77, ex5_27]) (by rw [fbS, if_pos hT, ex3_85]) (by rw [ex4_86]; exact i_inc hx (by omega)))
            | (have hT : ¬ (E (i + 1) ≤ lim ∧ ((fbS E lim i).1 < pop (i + 1) ∨ pop (i + 1) = (fbS E lim i).1 ∧ E (i + 1) < (fbS E lim i).2)) := (by ((try simp only [bI_0, bI_1, lc_lt, lc_gt, lc_le, lc_ge, Classical.not_not] at *); (try simp only [i_lt, i_le, i_eq, l_lt, l_le, l_eq, Int32.toInt_toInt64, Int32.reduceToInt, Int64.reduceToInt] at *); omega))
               exact ih (i + 1) (by omega) _ _ _ (by rw [fbS, if_neg hT]; exact ea) (by rw [fbS, if_neg hT]) (by rw [ex4_86]; exact i_inc hx (by omega)))
            | (exfalso; ((try simp only [bI_0, bI_1, lc_lt, lc_gt, lc_le, lc_ge, Classical.not_not] at *); (try simp only [i_lt, i_le, i_eq, l_lt, l_le, l_eq, Int32.toInt_toInt64, Int32.reduceToInt, Int64.reduceToInt] at *); omega))
          · refine r_iload (j := 0) rfl dX7_findBest_70 ?_
            refine r_if_eq (tgt := 86) dX7_findBest_72 (by decide) (fun c72 => ?_) (fun c72 => ?_)
            · refine r_iinc (j := 2) (lv' := fun z => [(4, .int z), (6, .int x6_57), (5, .int x5_27), (3, .int b), (2, .int a), (0, .ref 84), (1, .int lim)]) dX7_findBest_86 rfl (Nat.le_of_ble_eq_true rfl) (fun _ => rfl) (fun x4_86 ex4_86 => ?_)
              refine r_goto (tgt := 11) dX7_findBest_89 (by decide) ?_
              refine r_lvs [(4, .int x4_86), (3, .int b), (2, .int a), (0, .ref 84), (1, .int lim)] [0, 3, 4, 5, 6] rfl ?_
              (try rw [e90, cx] at c49)
              rw [e90, cx] at c67
              (try rw [e90, cx] at ex3_85)
              subst eb
              first
              | (have hT : E (i + 1) ≤ lim ∧ ((fbS E lim i).1 < pop (i + 1) ∨ pop (i + 1) = (fbS E lim i).1 ∧ E (i + 1) < (fbS E lim i).2) := (by ((try simp only [bI_0, bI_1, lc_lt, lc_gt, lc_le, lc_ge, Classical.not_not] at *); (try simp only [i_lt, i_le, i_eq, l_lt, l_le, l_eq, Int32.toInt_toInt64, Int32.reduceToInt, Int64.reduceToInt] at *); omega))
                 exact ih (i + 1) (by omega) _ _ _ (by rw [fbS, if_pos hT, ex2_77, ex5_27]) (by rw [fbS, if_pos hT, ex3_85]) (by rw [ex4_86]; exact i_inc hx (by omega)))
              | (have hT : ¬ (E (i + 1) ≤ lim ∧ ((fbS E lim i).1 < pop (i + 1) ∨ pop (i + 1) = (fbS E lim i).1 ∧ E (i + 1) < (fbS E lim i).2)) := (by ((try simp only [bI_0, bI_1, lc_lt, lc_gt, lc_le, lc_ge, Classical.not_not] at *); (try simp only [i_lt, i_le, i_eq, l_lt, l_le, l_eq, Int32.toInt_toInt64, Int32.reduceToInt, Int64.reduceToInt] at *); omega))
                 exact ih (i + 1) (by omega) _ _ _ (by rw [fbS, if_neg hT]; exact ea) (by rw [fbS, if_neg hT]) (by rw [ex4_86]; exact i_inc hx (by omega)))
              | (exfalso; ((try simp only [bI_0, bI_1, lc_lt, lc_gt, lc_le, lc_ge, Classical.not_not] at *); (try simp only [i_lt, i_le, i_eq, l_lt, l_le, l_eq, Int32.toInt_toInt64, Int32.reduceToInt, Int64.reduceToInt] at *); omega))
            · refine r_iload (j := 1) rfl dX7_findBest_75 ?_
              refine r_istore_n (lv' := fun z => [(2, .int z), (6, .int x6_57), (5, .int x5_27), (4, .int (nI (i+1))), (3, .int b), (0, .ref 84), (1, .int lim)]) dX7_findBest_77 rfl (Nat.le_of_ble_eq_true rfl) (fun _ => rfl) (fun x2_77 ex2_77 => ?_)
              refine r_aload_n (j := 5) rfl rfl dX7_findBest_78 ?_
              refine w_getR (b := 90) fX7_27 rfl rfl dX7_findBest_79 ?_
              refine r_iload (j := 3) rfl dX7_findBest_82 ?_
              refine w_iald rfl (up_in hx (by omega)) dX7_findBest_84 ?_
              refine r_istore_n (lv' := fun z => [(3, .int z), (2, .int x2_77), (6, .int x6_57), (5, .int x5_27), (4, .int (nI (i+1))), (0, .ref 84), (1, .int lim)]) dX7_findBest_85 rfl (Nat.le_of_ble_eq_true rfl) (fun _ => rfl) (fun x3_85 ex3_85 => ?_)
              refine r_iinc (j := 4) (lv' := fun z => [(4, .int z), (3, .int x3_85), (2, .int x2_77), (6, .int x6_57), (5, .int x5_27), (0, .ref 84), (1, .int lim)]) dX7_findBest_86 rfl (Nat.le_of_ble_eq_true rfl) (fun _ => rfl) (fun x4_86 ex4_86 => ?_)
              refine r_goto (tgt := 11) dX7_findBest_89 (by decide) ?_
              refine r_lvs [(4, .int x4_86), (3, .int x3_85), (2, .int x2_77), (0, .ref 84), (1, .int lim)] [0, 1, 2, 5, 6] rfl ?_
              (try rw [e90, cx] at c49)
              rw [e90, cx] at c67
              (try rw [e90, cx] at ex3_85)
              subst eb
              first
              | (have hT : E (i + 1) ≤ lim ∧ ((fbS E lim i).1 < pop (i + 1) ∨ pop (i + 1) = (fbS E lim i).1 ∧ E (i + 1) < (fbS E lim i).2) := (by ((try simp only [bI_0, bI_1, lc_lt, lc_gt, lc_le, lc_ge, Classical.not_not] at *); (try simp only [i_lt, i_le, i_eq, l_lt, l_le, l_eq, Int32.toInt_toInt64, Int32.reduceToInt, Int64.reduceToInt] at *); omega))
                 exact ih (i + 1) (by omega) _ _ _ (by rw [fbS, if_pos hT, ex2_77, ex5_27]) (by rw [fbS, if_pos hT, ex3_85]) (by rw [ex4_86]; exact i_inc hx (by omega)))
              | (have hT : ¬ (E (i + 1) ≤ lim ∧ ((fbS E lim i).1 < pop (i + 1) ∨ pop (i + 1) = (fbS E lim i).1 ∧ E (i + 1) < (fbS E lim i).2)) := (by ((try simp only [bI_0, bI_1, lc_lt, lc_gt, lc_le, lc_ge, Classical.not_not] at *); (try simp only [i_lt, i_le, i_eq, l_lt, l_le, l_eq, Int32.toInt_toInt64, Int32.reduceToInt, Int64.reduceToInt] at *); omega))
                 exact ih (i + 1) (by omega) _ _ _ (by rw [fbS, if_neg hT]; exact ea) (by rw [fbS, if_neg hT]) (by rw [ex4_86]; exact i_inc hx (by omega)))
              | (exfalso; ((try simp only [bI_0, bI_1, lc_lt, lc_gt, lc_le, lc_ge, Classical.not_not] at *); (try simp only [i_lt, i_le, i_eq, l_lt, l_le, l_eq, Int32.toInt_toInt64, Int32.reduceToInt, Int64.reduceToInt] at *); omega))
        · refine r_aload_n (j := 4) rfl rfl dX7_findBest_41 ?_
          refine w_getR (b := 90) fX7_27 rfl rfl dX7_findBest_42 ?_
          refine r_iload (j := 1) rfl dX7_findBest_45 ?_
          refine w_iald rfl (up_in hx (by omega)) dX7_findBest_47 ?_
          refine r_iload_n (j := 2) rfl rfl dX7_findBest_48 ?_
          refine r_icmp_ge (tgt := 56) dX7_findBest_49 (by decide) (fun c49 => ?_) (fun c49 => ?_)
          · refine r_iconst (v := 0) rfl dX7_findBest_56 ?_
            refine r_istore (lv' := fun z => [(6, .int z), (5, .int x5_27), (4, .int (nI (i+1))), (3, .int b), (2, .int a), (0, .ref 84), (1, .int lim)]) dX7_findBest_57 (Nat.le_of_ble_eq_true rfl) (fun _ => rfl) (fun x6_57 ex6_57 => ?_)
            refine r_aload_n (j := 5) rfl rfl dX7_findBest_59 ?_
            refine w_getR (b := 90) fX7_27 rfl rfl dX7_findBest_60 ?_
            refine r_iload (j := 2) rfl dX7_findBest_63 ?_
            refine w_iald rfl (up_in hx (by omega)) dX7_findBest_65 ?_
            refine r_iload_n (j := 6) rfl rfl dX7_findBest_66 ?_
            refine r_icmp_gt (tgt := 86) dX7_findBest_67 (by decide) (fun c67 => ?_) (fun c67 => ?_)
            · refine r_iinc (j := 2) (lv' := fun z => [(4, .int z), (6, .int x6_57), (5, .int x5_27), (3, .int b), (2, .int a), (0, .ref 84), (1, .int lim)]) dX7_findBest_86 rfl (Nat.le_of_ble_eq_true rfl) (fun _ => rfl) (fun x4_86 ex4_86 => ?_)
              refine r_goto (tgt := 11) dX7_findBest_89 (by decide) ?_
              refine r_lvs [(4, .int x4_86), (3, .int b), (2, .int a), (0, .ref 84), (1, .int lim)] [0, 3, 4, 5, 6] rfl ?_
              (try rw [e90, cx] at c49)
              rw [e90, cx] at c67
              (try rw [e90, cx] at ex3_85)
              subst eb
              first
              | (have hT : E (i + 1) ≤ lim ∧ ((fbS E lim i).1 < pop (i + 1) ∨ pop (i + 1) = (fbS E lim i).1 ∧ E (i + 1) < (fbS E lim i).2) := (by ((try simp only [bI_0, bI_1, lc_lt, lc_gt, lc_le, lc_ge, Classical.not_not] at *); (try simp only [i_lt, i_le, i_eq, l_lt, l_le, l_eq, Int32.toInt_toInt64, Int32.reduceToInt, Int64.reduceToInt] at *); omega))
                 exact ih (i + 1) (by omega) _ _ _ (by rw [fbS, if_pos hT, ex2_77, ex5_27]) (by rw [fbS, if_pos hT, ex3_85]) (by rw [ex4_86]; exact i_inc hx (by omega)))
              | (have hT : ¬ (E (i + 1) ≤ lim ∧ ((fbS E lim i).1 < pop (i + 1) ∨ pop (i + 1) = (fbS E lim i).1 ∧ E (i + 1) < (fbS E lim i).2)) := (by ((try simp only [bI_0, bI_1, lc_lt, lc_gt, lc_le, lc_ge, Classical.not_not] at *); (try simp only [i_lt, i_le, i_eq, l_lt, l_le, l_eq, Int32.toInt_toInt64, Int32.reduceToInt, Int64.reduceToInt] at *); omega))
                 exact ih (i + 1) (by omega) _ _ _ (by rw [fbS, if_neg hT]; exact ea) (by rw [fbS, if_neg hT]) (by rw [ex4_86]; exact i_inc hx (by omega)))
              | (exfalso; ((try simp only [bI_0, bI_1, lc_lt, lc_gt, lc_le, lc_ge, Classical.not_not] at *); (try simp only [i_lt, i_le, i_eq, l_lt, l_le, l_eq, Int32.toInt_toInt64, Int32.reduceToInt, Int64.reduceToInt] at *); omega))
            · refine r_iload (j := 0) rfl dX7_findBest_70 ?_
              refine r_if_eq (tgt := 86) dX7_findBest_72 (by decide) (fun c72 => ?_) (fun c72 => ?_)
              · refine r_iinc (j := 2) (lv' := fun z => [(4, .int z), (6, .int x6_57), (5, .int x5_27), (3, .int b), (2, .int a), (0, .ref 84), (1, .int lim)]) dX7_findBest_86 rfl (Nat.le_of_ble_eq_true rfl) (fun _ => rfl) (fun x4_86 ex4_86 => ?_)
                refine r_goto (tgt := 11) dX7_findBest_89 (by decide) ?_
                refine r_lvs [(4, .int x4_86), (3, .int b), (2, .int a), (0, .ref 84), (1, .int lim)] [0, 3, 4, 5, 6] rfl ?_
                (try rw [e90, cx] at c49)
                rw [e90, cx] at c67
                (try rw [e90, cx] at ex3_85)
                subst eb
                first
                | (have hT : E (i + 1) ≤ lim ∧ ((fbS E lim i).1 < pop (i + 1) ∨ pop (i + 1) = (fbS E lim i).1 ∧ E (i + 1) < (fbS E lim i).2) := (by ((try simp only [bI_0, bI_1, lc_lt, lc_gt, lc_le, lc_ge, Classical.not_not] at *); (try simp only [i_lt, i_le, i_eq, l_lt, l_le, l_eq, Int32.toInt_toInt64, Int32.reduceToInt, Int64.reduceToInt] at *); omega))
                   exact ih (i + 1) (by omega) _ _ _ (by rw [fbS, if_pos hT, ex2_77, ex5_27]) (by rw [fbS, if_pos hT, ex3_85]) (by rw [ex4_86]; exact i_inc hx (by omega)))
                | (have hT : ¬ (E (i + 1) ≤ lim ∧ ((fbS E lim i).1 < pop (i + 1) ∨ pop (i + 1) = (fbS E lim i).1 ∧ E (i + 1) < (fbS E lim i).2)) := (by ((try simp only [bI_0, bI_1, lc_lt, lc_gt, lc_le, lc_ge, Classical.not_not] at *); (try simp only [i_lt, i_le, i_eq, l_lt, l_le, l_eq, Int32.toInt_toInt64, Int32.reduceToInt, Int64.reduceToInt] at *); omega))
                   exact ih (i + 1) (by omega) _ _ _ (by rw [fbS, if_neg hT]; exact ea) (by rw [fbS, if_neg hT]) (by rw [ex4_86]; exact i_inc hx (by omega)))
                | (exfalso; ((try simp only [bI_0, bI_1, lc_lt, lc_gt, lc_le, lc_ge, Classical.not_not] at *); (try simp only [i_lt, i_le, i_eq, l_lt, l_le, l_eq, Int32.toInt_toInt64, Int32.reduceToInt, Int64.reduceToInt] at *); omega))
              · refine r_iload (j := 1) rfl dX7_findBest_75 ?_
                refine r_istore_n (lv' := fun z => [(2, .int z), (6, .int x6_57), (5, .int x5_27), (4, .int (nI (i+1))), (3, .int b), (0, .ref 84), (1, .int lim)]) dX7_findBest_77 rfl (Nat.le_of_ble_eq_true rfl) (fun _ => rfl) (fun x2_77 ex2_77 => ?_)
                refine r_aload_n (j := 5) rfl rfl dX7_findBest_78 ?_
                refine w_getR (b := 90) fX7_27 rfl rfl dX7_findBest_79 ?_
                refine r_iload (j := 3) rfl dX7_findBest_82 ?_
                refine w_iald rfl (up_in hx (by omega)) dX7_findBest_84 ?_
                refine r_istore_n (lv' := fun z => [(3, .int z), (2, .int x2_77), (6, .int x6_57), (5, .int x5_27), (4, .int (nI (i+1))), (0, .ref 84), (1, .int lim)]) dX7_findBest_85 rfl (Nat.le_of_ble_eq_true rfl) (fun _ => rfl) (fun x3_85 ex3_85 => ?_)
                refine r_iinc (j := 4) (lv' := fun z => [(4, .int z), (3, .int x3_85), (2, .int x2_77), (6, .int x6_57), (5, .int x5_27), (0, .ref 84), (1, .int lim)]) dX7_findBest_86 rfl (Nat.le_of_ble_eq_true rfl) (fun _ => rfl) (fun x4_86 ex4_86 => ?_)
                refine r_goto (tgt := 11) dX7_findBest_89 (by decide) ?_
                refine r_lvs [(4, .int x4_86), (3, .int x3_85), (2, .int x2_77), (0, .ref 84), (1, .int lim)] [0, 1, 2, 5, 6] rfl ?_
                (try rw [e90, cx] at c49)
                rw [e90, cx] at c67
                (try rw [e90, cx] at ex3_85)
                subst eb
                first
                | (have hT : E (i + 1) ≤ lim ∧ ((fbS E lim i).1 < pop (i + 1) ∨ pop (i + 1) = (fbS E lim i).1 ∧ E (i + 1) < (fbS E lim i).2) := (by ((try simp only [bI_0, bI_1, lc_lt, lc_gt, lc_le, lc_ge, Classical.not_not] at *); (try simp only [i_lt, i_le, i_eq, l_lt, l_le, l_eq, Int32.toInt_toInt64, Int32.reduceToInt, Int64.reduceToInt] at *); omega))
                   exact ih (i + 1) (by omega) _ _ _ (by rw [fbS, if_pos hT, ex2_77, ex5_27]) (by rw [fbS, if_pos hT, ex3_85]) (by rw [ex4_86]; exact i_inc hx (by omega)))
                | (have hT : ¬ (E (i + 1) ≤ lim ∧ ((fbS E lim i).1 < pop (i + 1) ∨ pop (i + 1) = (fbS E lim i).1 ∧ E (i + 1) < (fbS E lim i).2)) := (by ((try simp only [bI_0, bI_1, lc_lt, lc_gt, lc_le, lc_ge, Classical.not_not] at *); (try simp only [i_lt, i_le, i_eq, l_lt, l_le, l_eq, Int32.toInt_toInt64, Int32.reduceToInt, Int64.reduceToInt] at *); omega))
                   exact ih (i + 1) (by omega) _ _ _ (by rw [fbS, if_neg hT]; exact ea) (by rw [fbS, if_neg hT]) (by rw [ex4_86]; exact i_inc hx (by omega)))
                | (exfalso; ((try simp only [bI_0, bI_1, lc_lt, lc_gt, lc_le, lc_ge, Classical.not_not] at *); (try simp only [i_lt, i_le, i_eq, l_lt, l_le, l_eq, Int32.toInt_toInt64, Int32.reduceToInt, Int64.reduceToInt] at *); omega))
          · refine r_iconst (v := 1) rfl dX7_findBest_52 ?_
            refine r_goto (tgt := 57) dX7_findBest_53 (by decide) ?_
            refine r_istore (lv' := fun z => [(6, .int z), (5, .int x5_27), (4, .int (nI (i+1))), (3, .int b), (2, .int a), (0, .ref 84), (1, .int lim)]) dX7_findBest_57 (Nat.le_of_ble_eq_true rfl) (fun _ => rfl) (fun x6_57 ex6_57 => ?_)
            refine r_aload_n (j := 5) rfl rfl dX7_findBest_59 ?_
            refine w_getR (b := 90) fX7_27 rfl rfl dX7_findBest_60 ?_
            refine r_iload (j := 2) rfl dX7_findBest_63 ?_
            refine w_iald rfl (up_in hx (by omega)) dX7_findBest_65 ?_
            refine r_iload_n (j := 6) rfl rfl dX7_findBest_66 ?_
            refine r_icmp_gt (tgt := 86) dX7_findBest_67 (by decide) (fun c67 => ?_) (fun c67 => ?_)
            · refine r_iinc (j := 2) (lv' := fun z => [(4, .int z), (6, .int x6_57), (5, .int x5_27), (3, .int b), (2, .int a), (0, .ref 84), (1, .int lim)]) dX7_findBest_86 rfl (Nat.le_of_ble_eq_true rfl) (fun _ => rfl) (fun x4_86 ex4_86 => ?_)
              refine r_goto (tgt := 11) dX7_findBest_89 (by decide) ?_
              refine r_lvs [(4, .int x4_86), (3, .int b), (2, .int a), (0, .ref 84), (1, .int lim)] [0, 3, 4, 5, 6] rfl ?_
              (try rw [e90, cx] at c49)
              rw [e90, cx] at c67
              (try rw [e90, cx] at ex3_85)
              subst eb
              first
              | (have hT : E (i + 1) ≤ lim ∧ ((fbS E lim i).1 < pop (i + 1) ∨ pop (i + 1) = (fbS E lim i).1 ∧ E (i + 1) < (fbS E lim i).2) := (by ((try simp only [bI_0, bI_1, lc_lt, lc_gt, lc_le, lc_ge, Classical.not_not] at *); (try simp only [i_lt, i_le, i_eq, l_lt, l_le, l_eq, Int32.toInt_toInt64, Int32.reduceToInt, Int64.reduceToInt] at *); omega))
                 exact ih (i + 1) (by omega) _ _ _ (by rw [fbS, if_pos hT, ex2_77, ex5_27]) (by rw [fbS, if_pos hT, ex3_85]) (by rw [ex4_86]; exact i_inc hx (by omega)))
              | (have hT : ¬ (E (i + 1) ≤ lim ∧ ((fbS E lim i).1 < pop (i + 1) ∨ pop (i + 1) = (fbS E lim i).1 ∧ E (i + 1) < (fbS E lim i).2)) := (by ((try simp only [bI_0, bI_1, lc_lt, lc_gt, lc_le, lc_ge, Classical.not_not] at *); (try simp only [i_lt, i_le, i_eq, l_lt, l_le, l_eq, Int32.toInt_toInt64, Int32.reduceToInt, Int64.reduceToInt] at *); omega))
                 exact ih (i + 1) (by omega) _ _ _ (by rw [fbS, if_neg hT]; exact ea) (by rw [fbS, if_neg hT]) (by rw [ex4_86]; exact i_inc hx (by omega)))
              | (exfalso; ((try simp only [bI_0, bI_1, lc_lt, lc_gt, lc_le, lc_ge, Classical.not_not] at *); (try simp only [i_lt, i_le, i_eq, l_lt, l_le, l_eq, Int32.toInt_toInt64, Int32.reduceToInt, Int64.reduceToInt] at *); omega))
            · refine r_iload (j := 0) rfl dX7_findBest_70 ?_
              refine r_if_eq (tgt := 86) dX7_findBest_72 (by decide) (fun c72 => ?_) (fun c72 => ?_)
              · refine r_iinc (j := 2) (lv' := fun z => [(4, .int z), (6, .int x6_57), (5, .int x5_27), (3, .int b), (2, .int a), (0, .ref 84), (1, .int lim)]) dX7_findBest_86 rfl (Nat.le_of_ble_eq_true rfl) (fun _ => rfl) (fun x4_86 ex4_86 => ?_)
                refine r_goto (tgt := 11) dX7_findBest_89 (by decide) ?_
                refine r_lvs [(4, .int x4_86), (3, .int b), (2, .int a), (0, .ref 84), (1, .int lim)] [0, 3, 4, 5, 6] rfl ?_
                (try rw [e90, cx] at c49)
                rw [e90, cx] at c67
                (try rw [e90, cx] at ex3_85)
                subst eb
                first
                | (have hT : E (i + 1) ≤ lim ∧ ((fbS E lim i).1 < pop (i + 1) ∨ pop (i + 1) = (fbS E lim i).1 ∧ E (i + 1) < (fbS E lim i).2) := (by ((try simp only [bI_0, bI_1, lc_lt, lc_gt, lc_le, lc_ge, Classical.not_not] at *); (try simp only [i_lt, i_le, i_eq, l_lt, l_le, l_eq, Int32.toInt_toInt64, Int32.reduceToInt, Int64.reduceToInt] at *); omega))
                   exact ih (i + 1) (by omega) _ _ _ (by rw [fbS, if_pos hT, ex2_77, ex5_27]) (by rw [fbS, if_pos hT, ex3_85]) (by rw [ex4_86]; exact i_inc hx (by omega)))
                | (have hT : ¬ (E (i + 1) ≤ lim ∧ ((fbS E lim i).1 < pop (i + 1) ∨ pop (i + 1) = (fbS E lim i).1 ∧ E (i + 1) < (fbS E lim i).2)) := (by ((try simp only [bI_0, bI_1, lc_lt, lc_gt, lc_le, lc_ge, Classical.not_not] at *); (try simp only [i_lt, i_le, i_eq, l_lt, l_le, l_eq, Int32.toInt_toInt64, Int32.reduceToInt, Int64.reduceToInt] at *); omega))
                   exact ih (i + 1) (by omega) _ _ _ (by rw [fbS, if_neg hT]; exact ea) (by rw [fbS, if_neg hT]) (by rw [ex4_86]; exact i_inc hx (by omega)))
                | (exfalso; ((try simp only [bI_0, bI_1, lc_lt, lc_gt, lc_le, lc_ge, Classical.not_not] at *); (try simp only [i_lt, i_le, i_eq, l_lt, l_le, l_eq, Int32.toInt_toInt64, Int32.reduceToInt, Int64.reduceToInt] at *); omega))
              · refine r_iload (j := 1) rfl dX7_findBest_75 ?_
                refine r_istore_n (lv' := fun z => [(2, .int z), (6, .int x6_57), (5, .int x5_27), (4, .int (nI (i+1))), (3, .int b), (0, .ref 84), (1, .int lim)]) dX7_findBest_77 rfl (Nat.le_of_ble_eq_true rfl) (fun _ => rfl) (fun x2_77 ex2_77 => ?_)
                refine r_aload_n (j := 5) rfl rfl dX7_findBest_78 ?_
                refine w_getR (b := 90) fX7_27 rfl rfl dX7_findBest_79 ?_
                refine r_iload (j := 3) rfl dX7_findBest_82 ?_
                refine w_iald rfl (up_in hx (by omega)) dX7_findBest_84 ?_
                refine r_istore_n (lv' := fun z => [(3, .int z), (2, .int x2_77), (6, .int x6_57), (5, .int x5_27), (4, .int (nI (i+1))), (0, .ref 84), (1, .int lim)]) dX7_findBest_85 rfl (Nat.le_of_ble_eq_true rfl) (fun _ => rfl) (fun x3_85 ex3_85 => ?_)
                refine r_iinc (j := 4) (lv' := fun z => [(4, .int z), (3, .int x3_85), (2, .int x2_77), (6, .int x6_57), (5, .int x5_27), (0, .ref 84), (1, .int lim)]) dX7_findBest_86 rfl (Nat.le_of_ble_eq_true rfl) (fun _ => rfl) (fun x4_86 ex4_86 => ?_)
                refine r_goto (tgt := 11) dX7_findBest_89 (by decide) ?_
                refine r_lvs [(4, .int x4_86), (3, .int x3_85), (2, .int x2_77), (0, .ref 84), (1, .int lim)] [0, 1, 2, 5, 6] rfl ?_
                (try rw [e90, cx] at c49)
                rw [e90, cx] at c67
                (try rw [e90, cx] at ex3_85)
                subst eb
                first
                | (have hT : E (i + 1) ≤ lim ∧ ((fbS E lim i).1 < pop (i + 1) ∨ pop (i + 1) = (fbS E lim i).1 ∧ E (i + 1) < (fbS E lim i).2) := (by ((try simp only [bI_0, bI_1, lc_lt, lc_gt, lc_le, lc_ge, Classical.not_not] at *); (try simp only [i_lt, i_le, i_eq, l_lt, l_le, l_eq, Int32.toInt_toInt64, Int32.reduceToInt, Int64.reduceToInt] at *); omega))
                   exact ih (i + 1) (by omega) _ _ _ (by rw [fbS, if_pos hT, ex2_77, ex5_27]) (by rw [fbS, if_pos hT, ex3_85]) (by rw [ex4_86]; exact i_inc hx (by omega)))
                | (have hT : ¬ (E (i + 1) ≤ lim ∧ ((fbS E lim i).1 < pop (i + 1) ∨ pop (i + 1) = (fbS E lim i).1 ∧ E (i + 1) < (fbS E lim i).2)) := (by ((try simp only [bI_0, bI_1, lc_lt, lc_gt, lc_le, lc_ge, Classical.not_not] at *); (try simp only [i_lt, i_le, i_eq, l_lt, l_le, l_eq, Int32.toInt_toInt64, Int32.reduceToInt, Int64.reduceToInt] at *); omega))
                   exact ih (i + 1) (by omega) _ _ _ (by rw [fbS, if_neg hT]; exact ea) (by rw [fbS, if_neg hT]) (by rw [ex4_86]; exact i_inc hx (by omega)))
                | (exfalso; ((try simp only [bI_0, bI_1, lc_lt, lc_gt, lc_le, lc_ge, Classical.not_not] at *); (try simp only [i_lt, i_le, i_eq, l_lt, l_le, l_eq, Int32.toInt_toInt64, Int32.reduceToInt, Int64.reduceToInt] at *); omega))
theorem k_X7_findBest {lim : Int32} (hP : I 84 7 = nI P) (h8 : P ≤ 8) (r0 : 0 ≤ (I 84 8).toInt) (r5 : (I 84 8).toInt ≤ 5) : Con sc mX7_findBest 4 0 0 [.ref 84, .int lim] (XW I L tg) (rI (nI (fbS (erT (outI I) P (I 90) (2 ^ P)) lim (2 ^ P - 1)).1) (XW (bsI I P lim) L tg)) := by
  refine Con_of (by decide) (Nat.le_of_ble_eq_true rfl) ?_
  refine r_aload_n (j := 0) rfl rfl dX7_findBest_0 ?_
  refine w_cV0v (k_X7_reckonEarliest hP h8 r0 r5) (Nat.le_of_ble_eq_true rfl) lX7_59 vmX7_reckonEarliest rfl (Nat.le_of_ble_eq_true rfl) (Nat.le_of_ble_eq_true rfl) (Nat.le_of_ble_eq_true rfl) dX7_findBest_1 (fun J1 K1 hJ1 hK1 => ?_)
  subst hK1
  refine r_iconst (v := 0) rfl dX7_findBest_4 ?_
  refine r_istore_n (lv' := fun z => [(2, .int z), (0, .ref 84), (1, .int lim)]) dX7_findBest_5 rfl (Nat.le_of_ble_eq_true rfl) (fun _ => rfl) (fun x2_5 ex2_5 => ?_)
  refine r_iconst (v := 0) rfl dX7_findBest_6 ?_
  refine r_istore_n (lv' := fun z => [(3, .int z), (2, .int x2_5), (0, .ref 84), (1, .int lim)]) dX7_findBest_7 rfl (Nat.le_of_ble_eq_true rfl) (fun _ => rfl) (fun x3_7 ex3_7 => ?_)
  refine r_iconst (v := 1) rfl dX7_findBest_8 ?_
  refine r_istore (lv' := fun z => [(4, .int z), (3, .int x3_7), (2, .int x2_5), (0, .ref 84), (1, .int lim)]) dX7_findBest_9 (Nat.le_of_ble_eq_true rfl) (fun _ => rfl) (fun x4_9 ex4_9 => ?_)
  subst hJ1; exact l_X7_findBest hP h8 r0 r5 _ 0 (Nat.zero_add _) _ _ _ (by rw [ex2_5]; rfl) (by rw [ex3_7]; rfl) (by rw [ex4_9]; rfl)
end Bu
