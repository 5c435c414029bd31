/-! giveTo -/
section
variable {sc : Sc} {I : Is} {L : Ls} {tg : Nat} {G : Gx} {b : Bool}
theorem k_X12_canRun {h o : Int32} {hn on : Nat} (eh : h = nI hn) (eo : o = nI on) (h5 : hn < 5) (o5 : on < 5) : Con sc mX12_canRun 0 0 0 [.ref 95, .int h, .int o] (XW I L tg) (rI (bI (ltr (I 131) hn on ∧ I 106 (5 * hn + on) ≤ I 131 on - I 131 hn)) (XW I L tg)) := by
  subst eh eo
  have eh : (nI hn).toInt = hn := nI_toInt (by omega)
  have eo : (nI on).toInt = on := nI_toInt (by omega)
  have ch := cl_of eh
  have co := cl_of eo
  have hih := up_in eh h5
  have hio := up_in eo o5
  have e5 := hr_ix2 eh h5 eo o5
  refine Con_of (by decide) (Nat.le_of_ble_eq_true rfl) ?_
  refine r_aload_n (j := 0) rfl rfl dX12_canRun_0 ?_
  refine w_getR (b := 131) fX12_285 rfl rfl dX12_canRun_1 ?_
  refine r_iload_n (j := 2) rfl rfl dX12_canRun_4 ?_
  refine w_iald rfl (by first | assumption | (rw [vp_in_iff]; ((try simp only [bI_0, bI_1, lc_lt, lc_gt, lc_le, lc_ge, Classical.not_not] at *); (try simp only [i_lt, i_le, i_eq, l_lt, l_le, l_eq, Int32.toInt_toInt64, Int32.reduceToInt, Int64.reduceToInt] at *); omega))) dX12_canRun_5 ?_
  refine r_aload_n (j := 0) rfl rfl dX12_canRun_6 ?_
  refine w_getR (b := 131) fX12_285 rfl rfl dX12_canRun_7 ?_
  refine r_iload_n (j := 1) rfl rfl dX12_canRun_10 ?_
  refine w_iald rfl (by first | assumption | (rw [vp_in_iff]; ((try simp only [bI_0, bI_1, lc_lt, lc_gt, lc_le, lc_ge, Classical.not_not] at *); (try simp only [i_lt, i_le, i_eq, l_lt, l_le, l_eq, Int32.toInt_toInt64, Int32.reduceToInt, Int64.reduceToInt] at *); omega))) dX12_canRun_11 ?_
  refine r_icmp_gt (tgt := 35) dX12_canRun_12 (by decide) (fun c12 => ?_) (fun c12 => ?_)
  · refine r_iconst (v := 1) rfl dX12_canRun_35 ?_
    refine r_goto (tgt := 40) dX12_canRun_36 (by decide) ?_
    refine r_istore_n (lv' := fun z => [(3, .int z), (0, .ref 95), (1, .int (nI hn)), (2, .int (nI on))]) dX12_canRun_40 rfl (Nat.le_of_ble_eq_true rfl) (fun _ => rfl) (fun x3_40 ex3_40 => ?_)
    refine r_iload_n (j := 0) rfl rfl dX12_canRun_41 ?_
    refine r_if_eq (tgt := 75) dX12_canRun_42 (by decide) (fun c42 => ?_) (fun c42 => ?_)
    · refine r_iconst (v := 0) rfl dX12_canRun_75 ?_
      refine w_iret rfl (rfl) (Nat.le_of_ble_eq_true rfl) (Nat.le_of_ble_eq_true rfl) dX12_canRun_76 ?_
      rw [ex3_40] at c42; exact absurd c42 (by decide)
    · refine r_aload_n (j := 1) rfl rfl dX12_canRun_45 ?_
      refine w_getR (b := 131) fX12_285 rfl rfl dX12_canRun_46 ?_
      refine r_iload_n (j := 3) rfl rfl dX12_canRun_49 ?_
      refine w_iald rfl (by first | assumption | (rw [vp_in_iff]; ((try simp only [bI_0, bI_1, lc_lt, lc_gt, lc_le, lc_ge, Classical.not_not] at *); (try simp only [i_lt, i_le, i_eq, l_lt, l_le, l_eq, Int32.toInt_toInt64, Int32.reduceToInt, Int64.reduceToInt] at *); omega))) dX12_canRun_50 ?_
      refine r_aload_n (j := 1) rfl rfl dX12_canRun_51 ?_
      refine w_getR (b := 131) fX12_285 rfl rfl dX12_canRun_52 ?_
      refine r_iload_n (j := 2) rfl rfl dX12_canRun_55 ?_
      refine w_iald rfl (by first | assumption | (rw [vp_in_iff]; ((try simp only [bI_0, bI_1, lc_lt, lc_gt, lc_le, lc_ge, Classical.not_not] at *); (try simp only [i_lt, i_le, i_eq, l_lt, l_le, l_eq, Int32.toInt_toInt64, Int32.reduceToInt, Int64.reduceToInt] at *); omega))) dX12_canRun_56 ?_
      refine r_isub dX12_canRun_57 ?_
      refine r_aload_n (j := 1) rfl rfl dX12_canRun_58 ?_
      refine w_getR (b := 106) fX12_234 rfl rfl dX12_canRun_59 ?_
      refine r_iconst (v := 5) rfl dX12_canRun_62 ?_
      refine r_iload_n (j := 2) rfl rfl dX12_canRun_63 ?_
      refine r_imul dX12_canRun_64 ?_
      refine r_iload_n (j := 3) rfl rfl dX12_canRun_65 ?_
      refine r_iadd dX12_canRun_66 ?_
      refine w_iald rfl (by rw [e5]; exact vp_in_nI (by omega) (by omega)) dX12_canRun_67 ?_
      refine r_icmp_lt (tgt := 75) dX12_canRun_68 (by decide) (fun c68 => ?_) (fun c68 => ?_)
      · refine r_iconst (v := 0) rfl dX12_canRun_75 ?_
        refine w_iret rfl (rfl) (Nat.le_of_ble_eq_true rfl) (Nat.le_of_ble_eq_true rfl) dX12_canRun_76 ?_
        rw [ch, co, e5, nI_clamp (by omega)] at c68; exact ⟨(bI_f (fun z => absurd z.2 (Int32.not_le.mpr c68))).symm, rfl, rfl, rfl⟩
      · refine r_iconst (v := 1) rfl dX12_canRun_71 ?_
        refine r_goto (tgt := 76) dX12_canRun_72 (by decide) ?_
        refine w_iret rfl (rfl) (Nat.le_of_ble_eq_true rfl) (Nat.le_of_ble_eq_true rfl) dX12_canRun_76 ?_
        rw [ch, co] at c12; rw [ch, co, e5, nI_clamp (by omega)] at c68; exact ⟨(bI_t ⟨Or.inl c12, Int32.not_lt.mp c68⟩).symm, rfl, rfl, rfl⟩
  · refine r_aload_n (j := 0) rfl rfl dX12_canRun_15 ?_
    refine w_getR (b := 131) fX12_285 rfl rfl dX12_canRun_16 ?_
    refine r_iload_n (j := 2) rfl rfl dX12_canRun_19 ?_
    refine w_iald rfl (by first | assumption | (rw [vp_in_iff]; ((try simp only [bI_0, bI_1, lc_lt, lc_gt, lc_le, lc_ge, Classical.not_not] at *); (try simp only [i_lt, i_le, i_eq, l_lt, l_le, l_eq, Int32.toInt_toInt64, Int32.reduceToInt, Int64.reduceToInt] at *); omega))) dX12_canRun_20 ?_
    refine r_aload_n (j := 0) rfl rfl dX12_canRun_21 ?_
    refine w_getR (b := 131) fX12_285 rfl rfl dX12_canRun_22 ?_
    refine r_iload_n (j := 1) rfl rfl dX12_canRun_25 ?_
    refine w_iald rfl (by first | assumption | (rw [vp_in_iff]; ((try simp only [bI_0, bI_1, lc_lt, lc_gt, lc_le, lc_ge, Classical.not_not] at *); (try simp only [i_lt, i_le, i_eq, l_lt, l_le, l_eq, Int32.toInt_toInt64, Int32.reduceToInt, Int64.reduceToInt] at *); omega))) dX12_canRun_26 ?_
    refine r_icmp_ne (tgt := 39) dX12_canRun_27 (by decide) (fun c27 => ?_) (fun c27 => ?_)
    · refine r_iconst (v := 0) rfl dX12_canRun_39 ?_
      refine r_istore_n (lv' := fun z => [(3, .int z), (0, .ref 95), (1, .int (nI hn)), (2, .int (nI on))]) dX12_canRun_40 rfl (Nat.le_of_ble_eq_true rfl) (fun _ => rfl) (fun x3_40 ex3_40 => ?_)
      refine r_iload_n (j := 0) rfl rfl dX12_canRun_41 ?_
      refine r_if_eq (tgt := 75) dX12_canRun_42 (by decide) (fun c42 => ?_) (fun c42 => ?_)
      · refine r_iconst (v := 0) rfl dX12_canRun_75 ?_
        refine w_iret rfl (rfl) (Nat.le_of_ble_eq_true rfl) (Nat.le_of_ble_eq_true rfl) dX12_canRun_76 ?_
        rw [ch, co] at c12; rw [ch, co] at c27; exact ⟨(bI_f (by rintro ⟨z | z, -⟩; exact c12 z; exact c27 z.1)).symm, rfl, rfl, rfl⟩
      · refine r_aload_n (j := 1) rfl rfl dX12_canRun_45 ?_
        refine w_getR (b := 131) fX12_285 rfl rfl dX12_canRun_46 ?_
        refine r_iload_n (j := 3) rfl rfl dX12_canRun_49 ?_
        refine w_iald rfl (by first | assumption | (rw [vp_in_iff]; ((try simp only [bI_0, bI_1, lc_lt, lc_gt, lc_le, lc_ge, Classical.not_not] at *); (try simp only [i_lt, i_le, i_eq, l_lt, l_le, l_eq, Int32.toInt_toInt64, Int32.reduceToInt, Int64.reduceToInt] at *); omega))) dX12_canRun_50 ?_
        refine r_aload_n (j := 1) rfl rfl dX12_canRun_51 ?_
        refine w_getR (b := 131) fX12_285 rfl rfl dX12_canRun_52 ?_
        refine r_iload_n (j := 2) rfl rfl dX12_canRun_55 ?_
        refine w_iald rfl (by first | assumption | (rw [vp_in_iff]; ((try simp only [bI_0, bI_1, lc_lt, lc_gt, lc_le, lc_ge, Classical.not_not] at *); (try simp only [i_lt, i_le, i_eq, l_lt, l_le, l_eq, Int32.toInt_toInt64, Int32.reduceToInt, Int64.reduceToInt] at *); omega))) dX12_canRun_56 ?_
        refine r_isub dX12_canRun_57 ?_
        refine r_aload_n (j := 1) rfl rfl dX12_canRun_58 ?_
        refine w_getR (b := 106) fX12_234 rfl rfl dX12_canRun_59 ?_
        refine r_iconst (v := 5) rfl dX12_canRun_62 ?_
        refine r_iload_n (j := 2) rfl rfl dX12_canRun_63 ?_
        refine r_imul dX12_canRun_64 ?_
        refine r_iload_n (j := 3) rfl rfl dX12_canRun_65 ?_
        refine r_iadd dX12_canRun_66 ?_
        refine w_iald rfl (by rw [e5]; exact vp_in_nI (by omega) (by omega)) dX12_canRun_67 ?_
        refine r_icmp_lt (tgt := 75) dX12_canRun_68 (by decide) (fun c68 => ?_) (fun c68 => ?_)
        · refine r_iconst (v := 0) rfl dX12_canRun_75 ?_
          refine w_iret rfl (rfl) (Nat.le_of_ble_eq_true rfl) (Nat.le_of_ble_eq_true rfl) dX12_canRun_76 ?_
          rw [ex3_40] at c42; exact absurd rfl c42
        · refine r_iconst (v := 1) rfl dX12_canRun_71 ?_
          refine r_goto (tgt := 76) dX12_canRun_72 (by decide) ?_
          refine w_iret rfl (rfl) (Nat.le_of_ble_eq_true rfl) (Nat.le_of_ble_eq_true rfl) dX12_canRun_76 ?_
          rw [ex3_40] at c42; exact absurd rfl c42
    · refine r_iload_n (j := 2) rfl rfl dX12_canRun_30 ?_
      refine r_iload_n (j := 1) rfl rfl dX12_canRun_31 ?_
      refine r_icmp_le (tgt := 39) dX12_canRun_32 (by decide) (fun c32 => ?_) (fun c32 => ?_)
      · refine r_iconst (v := 0) rfl dX12_canRun_39 ?_
        refine r_istore_n (lv' := fun z => [(3, .int z), (0, .ref 95), (1, .int (nI hn)), (2, .int (nI on))]) dX12_canRun_40 rfl (Nat.le_of_ble_eq_true rfl) (fun _ => rfl) (fun x3_40 ex3_40 => ?_)
        refine r_iload_n (j := 0) rfl rfl dX12_canRun_41 ?_
        refine r_if_eq (tgt := 75) dX12_canRun_42 (by decide) (fun c42 => ?_) (fun c42 => ?_)
        · refine r_iconst (v := 0) rfl dX12_canRun_75 ?_
          refine w_iret rfl (rfl) (Nat.le_of_ble_eq_true rfl) (Nat.le_of_ble_eq_true rfl) dX12_canRun_76 ?_
          rw [ch, co] at c12; rw [i_le] at c32; exact ⟨(bI_f (by rintro ⟨z | z, -⟩; exact c12 z; omega)).symm, rfl, rfl, rfl⟩
        · refine r_aload_n (j := 1) rfl rfl dX12_canRun_45 ?_
          refine w_getR (b := 131) fX12_285 rfl rfl dX12_canRun_46 ?_
          refine r_iload_n (j := 3) rfl rfl dX12_canRun_49 ?_
          refine w_iald rfl (by first | assumption | (rw [vp_in_iff]; ((try simp only [bI_0, bI_1, lc_lt, lc_gt, lc_le, lc_ge, Classical.not_not] at *); (try simp only [i_lt, i_le, i_eq, l_lt, l_le, l_eq, Int32.toInt_toInt64, Int32.reduceToInt, Int64.reduceToInt] at *); omega))) dX12_canRun_50 ?_
          refine r_aload_n (j := 1) rfl rfl dX12_canRun_51 ?_
          refine w_getR (b := 131) fX12_285 rfl rfl dX12_canRun_52 ?_
          refine r_iload_n (j := 2) rfl rfl dX12_canRun_55 ?_
          refine w_iald rfl (by first | assumption | (rw [vp_in_iff]; ((try simp only [bI_0, bI_1, lc_lt, lc_gt, lc_le, lc_ge, Classical.not_not] at *); (try simp only [i_lt, i_le, i_eq, l_lt, l_le, l_eq, Int32.toInt_toInt64, Int32.reduceToInt, Int64.reduceToInt] at *); omega))) dX12_canRun_56 ?_
          refine r_isub dX12_canRun_57 ?_
          refine r_aload_n (j := 1) rfl rfl dX12_canRun_58 ?_
          refine w_getR (b := 106) fX12_234 rfl rfl dX12_canRun_59 ?_
          refine r_iconst (v := 5) rfl dX12_canRun_62 ?_
          refine r_iload_n (j := 2) rfl rfl dX12_canRun_63 ?_
          refine r_imul dX12_canRun_64 ?_
          refine r_iload_n (j := 3) rfl rfl dX12_canRun_65 ?_
          refine r_iadd dX12_canRun_66 ?_
          refine w_iald rfl (by rw [e5]; exact vp_in_nI (by omega) (by omega)) dX12_canRun_67 ?_
          refine r_icmp_lt (tgt := 75) dX12_canRun_68 (by decide) (fun c68 => ?_) (fun c68 => ?_)
          · refine r_iconst (v := 0) rfl dX12_canRun_75 ?_
            refine w_iret rfl (rfl) (Nat.le_of_ble_eq_true rfl) (Nat.le_of_ble_eq_true rfl) dX12_canRun_76 ?_
            rw [ex3_40] at c42; exact absurd rfl c42
          · refine r_iconst (v := 1) rfl dX12_canRun_71 ?_
            refine r_goto (tgt := 76) dX12_canRun_72 (by decide) ?_
            refine w_iret rfl (rfl) (Nat.le_of_ble_eq_true rfl) (Nat.le_of_ble_eq_true rfl) dX12_canRun_76 ?_
            rw [ex3_40] at c42; exact absurd rfl c42
      · refine r_iconst (v := 1) rfl dX12_canRun_35 ?_
        refine r_goto (tgt := 40) dX12_canRun_36 (by decide) ?_
        refine r_istore_n (lv' := fun z => [(3, .int z), (0, .ref 95), (1, .int (nI hn)), (2, .int (nI on))]) dX12_canRun_40 rfl (Nat.le_of_ble_eq_true rfl) (fun _ => rfl) (fun x3_40 ex3_40 => ?_)
        refine r_iload_n (j := 0) rfl rfl dX12_canRun_41 ?_
        refine r_if_eq (tgt := 75) dX12_canRun_42 (by decide) (fun c42 => ?_) (fun c42 => ?_)
        · refine r_iconst (v := 0) rfl dX12_canRun_75 ?_
          refine w_iret rfl (rfl) (Nat.le_of_ble_eq_true rfl) (Nat.le_of_ble_eq_true rfl) dX12_canRun_76 ?_
          rw [ex3_40] at c42; exact absurd c42 (by decide)
        · refine r_aload_n (j := 1) rfl rfl dX12_canRun_45 ?_
          refine w_getR (b := 131) fX12_285 rfl rfl dX12_canRun_46 ?_
          refine r_iload_n (j := 3) rfl rfl dX12_canRun_49 ?_
          refine w_iald rfl (by first | assumption | (rw [vp_in_iff]; ((try simp only [bI_0, bI_1, lc_lt, lc_gt, lc_le, lc_ge, Classical.not_not] at *); (try simp only [i_lt, i_le, i_eq, l_lt, l_le, l_eq, Int32.toInt_toInt64, Int32.reduceToInt, Int64.reduceToInt] at *); omega))) dX12_canRun_50 ?_
          refine r_aload_n (j := 1) rfl rfl dX12_canRun_51 ?_
          refine w_getR (b := 131) fX12_285 rfl rfl dX12_canRun_52 ?_
          refine r_iload_n (j := 2) rfl rfl dX12_canRun_55 ?_
          refine w_iald rfl (by first | assumption | (rw [vp_in_iff]; ((try simp only [bI_0, bI_1, lc_lt, lc_gt, lc_le, lc_ge, Classical.not_not] at *); (try simp only [i_lt, i_le, i_eq, l_lt, l_le, l_eq, Int32.toInt_toInt64, Int32.reduceToInt, Int64.reduceToInt] at *); omega))) dX12_canRun_56 ?_
          refine r_isub dX12_canRun_57 ?_
          refine r_aload_n (j := 1) rfl rfl dX12_canRun_58 ?_
          refine w_getR (b := 106) fX12_234 rfl rfl dX12_canRun_59 ?_
          refine r_iconst (v := 5) rfl dX12_canRun_62 ?_
          refine r_iload_n (j := 2) rfl rfl dX12_canRun_63 ?_
          refine r_imul dX12_canRun_64 ?_
          refine r_iload_n (j := 3) rfl rfl dX12_canRun_65 ?_
          refine r_iadd dX12_canRun_66 ?_
          refine w_iald rfl (by rw [e5]; exact vp_in_nI (by omega) (by omega)) dX12_canRun_67 ?_
          refine r_icmp_lt (tgt := 75) dX12_canRun_68 (by decide) (fun c68 => ?_) (fun c68 => ?_)
          · refine r_iconst (v := 0) rfl dX12_canRun_75 ?_
            refine w_iret rfl (rfl) (Nat.le_of_ble_eq_true rfl) (Nat.le_of_ble_eq_true rfl) dX12_canRun_76 ?_
            rw [ch, co, e5, nI_clamp (by omega)] at c68; exact ⟨(bI_f (fun z => absurd z.2 (Int32.not_le.mpr c68))).symm, rfl, rfl, rfl⟩
          · refine r_iconst (v := 1) rfl dX12_canRun_71 ?_
            refine r_goto (tgt := 76) dX12_canRun_72 (by decide) ?_
            refine w_iret rfl (rfl) (Nat.le_of_ble_eq_true rfl) (Nat.le_of_ble_eq_true rfl) dX12_canRun_76 ?_
            rw [ch, co, e5, nI_clamp (by omega)] at c68; rw [ch, co] at c27; rw [i_le] at c32; exact ⟨(bI_t ⟨Or.inr ⟨c27, by omega⟩, Int32.not_lt.mp c68⟩).symm, rfl, rfl, rfl⟩
def mof (I : Is) : Mx := (I 136, I 133, I 134)
abbrev aske (I : Is) (x : Nat) : Prop := ¬ I 135 x = 0
def uns (I : Is) : Nat := cwt (fun x => decide (I 135 x = 0)) 15
def gOk (G : Gx) (I : Is) : Prop := I 95 65 = nI (gS G) ∧ gS G ≤ 10 ∧ I 95 10 = nI (gH G) ∧ gH G ≤ 5 ∧ (∀ p, p < gS G → I 132 p = nI (gsh G p) ∧ gsh G p < gH G) ∧ (∀ h, h < gH G → (gct G h = true ↔ ¬ I 105 h = -1)) ∧ (∀ h o, h < gH G → o < gH G → (gcn G h o = true ↔ (ltr (I 131) h o ∧ I 106 (5 * h + o) ≤ I 131 o - I 131 h))) ∧ ∀ h, h < gH G → (I 104 h - I 130 h).toInt = gcp G h ∧ gcp G h ≤ 1000
theorem gOk_SB {J : Is} (h : gOk G I) (hS : SB [133, 134, 135, 136] I J) : gOk G J := by
  unfold gOk
  rw [hS 95 (by decide), hS 132 (by decide), hS 105 (by decide), hS 131 (by decide), hS 106 (by decide), hS 104 (by decide), hS 130 (by decide)]
  exact h
def clZ (G : Gx) (b : Bool) (M : Mx) (Z : Nat → Prop) : Prop := ∀ z, z < gS G → Z z → ∀ y, rch G b y z → sat G M y ∧ ∀ q, q < gS G → M.2.1 q = srcv y → Z q
def cls (G : Gx) (b : Bool) (I J : Is) : Prop := ∀ x, x < 15 → ¬ aske I x → aske J x → sat G (mof I) x ∧ ∀ q, q < gS G → I 133 q = srcv x → ∀ y, rch G b y q → aske J y
def gtS (G : Gx) (b : Bool) (p : Nat) (I J : Is) : Prop := ∃ o, srcO (mof I) p o ∧ Vl G (mof J) o ∧ ¬ J 133 p = -1 ∧ (∀ q, q < gS G → q ≠ p → (I 133 q = -1 ∨ ∃ x, x < 15 ∧ I 133 q = srcv x ∧ aske I x) → J 133 q = I 133 q) ∧ (∀ s, s < gS G → ¬ I 136 s = -1 → ¬ J 136 s = -1) ∧ (∀ q, q < gS G → ¬ I 133 q = -1 → ¬ J 133 q = -1) ∧ (b = false → ∀ q, q < gS G → J 133 q = I 133 q ∨ ∃ s, s < gS G ∧ J 133 q = srcv s) ∧ ∀ Z, clZ G b (mof I) Z → ¬ Z p ∧ ∀ q, q < gS G → Z q → J 133 q = I 133 q
def gtN (G : Gx) (b : Bool) (p : Nat) (I J : Is) : Prop := SB [135] I J ∧ (∀ y, rch G b y p → aske J y) ∧ cls G b I J
def gtF (G : Gx) (b : Bool) (p : Nat) (I : Is) (L : Ls) (tg : Nat) : Int32 → Is → Ls → Nat → Prop := fun v J K t => K = L ∧ t = tg ∧ SB [133, 134, 135, 136] I J ∧ (∀ x, aske I x → aske J x) ∧ ((v = 1 ∧ gtS G b p I J) ∨ (v = 0 ∧ gtN G b p I J))
theorem isS_lt {x : Nat} (h10 : gS G ≤ 10) (h5 : gH G ≤ 5) (h : isS G b x) : x < 15 := by
  rcases h with h | ⟨-, -, h, -⟩ <;> omega
/-- a source is used for the place -/
theorem use_ok {p x o : Nat} {J2 J' : Is} (h10 : gS G ≤ 10) (h5 : gH G ≤ 5) (hr : rch G b x p) (ho : srcO (mof I) p o) (hV : Vl G (mof J') o) (h133 : J' 133 = va_up (J2 133) p (srcv x)) (h136 : ∀ s, s < gS G → ¬ J2 136 s = -1 → ¬ J' 136 s = -1)
    (u3 : ∀ q, q < gS G → q ≠ p → (I 133 q = -1 ∨ ∃ x, x < 15 ∧ I 133 q = srcv x ∧ aske I x) → J2 133 q = I 133 q) (u5 : ∀ s, s < gS G → ¬ I 136 s = -1 → ¬ J2 136 s = -1) (u6 : ∀ q, q < gS G → ¬ I 133 q = -1 → ¬ J2 133 q = -1) (u7 : b = false → ∀ q, q < gS G → J2 133 q = I 133 q ∨ ∃ s, s < gS G ∧ J2 133 q = srcv s) (uZ : ∀ Z, clZ G b (mof I) Z → ¬ Z p ∧ ∀ q, q < gS G → Z q → J2 133 q = I 133 q) : gtS G b p I J' := by
  have hx := isS_lt h10 h5 hr.1
  refine ⟨o, ho, hV, ?_, fun q hq hqp hc => ?_, fun s hs h => h136 s hs (u5 s hs h), fun q hq h => ?_, fun hb q hq => ?_, fun Z hZ => ?_⟩
  · rw [h133, vu_s]; exact srcv_nn hx
  · rw [h133, vu_n _ _ hqp]; exact u3 q hq hqp hc
  · rw [h133]
    by_cases e : q = p
    · subst e; rw [vu_s]; exact srcv_nn hx
    · rw [vu_n _ _ e]; exact u6 q hq h
  · rw [h133]
    by_cases e : q = p
    · subst e
      rw [vu_s]
      rcases hr.1 with z | z
      · exact Or.inr ⟨x, z, rfl⟩
      · rw [hb] at z; exact absurd z.1 (by decide)
    · rw [vu_n _ _ e]; exact u7 hb q hq
  · obtain ⟨z1, z2⟩ := uZ Z hZ
    refine ⟨z1, fun q hq hz => ?_⟩
    rw [h133, vu_n _ _ (fun e => by rw [e] at hz; exact z1 hz)]
    exact z2 q hq hz
theorem mof_135 {J : Is} (hS : SB [135] I J) : mof J = mof I := by
  unfold mof
  rw [hS 136 (by decide), hS 133 (by decide), hS 134 (by decide)]
theorem uns_lt {J : Is} {x : Nat} (hx : x < 15) (h : ¬ aske J x) : uns (up J 135 x 1) < uns J := by
  unfold uns
  rw [up_s]
  refine cwt_lt 15 (fun j hj hp => ?_) x hx (by simp [vu_eq]) (by simpa using h)
  by_cases e : j = x
  · subst e; simp [vu_eq] at hp
  · simpa [vu_eq, e] using hp
theorem uns_mono {J : Is} (h : ∀ x, aske I x → aske J x) : uns J ≤ uns I := by
  refine cwt_mono 15 (fun j hj hp => ?_)
  have hp := of_decide_eq_true hp
  exact decide_eq_true (Classical.byContradiction (fun z => h j z hp))
theorem aske_up {J : Is} {x y : Nat} (h : aske J y) : aske (up J 135 x 1) y := by
  unfold aske
  rw [up_s, vu_eq]
  by_cases e : y = x
  · rw [if_pos e]; decide
  · rw [if_neg e]; exact h
theorem aske_x {J : Is} {x : Nat} : aske (up J 135 x 1) x := by
  unfold aske
  rw [up_s, vu_s]
  decide
theorem aske_n {J : Is} {x y : Nat} (e : y ≠ x) (h : aske (up J 135 x 1) y) : aske J y := by
  unfold aske at h
  rw [up_s, vu_n _ _ e] at h
  exact h
/-- by a free stand, or by one whose place has found another -/
theorem give_stand {p s o : Nat} {J J2 : Is} (g : gOk G I) (hv : Vl G (mof I) 99) (hp : p < gS G) (ho : srcO (mof I) p o) (hoa : o = 99 ∨ aske I o) (hS : SB [135] I J) (hm : ∀ x, aske I x → aske J x) (hs : s < gS G) (hns : ¬ aske J s) (hc : gcn G (gsh G s) (gsh G p) = true)
    (hd : (J2 = up J 135 s 1 ∧ I 136 s = -1) ∨ ∃ q, q < gS G ∧ I 133 q = srcv s ∧ gtS G b q (up J 135 s 1) J2) : gtS G b p I (up (up J2 136 s (nI p)) 133 p (nI s)) := by
  obtain ⟨-, h10, -, h5, -⟩ := g
  have hsI : ¬ aske I s := fun z => hns (hm s z)
  have hso : s ≠ o := by
    rintro rfl
    rcases hoa with z | z
    · omega
    · exact hsI z
  have hr : rch G b s p := ⟨Or.inl hs, by unfold hof; rw [if_pos (by omega)]; exact hc⟩
  have e1 : SB [135] I (up J 135 s 1) := hS.up (by decide)
  have m1 := mof_135 e1
  have r133 : up J 135 s 1 133 = I 133 := e1 133 (by decide)
  have r136 : up J 135 s 1 136 = I 136 := e1 136 (by decide)
  have fin133 : up (up J2 136 s (nI p)) 133 p (nI s) 133 = va_up (J2 133) p (srcv s) := by rw [up_s, up_n _ _ _ (by decide), srcv_s (by omega)]
  have fin136 : up (up J2 136 s (nI p)) 133 p (nI s) 136 = va_up (J2 136) s (nI p) := by rw [up_n _ _ _ (by decide), up_s]
  have fin134 : up (up J2 136 s (nI p)) 133 p (nI s) 134 = J2 134 := by rw [up_n _ _ _ (by decide), up_n _ _ _ (by decide)]
  have finm : mof (up (up J2 136 s (nI p)) 133 p (nI s)) = (va_up (mof J2).1 s (nI p), va_up (mof J2).2.1 p (srcv s), (mof J2).2.2) := by
    unfold mof
    rw [fin133, fin136, fin134]
  have h136 : ∀ t, t < gS G → ¬ J2 136 t = -1 → ¬ up (up J2 136 s (nI p)) 133 p (nI s) 136 t = -1 := by
    intro t ht h
    rw [fin136, vu_eq]
    by_cases e : t = s
    · rw [if_pos e]; exact nI_nn (by omega)
    · rw [if_neg e]; exact h
  rcases hd with ⟨e2, hfree⟩ | ⟨q, hq, hqs, o2, ho2, hV2, hq2, s3, s5, s6, s7, sZ⟩
  · subst e2
    refine use_ok h10 h5 hr ho ?_ fin133 h136 (fun q _ _ _ => by rw [r133]) (fun t _ h => by rw [r136]; exact h) (fun q _ h => by rw [r133]; exact h) (fun _ q _ => Or.inl (by rw [r133])) (fun Z hZ => ⟨fun z => ?_, fun q _ _ => by rw [r133]⟩)
    · rw [finm, m1]
      exact Vl_stand h10 h5 hv (Or.inl ⟨rfl, hfree⟩) hp hs hc ho hso
    · exact (hZ p hp z s hr).1.1 (by omega) hfree
  · rw [m1] at ho2
    have e3 : o2 = s := (srcO_c ho2 (by omega) hqs).symm
    subst e3
    have hqp : q ≠ p := fun z => by rw [z] at hqs; exact hso (srcO_c ho (by omega) hqs)
    have c2p : J2 133 p = I 133 p := by
      rw [s3 p hp (Ne.symm hqp) ?_, r133]
      rw [r133]
      rcases ho with ⟨-, z⟩ | ⟨z1, z2⟩
      · exact Or.inl z
      · exact Or.inr ⟨o, z1, z2, aske_up (hm o (hoa.resolve_left (by omega)))⟩
    have ho3 : srcO (mof J2) p o := by unfold srcO; rw [show (mof J2).2.1 p = I 133 p from c2p]; exact ho
    refine use_ok h10 h5 hr ho ?_ fin133 h136 (fun q' hq' hqp' hc' => ?_) (fun t ht h => s5 t ht (by rw [r136]; exact h)) (fun q' hq' h => s6 q' hq' (by rw [r133]; exact h)) (fun hb q' hq' => by have := s7 hb q' hq'; rw [r133] at this; exact this) (fun Z hZ => ?_)
    · rw [finm]
      exact Vl_stand h10 h5 hV2 (Or.inr rfl) hp hs hc ho3 hso
    · have hne : q' ≠ q := by
        rintro rfl
        rcases hc' with z | ⟨x, hx, z, za⟩
        · rw [hqs] at z; exact srcv_nn (by omega) z
        · have := srcv_inj (by omega) hx (hqs.symm.trans z); subst this; exact hsI za
      rw [s3 q' hq' hne ?_, r133]
      rw [r133]
      rcases hc' with z | ⟨x, hx, z, za⟩
      · exact Or.inl z
      · exact Or.inr ⟨x, hx, z, aske_up (hm x za)⟩
    · obtain ⟨z1, z2⟩ := sZ Z (by rw [m1]; exact hZ)
      refine ⟨fun z => z1 ((hZ p hp z o2 hr).2 q hq hqs), fun q' hq' hz => ?_⟩
      rw [z2 q' hq' hz, r133]
theorem give_hut {p h o : Nat} {J J2 J3 : Is} (g : gOk G I) (hv : Vl G (mof I) 99) (hp : p < gS G) (ho : srcO (mof I) p o) (hoa : o = 99 ∨ aske I o) (hhG : h < gH G) (hct : gct G h = true) (hS : SB [135] I J) (hm : ∀ x, aske I x → aske J x) (hns : ¬ aske I (10 + h)) (ha : aske J (10 + h)) (hc : gcn G h (gsh G p) = true)
    (hd : (J3 = up J 134 h (J 134 h + 1) ∧ (I 134 h).toInt < (gcp G h : Int)) ∨ (J3 = J2 ∧ (gcp G h : Int) ≤ (I 134 h).toInt ∧ ∃ q, q < gS G ∧ I 133 q = srcv (10 + h) ∧ gtS G true q J J2)) (hb : b = true) : gtS G b p I (up J3 133 p (nI (100 + h))) := by
  subst hb
  obtain ⟨-, h10, -, h5, -, -, -, hcap⟩ := g
  have hso : 10 + h ≠ o := by
    rintro rfl
    rcases hoa with z | z
    · omega
    · exact hns z
  have hr : rch G true (10 + h) p := ⟨Or.inr ⟨rfl, by omega, by omega, by rw [Nat.add_sub_cancel_left]; exact hct⟩, by unfold hof; rw [if_neg (by omega), Nat.add_sub_cancel_left]; exact hc⟩
  have m1 := mof_135 hS
  have r133 : J 133 = I 133 := hS 133 (by decide)
  have r134 : J 134 = I 134 := hS 134 (by decide)
  have r136 : J 136 = I 136 := hS 136 (by decide)
  have fin133 : up J3 133 p (nI (100 + h)) 133 = va_up (J3 133) p (srcv (10 + h)) := by rw [up_s, srcv_h]
  have finm : mof (up J3 133 p (nI (100 + h))) = (J3 136, va_up (J3 133) p (srcv (10 + h)), J3 134) := by
    unfold mof
    rw [fin133, up_n _ _ _ (by decide), up_n _ _ _ (by decide)]
  rcases hd with ⟨e2, hfree⟩ | ⟨e2, hfull, q, hq, hqs, o2, ho2, hV2, hq2, s3, s5, s6, s7, sZ⟩
  · subst e2
    have f133 : up J 134 h (J 134 h + 1) 133 = I 133 := by rw [up_n _ _ _ (by decide), r133]
    have f136 : up J 134 h (J 134 h + 1) 136 = I 136 := by rw [up_n _ _ _ (by decide), r136]
    have f134 : up J 134 h (J 134 h + 1) 134 = va_up (I 134) h (I 134 h + 1) := by rw [up_s, r134]
    rw [f133] at fin133
    refine use_ok (J2 := I) h10 h5 hr ho ?_ fin133 (fun s _ h => by rw [up_n _ _ _ (by decide), f136]; exact h) (fun q _ _ _ => rfl) (fun t _ h => h) (fun q _ h => h) (fun _ q _ => Or.inl rfl) (fun Z hZ => ⟨fun z => ?_, fun q _ _ => rfl⟩)
    · rw [finm, f133, f136, f134]
      exact Vl_hut (M := mof I) h10 h5 hv hp hhG hct hc ho hso (Or.inl ⟨rfl, rfl, hfree, (hcap h hhG).2⟩)
    · have := (hZ p hp z (10 + h) hr).1.2 (by omega)
      rw [Nat.add_sub_cancel_left] at this
      have : (gcp G h : Int) ≤ (I 134 h).toInt := this
      omega
  · subst e2
    rw [m1] at ho2
    have e3 : o2 = 10 + h := (srcO_c ho2 (by omega) hqs).symm
    subst e3
    have hqp : q ≠ p := fun z => by rw [z] at hqs; exact hso (srcO_c ho (by omega) hqs)
    have c2p : J3 133 p = I 133 p := by
      rw [s3 p hp (Ne.symm hqp) ?_, r133]
      rw [r133]
      rcases ho with ⟨-, z⟩ | ⟨z1, z2⟩
      · exact Or.inl z
      · exact Or.inr ⟨o, z1, z2, hm o (hoa.resolve_left (by omega))⟩
    have ho3 : srcO (mof J3) p o := by unfold srcO; rw [show (mof J3).2.1 p = I 133 p from c2p]; exact ho
    refine use_ok h10 h5 hr ho ?_ fin133 (fun s _ h => by rw [up_n _ _ _ (by decide)]; exact h) (fun q' hq' hqp' hc' => ?_) (fun t ht h => s5 t ht (by rw [r136]; exact h)) (fun q' hq' h => s6 q' hq' (by rw [r133]; exact h)) (fun hb q' hq' => by have := s7 hb q' hq'; rw [r133] at this; exact this) (fun Z hZ => ?_)
    · rw [finm]
      exact Vl_hut (M := mof J3) h10 h5 hV2 hp hhG hct hc ho3 hso (Or.inr ⟨rfl, rfl⟩)
    · have hne : q' ≠ q := by
        rintro rfl
        rcases hc' with z | ⟨x, hx, z, za⟩
        · rw [hqs] at z; exact srcv_nn (by omega) z
        · have := srcv_inj (by omega) hx (hqs.symm.trans z); subst this; exact hns za
      rw [s3 q' hq' hne ?_, r133]
      rw [r133]
      rcases hc' with z | ⟨x, hx, z, za⟩
      · exact Or.inl z
      · exact Or.inr ⟨x, hx, z, hm x za⟩
    · obtain ⟨z1, z2⟩ := sZ Z (by rw [m1]; exact hZ)
      refine ⟨fun z => z1 ((hZ p hp z (10 + h) hr).2 q hq hqs), fun q' hq' hz => ?_⟩
      rw [z2 q' hq' hz, r133]
end
