/-! the model: the most in so many days, until -/
section
variable {sc : Sc} {I : Is} {L : Ls} {tg NH NG : Nat} {d : Int32}
def qF (I : Is) (d : Int32) (h : Nat) : Int32 := iMin (I 125 h) (I 104 h * I 97 3 * d)
def qT (I : Is) (d : Int32) (g : Nat) : Int32 := iMin (I 108 g * d) (I 109 g - I 126 g)
def qR (I : Is) (h g : Nat) : Bool := decide (iAbs (I 102 h - I 107 g) + I 103 h ≤ I 97 4)
def qs1 (I : Is) (d : Int32) (s : Nat) : Nat → Int32 := sm (fun h => if s.testBit h then 0 else qF I d h)
def qis (I : Is) (s g : Nat) : Nat → Bool
  | 0 => false
  | h + 1 => qis I s g h || (s.testBit h && qR I h g)
def qs2 (I : Is) (d : Int32) (s NH : Nat) : Nat → Int32
  | 0 => qs1 I d s NH
  | g + 1 => qs2 I d s NH g + (if qis I s g NH then qT I d g else 0)
def qbe (I : Is) (d : Int32) (NH NG : Nat) : Nat → Int32
  | 0 => -1
  | s + 1 => if qbe I d NH NG s = -1 then qs2 I d s NH NG else iMin (qbe I d NH NG s) (qs2 I d s NH NG)
theorem one_bit {s h : Nat} (hs : s < 2147483648) (hh : h < 32) : ((nI s >>> (nI h &&& 31)) &&& 1 = 1) ↔ s.testBit h = true := by
  rw [g_bit hs hh]
  cases s.testBit h <;> decide
theorem l_X12_mo1 {s : Nat} {b : Int32} (hs : s < 256) (hH : (I 95 10).toInt = NH) (h5 : NH ≤ 5) {Q : Po}
    (K : ∀ x5 : Int32, RR sc mX12_mostIn 2 0 0 Q 0 0 80 [(5, .int x5), (4, .int (qs1 I d s NH)), (3, .int (nI s)), (2, .int b), (0, .ref 95), (1, .int d)] [] (XW I L tg)) : ∀ n i : Nat, i + n = NH → ∀ a x : Int32, a = qs1 I d s i → x.toInt = i → RR sc mX12_mostIn 2 0 0 Q 0 0 20 [(5, .int x), (4, .int a), (3, .int (nI s)), (2, .int b), (0, .ref 95), (1, .int d)] [] (XW I L tg) := by
  intro n
  induction n with
  | zero =>
    intro i hi a x ea hx
    refine r_iload (j := 0) rfl dX12_mostIn_20 ?_
    refine r_aload_n (j := 4) rfl rfl dX12_mostIn_22 ?_
    refine w_getI fX12_355 rfl dX12_mostIn_23 ?_
    refine r_icmp_ge (tgt := 80) dX12_mostIn_26 (by decide) (fun c26 => ?_) (fun c26 => ?_)
    · rw [ea, show i = NH by omega]; exact K _
    · exfalso; ((try simp only [bI_0, bI_1, lc_lt, lc_gt, lc_le, lc_ge, Classical.not_not] at *); (try simp only [i_lt, i_le, i_eq, l_lt, l_le, l_eq, Int32.toInt_toInt64, Int32.reduceToInt, Int64.reduceToInt] at *); omega)
  | succ n ih =>
    intro i hi a x ea hx
    have cx := cl_of hx
    obtain rfl := x_nI hx
    have hin := up_in (N := 5) hx (by omega)
    have ob := one_bit (s := s) (h := i) (by omega) (by omega)
    refine r_iload (j := 0) rfl dX12_mostIn_20 ?_
    refine r_aload_n (j := 4) rfl rfl dX12_mostIn_22 ?_
    refine w_getI fX12_355 rfl dX12_mostIn_23 ?_
    refine r_icmp_ge (tgt := 80) dX12_mostIn_26 (by decide) (fun c26 => ?_) (fun c26 => ?_)
    · exfalso; ((try simp only [bI_0, bI_1, lc_lt, lc_gt, lc_le, lc_ge, Classical.not_not] at *); (try simp only [i_lt, i_le, i_eq, l_lt, l_le, l_eq, Int32.toInt_toInt64, Int32.reduceToInt, Int64.reduceToInt] at *); omega)
    · refine r_iload (j := 1) rfl dX12_mostIn_29 ?_
      refine r_iload_n (j := 2) rfl rfl dX12_mostIn_31 ?_
      refine r_iload (j := 0) rfl dX12_mostIn_32 ?_
      refine r_ishr dX12_mostIn_34 ?_
      refine r_iconst (v := 1) rfl dX12_mostIn_35 ?_
      refine r_iand dX12_mostIn_36 ?_
      refine r_iconst (v := 1) rfl dX12_mostIn_37 ?_
      refine r_icmp_ne (tgt := 45) dX12_mostIn_38 (by decide) (fun c38 => ?_) (fun c38 => ?_)
      · refine r_aload_n (j := 4) rfl rfl dX12_mostIn_45 ?_
        refine w_getR (b := 125) fX12_267 rfl rfl dX12_mostIn_46 ?_
        refine r_iload (j := 0) rfl dX12_mostIn_49 ?_
        refine w_iald rfl (by first | assumption | (rw [vp_in_iff]; ((try simp only [bI_0, bI_1, lc_lt, lc_gt, lc_le, lc_ge, Classical.not_not] at *); (try simp only [i_lt, i_le, i_eq, l_lt, l_le, l_eq, Int32.toInt_toInt64, Int32.reduceToInt, Int64.reduceToInt] at *); omega))) dX12_mostIn_51 ?_
        refine r_aload_n (j := 4) rfl rfl dX12_mostIn_52 ?_
        refine w_getR (b := 104) fX12_228 rfl rfl dX12_mostIn_53 ?_
        refine r_iload (j := 0) rfl dX12_mostIn_56 ?_
        refine w_iald rfl (by first | assumption | (rw [vp_in_iff]; ((try simp only [bI_0, bI_1, lc_lt, lc_gt, lc_le, lc_ge, Classical.not_not] at *); (try simp only [i_lt, i_le, i_eq, l_lt, l_le, l_eq, Int32.toInt_toInt64, Int32.reduceToInt, Int64.reduceToInt] at *); omega))) dX12_mostIn_58 ?_
        refine r_aload_n (j := 4) rfl rfl dX12_mostIn_59 ?_
        refine w_getR (b := 97) fX12_219 rfl rfl dX12_mostIn_60 ?_
        refine r_iconst (v := 3) rfl dX12_mostIn_63 ?_
        refine w_iald rfl (by first | assumption | (rw [vp_in_iff]; ((try simp only [bI_0, bI_1, lc_lt, lc_gt, lc_le, lc_ge, Classical.not_not] at *); (try simp only [i_lt, i_le, i_eq, l_lt, l_le, l_eq, Int32.toInt_toInt64, Int32.reduceToInt, Int64.reduceToInt] at *); omega))) dX12_mostIn_64 ?_
        refine r_imul dX12_mostIn_65 ?_
        refine r_iload_n (j := 5) rfl rfl dX12_mostIn_66 ?_
        refine r_imul dX12_mostIn_67 ?_
        refine r_mmin lmX12_433 (Nat.le_of_ble_eq_true rfl) (Nat.le_of_ble_eq_true rfl) (Nat.le_of_ble_eq_true rfl) (Nat.le_of_ble_eq_true rfl) dX12_mostIn_68 ?_
        refine r_iadd dX12_mostIn_71 ?_
        refine r_istore (lv' := fun z => [(4, .int z), (5, .int (nI i)), (3, .int (nI s)), (2, .int b), (0, .ref 95), (1, .int d)]) dX12_mostIn_72 (Nat.le_of_ble_eq_true rfl) (fun _ => rfl) (fun x4_72 ex4_72 => ?_)
        refine r_iinc (j := 1) (lv' := fun z => [(5, .int z), (4, .int x4_72), (3, .int (nI s)), (2, .int b), (0, .ref 95), (1, .int d)]) dX12_mostIn_74 rfl (Nat.le_of_ble_eq_true rfl) (fun _ => rfl) (fun x5_74 ex5_74 => ?_)
        refine r_goto (tgt := 20) dX12_mostIn_77 (by decide) ?_
        refine ih (i + 1) (by omega) _ _ ?_ (by rw [ex5_74]; exact i_inc hx (by omega))
        rw [ex4_72, ea, cx]
        show _ = qs1 I d s i + (if s.testBit i then 0 else qF I d i)
        rw [if_neg (fun z => c38 (ob.mpr z))]
        rfl
      · refine r_iconst (v := 0) rfl dX12_mostIn_41 ?_
        refine r_goto (tgt := 71) dX12_mostIn_42 (by decide) ?_
        refine r_iadd dX12_mostIn_71 ?_
        refine r_istore (lv' := fun z => [(4, .int z), (5, .int (nI i)), (3, .int (nI s)), (2, .int b), (0, .ref 95), (1, .int d)]) dX12_mostIn_72 (Nat.le_of_ble_eq_true rfl) (fun _ => rfl) (fun x4_72 ex4_72 => ?_)
        refine r_iinc (j := 1) (lv' := fun z => [(5, .int z), (4, .int x4_72), (3, .int (nI s)), (2, .int b), (0, .ref 95), (1, .int d)]) dX12_mostIn_74 rfl (Nat.le_of_ble_eq_true rfl) (fun _ => rfl) (fun x5_74 ex5_74 => ?_)
        refine r_goto (tgt := 20) dX12_mostIn_77 (by decide) ?_
        refine ih (i + 1) (by omega) _ _ ?_ (by rw [ex5_74]; exact i_inc hx (by omega))
        rw [ex4_72, ea]
        show _ = qs1 I d s i + (if s.testBit i then 0 else qF I d i)
        rw [if_pos (ob.mp c38)]
theorem l_X12_mo3 {s gn : Nat} {b a g : Int32} (hs : s < 256) (hH : (I 95 10).toInt = NH) (h5 : NH ≤ 5) (eg : g.toInt = gn) (g4 : gn < 4) {Q : Po}
    (K : ∀ x7 : Int32, RR sc mX12_mostIn 2 0 0 Q 0 0 146 [(7, .int x7), (6, .int (if qis I s gn NH then 1 else 0)), (5, .int g), (4, .int a), (3, .int (nI s)), (2, .int b), (0, .ref 95), (1, .int d)] [] (XW I L tg)) : ∀ n i : Nat, i + n = NH → ∀ c x : Int32, c = (if qis I s gn i then 1 else 0) → x.toInt = i → RR sc mX12_mostIn 2 0 0 Q 0 0 98 [(7, .int x), (6, .int c), (5, .int g), (4, .int a), (3, .int (nI s)), (2, .int b), (0, .ref 95), (1, .int d)] [] (XW I L tg) := by
  intro n
  induction n with
  | zero =>
    intro i hi c x ec hx
    refine r_iload (j := 0) rfl dX12_mostIn_98 ?_
    refine r_aload_n (j := 6) rfl rfl dX12_mostIn_100 ?_
    refine w_getI fX12_355 rfl dX12_mostIn_101 ?_
    refine r_icmp_ge (tgt := 146) dX12_mostIn_104 (by decide) (fun c104 => ?_) (fun c104 => ?_)
    · rw [ec, show i = NH by omega]; exact K _
    · exfalso; ((try simp only [bI_0, bI_1, lc_lt, lc_gt, lc_le, lc_ge, Classical.not_not] at *); (try simp only [i_lt, i_le, i_eq, l_lt, l_le, l_eq, Int32.toInt_toInt64, Int32.reduceToInt, Int64.reduceToInt] at *); omega)
  | succ n ih =>
    intro i hi c x ec hx
    obtain rfl := x_nI hx
    have ob := one_bit (s := s) (h := i) (by omega) (by omega)
    have go : ∀ c' x' : Int32, c' = (if (qis I s gn i || (s.testBit i && qR I i gn)) = true then 1 else 0) → x' = nI i + Int32.ofInt 1 → RR sc mX12_mostIn 2 0 0 Q 0 0 98 [(7, .int x'), (6, .int c'), (5, .int g), (4, .int a), (3, .int (nI s)), (2, .int b), (0, .ref 95), (1, .int d)] [] (XW I L tg) := fun c' x' h1 h2 => ih (i + 1) (by omega) _ _ h1 (by rw [h2]; exact i_inc hx (by omega))
    refine r_iload (j := 0) rfl dX12_mostIn_98 ?_
    refine r_aload_n (j := 6) rfl rfl dX12_mostIn_100 ?_
    refine w_getI fX12_355 rfl dX12_mostIn_101 ?_
    refine r_icmp_ge (tgt := 146) dX12_mostIn_104 (by decide) (fun c104 => ?_) (fun c104 => ?_)
    · exfalso; ((try simp only [bI_0, bI_1, lc_lt, lc_gt, lc_le, lc_ge, Classical.not_not] at *); (try simp only [i_lt, i_le, i_eq, l_lt, l_le, l_eq, Int32.toInt_toInt64, Int32.reduceToInt, Int64.reduceToInt] at *); omega)
    · refine r_iload (j := 1) rfl dX12_mostIn_107 ?_
      refine r_if_ne (tgt := 133) dX12_mostIn_109 (by decide) (fun c109 => ?_) (fun c109 => ?_)
      · refine r_iconst (v := 1) rfl dX12_mostIn_133 ?_
        refine r_goto (tgt := 138) dX12_mostIn_134 (by decide) ?_
        refine r_istore (lv' := fun z => [(6, .int z), (7, .int (nI i)), (5, .int g), (4, .int a), (3, .int (nI s)), (2, .int b), (0, .ref 95), (1, .int d)]) dX12_mostIn_138 (Nat.le_of_ble_eq_true rfl) (fun _ => rfl) (fun x6_138 ex6_138 => ?_)
        refine r_iinc (j := 1) (lv' := fun z => [(7, .int z), (6, .int x6_138), (5, .int g), (4, .int a), (3, .int (nI s)), (2, .int b), (0, .ref 95), (1, .int d)]) dX12_mostIn_140 rfl (Nat.le_of_ble_eq_true rfl) (fun _ => rfl) (fun x7_140 ex7_140 => ?_)
        refine r_goto (tgt := 98) dX12_mostIn_143 (by decide) ?_
        refine go _ _ ?_ ex7_140
        rw [ex6_138]
        by_cases hq : qis I s gn i = true
        · rw [hq]; rfl
        · rw [if_neg hq] at ec; exact absurd ec c109
      · refine r_iload_n (j := 4) rfl rfl dX12_mostIn_112 ?_
        refine r_iload (j := 0) rfl dX12_mostIn_113 ?_
        refine r_ishr dX12_mostIn_115 ?_
        refine r_iconst (v := 1) rfl dX12_mostIn_116 ?_
        refine r_iand dX12_mostIn_117 ?_
        refine r_iconst (v := 1) rfl dX12_mostIn_118 ?_
        refine r_icmp_ne (tgt := 137) dX12_mostIn_119 (by decide) (fun c119 => ?_) (fun c119 => ?_)
        · refine r_iconst (v := 0) rfl dX12_mostIn_137 ?_
          refine r_istore (lv' := fun z => [(6, .int z), (7, .int (nI i)), (5, .int g), (4, .int a), (3, .int (nI s)), (2, .int b), (0, .ref 95), (1, .int d)]) dX12_mostIn_138 (Nat.le_of_ble_eq_true rfl) (fun _ => rfl) (fun x6_138 ex6_138 => ?_)
          refine r_iinc (j := 1) (lv' := fun z => [(7, .int z), (6, .int x6_138), (5, .int g), (4, .int a), (3, .int (nI s)), (2, .int b), (0, .ref 95), (1, .int d)]) dX12_mostIn_140 rfl (Nat.le_of_ble_eq_true rfl) (fun _ => rfl) (fun x7_140 ex7_140 => ?_)
          refine r_goto (tgt := 98) dX12_mostIn_143 (by decide) ?_
          refine go _ _ ?_ ex7_140
          rw [ex6_138]
          have hb : s.testBit i = false := by
            cases h : s.testBit i with
            | false => rfl
            | true => exact absurd (ob.mpr h) c119
          have hq : qis I s gn i = false := by
            cases h : qis I s gn i with
            | false => rfl
            | true => rw [h] at ec; rw [ec] at c109; exact absurd c109 (by decide)
          rw [hb, hq]
          rfl
        · refine r_aload_n (j := 6) rfl rfl dX12_mostIn_122 ?_
          refine r_iload (j := 0) rfl dX12_mostIn_123 ?_
          refine r_iload (j := 2) rfl dX12_mostIn_125 ?_
          refine w_cV2p (k_X12_reaches hx eg (by omega) g4) (Nat.le_of_ble_eq_true rfl) lX12_449 vmX12_reaches rfl (Nat.le_of_ble_eq_true rfl) (Nat.le_of_ble_eq_true rfl) (Nat.le_of_ble_eq_true rfl) dX12_mostIn_127 ?_
          refine r_if_eq (tgt := 137) dX12_mostIn_130 (by decide) (fun c130 => ?_) (fun c130 => ?_)
          · refine r_iconst (v := 0) rfl dX12_mostIn_137 ?_
            refine r_istore (lv' := fun z => [(6, .int z), (7, .int (nI i)), (5, .int g), (4, .int a), (3, .int (nI s)), (2, .int b), (0, .ref 95), (1, .int d)]) dX12_mostIn_138 (Nat.le_of_ble_eq_true rfl) (fun _ => rfl) (fun x6_138 ex6_138 => ?_)
            refine r_iinc (j := 1) (lv' := fun z => [(7, .int z), (6, .int x6_138), (5, .int g), (4, .int a), (3, .int (nI s)), (2, .int b), (0, .ref 95), (1, .int d)]) dX12_mostIn_140 rfl (Nat.le_of_ble_eq_true rfl) (fun _ => rfl) (fun x7_140 ex7_140 => ?_)
            refine r_goto (tgt := 98) dX12_mostIn_143 (by decide) ?_
            refine go _ _ ?_ ex7_140
            rw [ex6_138]
            have hr : qR I i gn = false := decide_eq_false (bI_0.mp c130)
            have hq : qis I s gn i = false := by
              cases h : qis I s gn i with
              | false => rfl
              | true => rw [h] at ec; rw [ec] at c109; exact absurd c109 (by decide)
            rw [hr, hq, Bool.and_false]
            rfl
          · refine r_iconst (v := 1) rfl dX12_mostIn_133 ?_
            refine r_goto (tgt := 138) dX12_mostIn_134 (by decide) ?_
            refine r_istore (lv' := fun z => [(6, .int z), (7, .int (nI i)), (5, .int g), (4, .int a), (3, .int (nI s)), (2, .int b), (0, .ref 95), (1, .int d)]) dX12_mostIn_138 (Nat.le_of_ble_eq_true rfl) (fun _ => rfl) (fun x6_138 ex6_138 => ?_)
            refine r_iinc (j := 1) (lv' := fun z => [(7, .int z), (6, .int x6_138), (5, .int g), (4, .int a), (3, .int (nI s)), (2, .int b), (0, .ref 95), (1, .int d)]) dX12_mostIn_140 rfl (Nat.le_of_ble_eq_true rfl) (fun _ => rfl) (fun x7_140 ex7_140 => ?_)
            refine r_goto (tgt := 98) dX12_mostIn_143 (by decide) ?_
            refine go _ _ ?_ ex7_140
            rw [ex6_138]
            have hr : qR I i gn = true := decide_eq_true (bI_1.mp c130)
            have hb : s.testBit i = true := ob.mp c119
            rw [hr, hb, Bool.and_true, Bool.or_true]
            rfl
theorem l_X12_mo2 {s : Nat} {b : Int32} (hs : s < 256) (hH : (I 95 10).toInt = NH) (h5 : NH ≤ 5) (hG : (I 95 11).toInt = NG) (g4 : NG ≤ 4) {Q : Po}
    (K : ∀ x5 : Int32, RR sc mX12_mostIn 2 0 0 Q 0 0 193 [(5, .int x5), (4, .int (qs2 I d s NH NG)), (3, .int (nI s)), (2, .int b), (0, .ref 95), (1, .int d)] [] (XW I L tg)) : ∀ n i : Nat, i + n = NG → ∀ a x : Int32, a = qs2 I d s NH i → x.toInt = i → RR sc mX12_mostIn 2 0 0 Q 0 0 83 [(5, .int x), (4, .int a), (3, .int (nI s)), (2, .int b), (0, .ref 95), (1, .int d)] [] (XW I L tg) := by
  intro n
  induction n with
  | zero =>
    intro i hi a x ea hx
    refine r_iload (j := 0) rfl dX12_mostIn_83 ?_
    refine r_aload_n (j := 4) rfl rfl dX12_mostIn_85 ?_
    refine w_getI fX12_358 rfl dX12_mostIn_86 ?_
    refine r_icmp_ge (tgt := 193) dX12_mostIn_89 (by decide) (fun c89 => ?_) (fun c89 => ?_)
    · rw [ea, show i = NG by omega]; exact K _
    · exfalso; ((try simp only [bI_0, bI_1, lc_lt, lc_gt, lc_le, lc_ge, Classical.not_not] at *); (try simp only [i_lt, i_le, i_eq, l_lt, l_le, l_eq, Int32.toInt_toInt64, Int32.reduceToInt, Int64.reduceToInt] at *); omega)
  | succ n ih =>
    intro i hi a x ea hx
    have cx := cl_of hx
    have hin := up_in (N := 4) hx (by omega)
    refine r_iload (j := 0) rfl dX12_mostIn_83 ?_
    refine r_aload_n (j := 4) rfl rfl dX12_mostIn_85 ?_
    refine w_getI fX12_358 rfl dX12_mostIn_86 ?_
    refine r_icmp_ge (tgt := 193) dX12_mostIn_89 (by decide) (fun c89 => ?_) (fun c89 => ?_)
    · exfalso; ((try simp only [bI_0, bI_1, lc_lt, lc_gt, lc_le, lc_ge, Classical.not_not] at *); (try simp only [i_lt, i_le, i_eq, l_lt, l_le, l_eq, Int32.toInt_toInt64, Int32.reduceToInt, Int64.reduceToInt] at *); omega)
    · refine r_iconst (v := 0) rfl dX12_mostIn_92 ?_
      refine r_istore (lv' := fun z => [(6, .int z), (5, .int x), (4, .int a), (3, .int (nI s)), (2, .int b), (0, .ref 95), (1, .int d)]) dX12_mostIn_93 (Nat.le_of_ble_eq_true rfl) (fun _ => rfl) (fun x6_93 ex6_93 => ?_)
      refine r_iconst (v := 0) rfl dX12_mostIn_95 ?_
      refine r_istore (lv' := fun z => [(7, .int z), (6, .int x6_93), (5, .int x), (4, .int a), (3, .int (nI s)), (2, .int b), (0, .ref 95), (1, .int d)]) dX12_mostIn_96 (Nat.le_of_ble_eq_true rfl) (fun _ => rfl) (fun x7_96 ex7_96 => ?_)
      refine l_X12_mo3 hs hH h5 hx (by omega) ?_ NH 0 (Nat.zero_add _) _ _ (by rw [ex6_93]; rfl) (by rw [ex7_96]; rfl)
      intro x7
      refine r_lvs [(6, .int (if qis I s i NH then 1 else 0)), (5, .int x), (4, .int a), (3, .int (nI s)), (2, .int b), (0, .ref 95), (1, .int d)] [1, 2, 3, 4, 5, 6, 7] rfl ?_
      refine r_iload (j := 2) rfl dX12_mostIn_146 ?_
      refine r_iload (j := 0) rfl dX12_mostIn_148 ?_
      refine r_if_eq (tgt := 183) dX12_mostIn_150 (by decide) (fun c150 => ?_) (fun c150 => ?_)
      · refine r_iconst (v := 0) rfl dX12_mostIn_183 ?_
        refine r_iadd dX12_mostIn_184 ?_
        refine r_istore (lv' := fun z => [(4, .int z), (6, .int (if qis I s i NH then 1 else 0)), (5, .int x), (3, .int (nI s)), (2, .int b), (0, .ref 95), (1, .int d)]) dX12_mostIn_185 (Nat.le_of_ble_eq_true rfl) (fun _ => rfl) (fun x4_185 ex4_185 => ?_)
        refine r_iinc (j := 2) (lv' := fun z => [(5, .int z), (4, .int x4_185), (6, .int (if qis I s i NH then 1 else 0)), (3, .int (nI s)), (2, .int b), (0, .ref 95), (1, .int d)]) dX12_mostIn_187 rfl (Nat.le_of_ble_eq_true rfl) (fun _ => rfl) (fun x5_187 ex5_187 => ?_)
        refine r_goto (tgt := 83) dX12_mostIn_190 (by decide) ?_
        refine r_lvs [(5, .int x5_187), (4, .int x4_185), (3, .int (nI s)), (2, .int b), (0, .ref 95), (1, .int d)] [0, 1, 3, 4, 5, 6] rfl ?_
        refine ih (i + 1) (by omega) _ _ ?_ (by rw [ex5_187]; exact i_inc hx (by omega))
        rw [ex4_185, ea]
        have hq : ¬ qis I s i NH = true := fun z => by rw [if_pos z] at c150; exact absurd c150 (by decide)
        show _ = qs2 I d s NH i + (if qis I s i NH then qT I d i else 0)
        rw [if_neg hq]
      · refine r_aload_n (j := 5) rfl rfl dX12_mostIn_153 ?_
        refine w_getR (b := 108) fX12_239 rfl rfl dX12_mostIn_154 ?_
        refine r_iload (j := 1) rfl dX12_mostIn_157 ?_
        refine w_iald rfl (by first | assumption | (rw [vp_in_iff]; ((try simp only [bI_0, bI_1, lc_lt, lc_gt, lc_le, lc_ge, Classical.not_not] at *); (try simp only [i_lt, i_le, i_eq, l_lt, l_le, l_eq, Int32.toInt_toInt64, Int32.reduceToInt, Int64.reduceToInt] at *); omega))) dX12_mostIn_159 ?_
        refine r_iload_n (j := 6) rfl rfl dX12_mostIn_160 ?_
        refine r_imul dX12_mostIn_161 ?_
        refine r_aload_n (j := 5) rfl rfl dX12_mostIn_162 ?_
        refine w_getR (b := 109) fX12_242 rfl rfl dX12_mostIn_163 ?_
        refine r_iload (j := 1) rfl dX12_mostIn_166 ?_
        refine w_iald rfl (by first | assumption | (rw [vp_in_iff]; ((try simp only [bI_0, bI_1, lc_lt, lc_gt, lc_le, lc_ge, Classical.not_not] at *); (try simp only [i_lt, i_le, i_eq, l_lt, l_le, l_eq, Int32.toInt_toInt64, Int32.reduceToInt, Int64.reduceToInt] at *); omega))) dX12_mostIn_168 ?_
        refine r_aload_n (j := 5) rfl rfl dX12_mostIn_169 ?_
        refine w_getR (b := 126) fX12_269 rfl rfl dX12_mostIn_170 ?_
        refine r_iload (j := 1) rfl dX12_mostIn_173 ?_
        refine w_iald rfl (by first | assumption | (rw [vp_in_iff]; ((try simp only [bI_0, bI_1, lc_lt, lc_gt, lc_le, lc_ge, Classical.not_not] at *); (try simp only [i_lt, i_le, i_eq, l_lt, l_le, l_eq, Int32.toInt_toInt64, Int32.reduceToInt, Int64.reduceToInt] at *); omega))) dX12_mostIn_175 ?_
        refine r_isub dX12_mostIn_176 ?_
        refine r_mmin lmX12_433 (Nat.le_of_ble_eq_true rfl) (Nat.le_of_ble_eq_true rfl) (Nat.le_of_ble_eq_true rfl) (Nat.le_of_ble_eq_true rfl) dX12_mostIn_177 ?_
        refine r_goto (tgt := 184) dX12_mostIn_180 (by decide) ?_
        refine r_iadd dX12_mostIn_184 ?_
        refine r_istore (lv' := fun z => [(4, .int z), (6, .int (if qis I s i NH then 1 else 0)), (5, .int x), (3, .int (nI s)), (2, .int b), (0, .ref 95), (1, .int d)]) dX12_mostIn_185 (Nat.le_of_ble_eq_true rfl) (fun _ => rfl) (fun x4_185 ex4_185 => ?_)
        refine r_iinc (j := 2) (lv' := fun z => [(5, .int z), (4, .int x4_185), (6, .int (if qis I s i NH then 1 else 0)), (3, .int (nI s)), (2, .int b), (0, .ref 95), (1, .int d)]) dX12_mostIn_187 rfl (Nat.le_of_ble_eq_true rfl) (fun _ => rfl) (fun x5_187 ex5_187 => ?_)
        refine r_goto (tgt := 83) dX12_mostIn_190 (by decide) ?_
        refine r_lvs [(5, .int x5_187), (4, .int x4_185), (3, .int (nI s)), (2, .int b), (0, .ref 95), (1, .int d)] [0, 1, 3, 4, 5, 6] rfl ?_
        refine ih (i + 1) (by omega) _ _ ?_ (by rw [ex5_187]; exact i_inc hx (by omega))
        rw [ex4_185, ea, cx]
        have hq : qis I s i NH = true := by
          by_cases h : qis I s i NH = true
          · exact h
          · exact absurd (if_neg h) c150
        show _ = qs2 I d s NH i + (if qis I s i NH then qT I d i else 0)
        rw [if_pos hq]
        rfl
theorem p2h : ∀ P, P ≤ 5 → (2 : Nat) ^ P ≤ 32 := by decide +kernel
theorem l_X12_mo0 (hH : (I 95 10) = nI NH) (h5 : NH ≤ 5) (hG : (I 95 11).toInt = NG) (g4 : NG ≤ 4) : ∀ n s : Nat, s + n = 2 ^ NH → ∀ b x : Int32, b = qbe I d NH NG s → x.toInt = s → RR sc mX12_mostIn 2 0 0 (rI (qbe I d NH NG (2 ^ NH)) (XW I L tg)) 0 0 4 [(3, .int x), (2, .int b), (0, .ref 95), (1, .int d)] [] (XW I L tg) := by
  have hHi : (I 95 10).toInt = NH := by rw [hH, nI_toInt (by omega)]
  have hp := p2h NH h5
  have e9 : ((1 : Int32) <<< (I 95 10 &&& 31)).toInt = ((2 ^ NH : Nat) : Int) := by rw [hH, s8_one NH (by omega), nI_toInt (by omega)]
  intro n
  induction n with
  | zero =>
    intro s hs b x eb hx
    refine r_iload_n (j := 0) rfl rfl dX12_mostIn_4 ?_
    refine r_iconst (v := 1) rfl dX12_mostIn_5 ?_
    refine r_aload_n (j := 2) rfl rfl dX12_mostIn_6 ?_
    refine w_getI fX12_355 rfl dX12_mostIn_7 ?_
    refine r_ishl dX12_mostIn_10 ?_
    refine r_icmp_ge (tgt := 216) dX12_mostIn_11 (by decide) (fun c11 => ?_) (fun c11 => ?_)
    · refine r_iload_n (j := 1) rfl rfl dX12_mostIn_216 ?_
      refine w_iret rfl (rfl) (Nat.le_of_ble_eq_true rfl) (Nat.le_of_ble_eq_true rfl) dX12_mostIn_217 ?_
      exact ⟨by rw [eb, show s = 2 ^ NH by omega], rfl, rfl, rfl⟩
    · exfalso; ((try simp only [bI_0, bI_1, lc_lt, lc_gt, lc_le, lc_ge, Classical.not_not] at *); (try simp only [i_lt, i_le, i_eq, l_lt, l_le, l_eq, Int32.toInt_toInt64, Int32.reduceToInt, Int64.reduceToInt] at *); omega)
  | succ n ih =>
    intro s hs b x eb hx
    obtain rfl := x_nI hx
    refine r_iload_n (j := 0) rfl rfl dX12_mostIn_4 ?_
    refine r_iconst (v := 1) rfl dX12_mostIn_5 ?_
    refine r_aload_n (j := 2) rfl rfl dX12_mostIn_6 ?_
    refine w_getI fX12_355 rfl dX12_mostIn_7 ?_
    refine r_ishl dX12_mostIn_10 ?_
    refine r_icmp_ge (tgt := 216) dX12_mostIn_11 (by decide) (fun c11 => ?_) (fun c11 => ?_)
    · exfalso; ((try simp only [bI_0, bI_1, lc_lt, lc_gt, lc_le, lc_ge, Classical.not_not] at *); (try simp only [i_lt, i_le, i_eq, l_lt, l_le, l_eq, Int32.toInt_toInt64, Int32.reduceToInt, Int64.reduceToInt] at *); omega)
    · refine r_iconst (v := 0) rfl dX12_mostIn_14 ?_
      refine r_istore (lv' := fun z => [(4, .int z), (3, .int (nI s)), (2, .int b), (0, .ref 95), (1, .int d)]) dX12_mostIn_15 (Nat.le_of_ble_eq_true rfl) (fun _ => rfl) (fun x4_15 ex4_15 => ?_)
      refine r_iconst (v := 0) rfl dX12_mostIn_17 ?_
      refine r_istore (lv' := fun z => [(5, .int z), (4, .int x4_15), (3, .int (nI s)), (2, .int b), (0, .ref 95), (1, .int d)]) dX12_mostIn_18 (Nat.le_of_ble_eq_true rfl) (fun _ => rfl) (fun x5_18 ex5_18 => ?_)
      refine l_X12_mo1 (by omega) hHi h5 ?_ NH 0 (Nat.zero_add _) _ _ (by rw [ex4_15]; rfl) (by rw [ex5_18]; rfl)
      intro x5
      refine r_lvs [(4, .int (qs1 I d s NH)), (3, .int (nI s)), (2, .int b), (0, .ref 95), (1, .int d)] [1, 2, 3, 4, 5] rfl ?_
      refine r_iconst (v := 0) rfl dX12_mostIn_80 ?_
      refine r_istore (lv' := fun z => [(5, .int z), (4, .int (qs1 I d s NH)), (3, .int (nI s)), (2, .int b), (0, .ref 95), (1, .int d)]) dX12_mostIn_81 (Nat.le_of_ble_eq_true rfl) (fun _ => rfl) (fun x5_81 ex5_81 => ?_)
      refine l_X12_mo2 (by omega) hHi h5 hG g4 ?_ NG 0 (Nat.zero_add _) _ _ rfl (by rw [ex5_81]; rfl)
      intro x5
      refine r_lvs [(4, .int (qs2 I d s NH NG)), (3, .int (nI s)), (2, .int b), (0, .ref 95), (1, .int d)] [1, 2, 3, 4, 5] rfl ?_
      refine r_iload_n (j := 2) rfl rfl dX12_mostIn_193 ?_
      refine r_iconst (v := (-1)) rfl dX12_mostIn_194 ?_
      refine r_icmp_ne (tgt := 203) dX12_mostIn_195 (by decide) (fun c195 => ?_) (fun c195 => ?_)
      · refine r_iload_n (j := 2) rfl rfl dX12_mostIn_203 ?_
        refine r_iload (j := 0) rfl dX12_mostIn_204 ?_
        refine r_mmin lmX12_433 (Nat.le_of_ble_eq_true rfl) (Nat.le_of_ble_eq_true rfl) (Nat.le_of_ble_eq_true rfl) (Nat.le_of_ble_eq_true rfl) dX12_mostIn_206 ?_
        refine r_istore_n (lv' := fun z => [(2, .int z), (4, .int (qs2 I d s NH NG)), (3, .int (nI s)), (0, .ref 95), (1, .int d)]) dX12_mostIn_209 rfl (Nat.le_of_ble_eq_true rfl) (fun _ => rfl) (fun x2_209 ex2_209 => ?_)
        refine r_iinc (j := 2) (lv' := fun z => [(3, .int z), (2, .int x2_209), (4, .int (qs2 I d s NH NG)), (0, .ref 95), (1, .int d)]) dX12_mostIn_210 rfl (Nat.le_of_ble_eq_true rfl) (fun _ => rfl) (fun x3_210 ex3_210 => ?_)
        refine r_goto (tgt := 4) dX12_mostIn_213 (by decide) ?_
        refine r_lvs [(3, .int x3_210), (2, .int x2_209), (0, .ref 95), (1, .int d)] [0, 1, 3, 4] rfl ?_
        refine ih (s + 1) (by omega) _ _ ?_ (by rw [ex3_210]; exact i_inc hx (by omega)); rw [ex2_209, qbe, ← eb, if_neg c195]
      · refine r_iload (j := 0) rfl dX12_mostIn_198 ?_
        refine r_goto (tgt := 209) dX12_mostIn_200 (by decide) ?_
        refine r_istore_n (lv' := fun z => [(2, .int z), (4, .int (qs2 I d s NH NG)), (3, .int (nI s)), (0, .ref 95), (1, .int d)]) dX12_mostIn_209 rfl (Nat.le_of_ble_eq_true rfl) (fun _ => rfl) (fun x2_209 ex2_209 => ?_)
        refine r_iinc (j := 2) (lv' := fun z => [(3, .int z), (2, .int x2_209), (4, .int (qs2 I d s NH NG)), (0, .ref 95), (1, .int d)]) dX12_mostIn_210 rfl (Nat.le_of_ble_eq_true rfl) (fun _ => rfl) (fun x3_210 ex3_210 => ?_)
        refine r_goto (tgt := 4) dX12_mostIn_213 (by decide) ?_
        refine r_lvs [(3, .int x3_210), (2, .int x2_209), (0, .ref 95), (1, .int d)] [0, 1, 3, 4] rfl ?_
        refine ih (s + 1) (by omega) _ _ ?_ (by rw [ex3_210]; exact i_inc hx (by omega)); rw [ex2_209, qbe, ← eb, if_pos c195]
theorem k_X12_mostIn {d : Int32} (hH : (I 95 10) = nI NH) (h5 : NH ≤ 5) (hG : (I 95 11).toInt = NG) (g4 : NG ≤ 4) : Con sc mX12_mostIn 2 0 0 [.ref 95, .int d] (XW I L tg) (rI (qbe I d NH NG (2 ^ NH)) (XW I L tg)) := by
  refine Con_of (by decide) (Nat.le_of_ble_eq_true rfl) ?_
  refine r_iconst (v := (-1)) rfl dX12_mostIn_0 ?_
  refine r_istore_n (lv' := fun z => [(2, .int z), (0, .ref 95), (1, .int d)]) dX12_mostIn_1 rfl (Nat.le_of_ble_eq_true rfl) (fun _ => rfl) (fun x2_1 ex2_1 => ?_)
  refine r_iconst (v := 0) rfl dX12_mostIn_2 ?_
  refine r_istore_n (lv' := fun z => [(3, .int z), (2, .int x2_1), (0, .ref 95), (1, .int d)]) dX12_mostIn_3 rfl (Nat.le_of_ble_eq_true rfl) (fun _ => rfl) (fun x3_3 ex3_3 => ?_)
  exact l_X12_mo0 hH h5 hG g4 _ 0 (Nat.zero_add _) _ _ (by rw [ex2_1]; rfl) (by rw [ex3_3]; rfl)
theorem k_X12_most_r {d : Int32} (hc : ¬ (1 ≤ d.toInt ∧ d.toInt ≤ 99)) : Con sc mX12_most 3 0 0 [.ref 95, .int d] (XW I L tg) (rI (-2) (XW I L tg)) := by
  refine Con_of (by decide) (Nat.le_of_ble_eq_true rfl) ?_
  refine r_iload_n (j := 1) rfl rfl dX12_most_0 ?_
  refine r_i2l dX12_most_1 ?_
  refine r_lconst (v := 1) rfl dX12_most_2 ?_
  refine r_ldc2 kX12_431 dX12_most_3 ?_
  refine w_cS3p (k_X12_in) (Nat.le_of_ble_eq_true rfl) lX12_52 mtX12_in (Nat.le_of_ble_eq_true rfl) (Nat.le_of_ble_eq_true rfl) (Nat.le_of_ble_eq_true rfl) dX12_most_6 ?_
  refine r_if_eq (tgt := 20) dX12_most_9 (by decide) (fun c9 => ?_) (fun c9 => ?_)
  · refine r_bipush (v := (-2)) rfl dX12_most_20 ?_
    refine w_iret rfl (rfl) (Nat.le_of_ble_eq_true rfl) (Nat.le_of_ble_eq_true rfl) dX12_most_22 ?_
    exact ⟨rfl, rfl, rfl, rfl⟩
  · exact absurd (by have := bI_1.mp c9; rw [Int32.toInt_toInt64] at this; exact this) hc
theorem k_X12_most_y {d : Int32} (hc : 1 ≤ d.toInt ∧ d.toInt ≤ 99) (hH : (I 95 10) = nI NH) (h5 : NH ≤ 5) (hG : (I 95 11).toInt = NG) (g4 : NG ≤ 4) : Con sc mX12_most 3 0 0 [.ref 95, .int d] (XW I L tg) (rI (qbe I d NH NG (2 ^ NH)) (XW I L tg)) := by
  refine Con_of (by decide) (Nat.le_of_ble_eq_true rfl) ?_
  refine r_iload_n (j := 1) rfl rfl dX12_most_0 ?_
  refine r_i2l dX12_most_1 ?_
  refine r_lconst (v := 1) rfl dX12_most_2 ?_
  refine r_ldc2 kX12_431 dX12_most_3 ?_
  refine w_cS3p (k_X12_in) (Nat.le_of_ble_eq_true rfl) lX12_52 mtX12_in (Nat.le_of_ble_eq_true rfl) (Nat.le_of_ble_eq_true rfl) (Nat.le_of_ble_eq_true rfl) dX12_most_6 ?_
  refine r_if_eq (tgt := 20) dX12_most_9 (by decide) (fun c9 => ?_) (fun c9 => ?_)
  · refine absurd ?_ (bI_0.mp c9); rw [Int32.toInt_toInt64]; exact hc
  · refine r_aload_n (j := 0) rfl rfl dX12_most_12 ?_
    refine r_iload_n (j := 1) rfl rfl dX12_most_13 ?_
    refine w_cV1p (k_X12_mostIn hH h5 hG g4) (Nat.le_of_ble_eq_true rfl) lX12_452 vmX12_mostIn rfl (Nat.le_of_ble_eq_true rfl) (Nat.le_of_ble_eq_true rfl) (Nat.le_of_ble_eq_true rfl) dX12_most_14 ?_
    refine r_goto (tgt := 22) dX12_most_17 (by decide) ?_
    refine w_iret rfl (rfl) (Nat.le_of_ble_eq_true rfl) (Nat.le_of_ble_eq_true rfl) dX12_most_22 ?_
    exact ⟨rfl, rfl, rfl, rfl⟩
/-- the days until all is out -/
def unM (I : Is) (NH NG : Nat) : Int32 := fsk (fun k => decide (sm (I 125) NH = 0 ∨ qbe I (nI k) NH NG (2 ^ NH) = sm (I 125) NH)) 100 0
theorem l_X12_un2 (hH : (I 95 10) = nI NH) (h5 : NH ≤ 5) (hG : (I 95 11).toInt = NG) (g4 : NG ≤ 4) : ∀ n i : Nat, i + n = 100 → ∀ x : Int32, x.toInt = i → RR sc mX12_until 3 0 0 (rI (fsk (fun k => decide (sm (I 125) NH = 0 ∨ qbe I (nI k) NH NG (2 ^ NH) = sm (I 125) NH)) n i) (XW I L tg)) 0 0 29 [(2, .int x), (1, .int (sm (I 125) NH)), (0, .ref 95)] [] (XW I L tg) := by
  intro n
  induction n with
  | zero =>
    intro i hi x hx
    refine r_iload_n (j := 0) rfl rfl dX12_until_29 ?_
    refine r_bipush (v := 99) rfl dX12_until_30 ?_
    refine r_icmp_gt (tgt := 56) dX12_until_32 (by decide) (fun c32 => ?_) (fun c32 => ?_)
    · refine r_iconst (v := (-1)) rfl dX12_until_56 ?_
      refine w_iret rfl (rfl) (Nat.le_of_ble_eq_true rfl) (Nat.le_of_ble_eq_true rfl) dX12_until_57 ?_
      exact ⟨rfl, rfl, rfl, rfl⟩
    · exfalso; ((try simp only [bI_0, bI_1, lc_lt, lc_gt, lc_le, lc_ge, Classical.not_not] at *); (try simp only [i_lt, i_le, i_eq, l_lt, l_le, l_eq, Int32.toInt_toInt64, Int32.reduceToInt, Int64.reduceToInt] at *); omega)
  | succ n ih =>
    intro i hi x hx
    obtain rfl := x_nI hx
    rw [fsk]
    refine r_iload_n (j := 0) rfl rfl dX12_until_29 ?_
    refine r_bipush (v := 99) rfl dX12_until_30 ?_
    refine r_icmp_gt (tgt := 56) dX12_until_32 (by decide) (fun c32 => ?_) (fun c32 => ?_)
    · exfalso; ((try simp only [bI_0, bI_1, lc_lt, lc_gt, lc_le, lc_ge, Classical.not_not] at *); (try simp only [i_lt, i_le, i_eq, l_lt, l_le, l_eq, Int32.toInt_toInt64, Int32.reduceToInt, Int64.reduceToInt] at *); omega)
    · refine r_iload_n (j := 1) rfl rfl dX12_until_35 ?_
      refine r_if_eq (tgt := 48) dX12_until_36 (by decide) (fun c36 => ?_) (fun c36 => ?_)
      · refine r_iload_n (j := 0) rfl rfl dX12_until_48 ?_
        refine w_iret rfl (rfl) (Nat.le_of_ble_eq_true rfl) (Nat.le_of_ble_eq_true rfl) dX12_until_49 ?_
        exact ⟨by rw [if_pos (decide_eq_true (Or.inl c36))], rfl, rfl, rfl⟩
      · refine r_aload_n (j := 2) rfl rfl dX12_until_39 ?_
        refine r_iload_n (j := 0) rfl rfl dX12_until_40 ?_
        refine w_cV1p (k_X12_mostIn hH h5 hG g4) (Nat.le_of_ble_eq_true rfl) lX12_452 vmX12_mostIn rfl (Nat.le_of_ble_eq_true rfl) (Nat.le_of_ble_eq_true rfl) (Nat.le_of_ble_eq_true rfl) dX12_until_41 ?_
        refine r_iload_n (j := 1) rfl rfl dX12_until_44 ?_
        refine r_icmp_ne (tgt := 50) dX12_until_45 (by decide) (fun c45 => ?_) (fun c45 => ?_)
        · refine r_iinc (j := 0) (lv' := fun z => [(2, .int z), (1, .int (sm (I 125) NH)), (0, .ref 95)]) dX12_until_50 rfl (Nat.le_of_ble_eq_true rfl) (fun _ => rfl) (fun x2_50 ex2_50 => ?_)
          refine r_goto (tgt := 29) dX12_until_53 (by decide) ?_
          rw [if_neg (show ¬ decide (sm (I 125) NH = 0 ∨ qbe I (nI i) NH NG (2 ^ NH) = sm (I 125) NH) = true from fun z => (of_decide_eq_true z).elim c36 c45)]
          exact ih (i + 1) (by omega) _ (by rw [ex2_50]; exact i_inc hx (by omega))
        · refine r_iload_n (j := 0) rfl rfl dX12_until_48 ?_
          refine w_iret rfl (rfl) (Nat.le_of_ble_eq_true rfl) (Nat.le_of_ble_eq_true rfl) dX12_until_49 ?_
          exact ⟨by rw [if_pos (decide_eq_true (Or.inr c45))], rfl, rfl, rfl⟩
theorem l_X12_un1 (hH : (I 95 10) = nI NH) (h5 : NH ≤ 5) (hG : (I 95 11).toInt = NG) (g4 : NG ≤ 4) : ∀ n i : Nat, i + n = NH → ∀ a x : Int32, a = sm (I 125) i → x.toInt = i → RR sc mX12_until 3 0 0 (rI (unM I NH NG) (XW I L tg)) 0 0 4 [(2, .int x), (1, .int a), (0, .ref 95)] [] (XW I L tg) := by
  have hHi : (I 95 10).toInt = NH := by rw [hH, nI_toInt (by omega)]
  intro n
  induction n with
  | zero =>
    intro i hi a x ea hx
    refine r_iload_n (j := 0) rfl rfl dX12_until_4 ?_
    refine r_aload_n (j := 2) rfl rfl dX12_until_5 ?_
    refine w_getI fX12_355 rfl dX12_until_6 ?_
    refine r_icmp_ge (tgt := 27) dX12_until_9 (by decide) (fun c9 => ?_) (fun c9 => ?_)
    · refine r_iconst (v := 0) rfl dX12_until_27 ?_
      refine r_istore_n (lv' := fun z => [(2, .int z), (1, .int a), (0, .ref 95)]) dX12_until_28 rfl (Nat.le_of_ble_eq_true rfl) (fun _ => rfl) (fun x2_28 ex2_28 => ?_)
      rw [ea, show i = NH by omega]; exact l_X12_un2 hH h5 hG g4 100 0 rfl _ (by rw [ex2_28]; rfl)
    · exfalso; ((try simp only [bI_0, bI_1, lc_lt, lc_gt, lc_le, lc_ge, Classical.not_not] at *); (try simp only [i_lt, i_le, i_eq, l_lt, l_le, l_eq, Int32.toInt_toInt64, Int32.reduceToInt, Int64.reduceToInt] at *); omega)
  | succ n ih =>
    intro i hi a x ea hx
    refine r_iload_n (j := 0) rfl rfl dX12_until_4 ?_
    refine r_aload_n (j := 2) rfl rfl dX12_until_5 ?_
    refine w_getI fX12_355 rfl dX12_until_6 ?_
    refine r_icmp_ge (tgt := 27) dX12_until_9 (by decide) (fun c9 => ?_) (fun c9 => ?_)
    · exfalso; ((try simp only [bI_0, bI_1, lc_lt, lc_gt, lc_le, lc_ge, Classical.not_not] at *); (try simp only [i_lt, i_le, i_eq, l_lt, l_le, l_eq, Int32.toInt_toInt64, Int32.reduceToInt, Int64.reduceToInt] at *); omega)
    · refine r_iload_n (j := 1) rfl rfl dX12_until_12 ?_
      refine r_aload_n (j := 2) rfl rfl dX12_until_13 ?_
      refine w_getR (b := 125) fX12_267 rfl rfl dX12_until_14 ?_
      refine r_iload_n (j := 0) rfl rfl dX12_until_17 ?_
      refine w_iald rfl (by first | assumption | (rw [vp_in_iff]; ((try simp only [bI_0, bI_1, lc_lt, lc_gt, lc_le, lc_ge, Classical.not_not] at *); (try simp only [i_lt, i_le, i_eq, l_lt, l_le, l_eq, Int32.toInt_toInt64, Int32.reduceToInt, Int64.reduceToInt] at *); omega))) dX12_until_18 ?_
      refine r_iadd dX12_until_19 ?_
      refine r_istore_n (lv' := fun z => [(1, .int z), (2, .int x), (0, .ref 95)]) dX12_until_20 rfl (Nat.le_of_ble_eq_true rfl) (fun _ => rfl) (fun x1_20 ex1_20 => ?_)
      refine r_iinc (j := 1) (lv' := fun z => [(2, .int z), (1, .int x1_20), (0, .ref 95)]) dX12_until_21 rfl (Nat.le_of_ble_eq_true rfl) (fun _ => rfl) (fun x2_21 ex2_21 => ?_)
      refine r_goto (tgt := 4) dX12_until_24 (by decide) ?_
      exact ih (i + 1) (by omega) _ _ (by rw [ex1_20, ea, cl_of hx]; rfl) (by rw [ex2_21]; exact i_inc hx (by omega))
theorem k_X12_until (hH : (I 95 10) = nI NH) (h5 : NH ≤ 5) (hG : (I 95 11).toInt = NG) (g4 : NG ≤ 4) : Con sc mX12_until 3 0 0 [.ref 95] (XW I L tg) (rI (unM I NH NG) (XW I L tg)) := by
  refine Con_of (by decide) (Nat.le_of_ble_eq_true rfl) ?_
  refine r_iconst (v := 0) rfl dX12_until_0 ?_
  refine r_istore_n (lv' := fun z => [(1, .int z), (0, .ref 95)]) dX12_until_1 rfl (Nat.le_of_ble_eq_true rfl) (fun _ => rfl) (fun x1_1 ex1_1 => ?_)
  refine r_iconst (v := 0) rfl dX12_until_2 ?_
  refine r_istore_n (lv' := fun z => [(2, .int z), (1, .int x1_1), (0, .ref 95)]) dX12_until_3 rfl (Nat.le_of_ble_eq_true rfl) (fun _ => rfl) (fun x2_3 ex2_3 => ?_)
  exact l_X12_un1 hH h5 hG g4 _ 0 (Nat.zero_add _) _ _ ex1_1 (by rw [ex2_3]; rfl)
end
