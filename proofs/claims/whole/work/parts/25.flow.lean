/-! Flow: the least cut; most in so many days -/
theorem x_nI {x : Int32} {i : Nat} (h : x.toInt = i) : x = nI i := by
  have := (i_rng x).2
  rw [i_eq, h, nI_toInt (by omega)]
/-- a bit of a set is not there -/
abbrev bz (s : Int32) (i : Nat) : Prop := (s >>> (nI i &&& 31)) &&& 1 = 0
theorem bz_x {s x : Int32} {i : Nat} (h : x.toInt = i) : ((s >>> (x &&& 31)) &&& 1 = 0) = bz s i := by rw [x_nI h]
def ct1 (fr wy : Nat → Int32) (s : Int32) : Nat → Int32 × Int32
  | 0 => (0, 0)
  | i + 1 => if bz s i then ((ct1 fr wy s i).1, (ct1 fr wy s i).2 + fr i) else ((ct1 fr wy s i).1 ||| wy i, (ct1 fr wy s i).2)
def ct2 (to : Nat → Int32) (r c : Int32) : Nat → Int32
  | 0 => c
  | i + 1 => if bz r i then ct2 to r c i else ct2 to r c i + to i
def cut (fr to wy : Nat → Int32) (s : Int32) : Int32 := ct2 to (ct1 fr wy s 5).1 (ct1 fr wy s 5).2 5
theorem l_X4_cut2 {sc : Sc} {I : Is} {L : Ls} {tg : Nat} {s r c0 : Int32} : ∀ n i : Nat, i + n = 5 → ∀ c x : Int32, c = ct2 (I 66) r c0 i → x.toInt = i → RR sc mX4_cutBehind 0 0 0 (rI (ct2 (I 66) r c0 5) (XW I L tg)) 0 0 54 [(4, .int x), (3, .int c), (2, .int r), (0, .ref 64), (1, .int s)] [] (XW I L tg) := by
  intro n
  induction n with
  | zero =>
    intro i hi c x ec hx
    refine r_iload (j := 0) rfl dX4_cutBehind_54 ?_
    refine r_iconst (v := 5) rfl dX4_cutBehind_56 ?_
    refine r_icmp_ge (tgt := 85) dX4_cutBehind_57 (by decide) (fun c57 => ?_) (fun c57 => ?_)
    · refine r_iload_n (j := 1) rfl rfl dX4_cutBehind_85 ?_
      refine w_iret rfl (rfl) (Nat.le_of_ble_eq_true rfl) (Nat.le_of_ble_eq_true rfl) dX4_cutBehind_86 ?_
      exact ⟨by rw [ec, show i = 5 by omega], rfl, rfl, rfl⟩
    · exfalso; ((try simp only [bI_0, bI_1, lc_lt, lc_gt, lc_le, lc_ge, Classical.not_not] at *); (try simp only [i_lt, i_le, i_eq, l_lt, l_le, l_eq, Int32.toInt_toInt64, Int32.reduceToInt, Int64.reduceToInt] at *); omega)
  | succ n ih =>
    intro i hi c x ec hx
    have cx := cl_of hx
    refine r_iload (j := 0) rfl dX4_cutBehind_54 ?_
    refine r_iconst (v := 5) rfl dX4_cutBehind_56 ?_
    refine r_icmp_ge (tgt := 85) dX4_cutBehind_57 (by decide) (fun c57 => ?_) (fun c57 => ?_)
    · exfalso; ((try simp only [bI_0, bI_1, lc_lt, lc_gt, lc_le, lc_ge, Classical.not_not] at *); (try simp only [i_lt, i_le, i_eq, l_lt, l_le, l_eq, Int32.toInt_toInt64, Int32.reduceToInt, Int64.reduceToInt] at *); omega)
    · refine r_iload_n (j := 2) rfl rfl dX4_cutBehind_60 ?_
      refine r_iload (j := 0) rfl dX4_cutBehind_61 ?_
      refine r_ishr dX4_cutBehind_63 ?_
      refine r_iconst (v := 1) rfl dX4_cutBehind_64 ?_
      refine r_iand dX4_cutBehind_65 ?_
      refine r_if_eq (tgt := 79) dX4_cutBehind_66 (by decide) (fun c66 => ?_) (fun c66 => ?_)
      · refine r_iinc (j := 0) (lv' := fun z => [(4, .int z), (3, .int c), (2, .int r), (0, .ref 64), (1, .int s)]) dX4_cutBehind_79 rfl (Nat.le_of_ble_eq_true rfl) (fun _ => rfl) (fun x4_79 ex4_79 => ?_)
        refine r_goto (tgt := 54) dX4_cutBehind_82 (by decide) ?_
        rw [bz_x hx] at c66; exact ih (i + 1) (by omega) _ _ (by rw [ct2, if_pos c66]; exact ec) (by rw [ex4_79]; exact i_inc hx (by omega))
      · refine r_iload_n (j := 1) rfl rfl dX4_cutBehind_69 ?_
        refine r_aload_n (j := 3) rfl rfl dX4_cutBehind_70 ?_
        refine w_getR (b := 66) fX4_15 rfl rfl dX4_cutBehind_71 ?_
        refine r_iload (j := 0) rfl dX4_cutBehind_74 ?_
        refine w_iald rfl (up_in hx (by omega)) dX4_cutBehind_76 ?_
        refine r_iadd dX4_cutBehind_77 ?_
        refine r_istore_n (lv' := fun z => [(3, .int z), (4, .int x), (2, .int r), (0, .ref 64), (1, .int s)]) dX4_cutBehind_78 rfl (Nat.le_of_ble_eq_true rfl) (fun _ => rfl) (fun x3_78 ex3_78 => ?_)
        refine r_iinc (j := 1) (lv' := fun z => [(4, .int z), (3, .int x3_78), (2, .int r), (0, .ref 64), (1, .int s)]) dX4_cutBehind_79 rfl (Nat.le_of_ble_eq_true rfl) (fun _ => rfl) (fun x4_79 ex4_79 => ?_)
        refine r_goto (tgt := 54) dX4_cutBehind_82 (by decide) ?_
        rw [bz_x hx] at c66; exact ih (i + 1) (by omega) _ _ (by rw [ct2, if_neg c66, ex3_78, cx, ec]) (by rw [ex4_79]; exact i_inc hx (by omega))
theorem l_X4_cut1 {sc : Sc} {I : Is} {L : Ls} {tg : Nat} {s : Int32} : ∀ n i : Nat, i + n = 5 → ∀ r c x : Int32, r = (ct1 (I 65) (I 67) s i).1 → c = (ct1 (I 65) (I 67) s i).2 → x.toInt = i → RR sc mX4_cutBehind 0 0 0 (rI (cut (I 65) (I 66) (I 67) s) (XW I L tg)) 0 0 7 [(4, .int x), (3, .int c), (2, .int r), (0, .ref 64), (1, .int s)] [] (XW I L tg) := by
  intro n
  induction n with
  | zero =>
    intro i hi r c x er ec hx
    have h5 : i = 5 := by omega
    subst h5
    subst er ec
    refine r_iload (j := 0) rfl dX4_cutBehind_7 ?_
    refine r_iconst (v := 5) rfl dX4_cutBehind_9 ?_
    refine r_icmp_ge (tgt := 51) dX4_cutBehind_10 (by decide) (fun c10 => ?_) (fun c10 => ?_)
    · refine r_iconst (v := 0) rfl dX4_cutBehind_51 ?_
      refine r_istore (lv' := fun z => [(4, .int z), (3, .int (ct1 (I 65) (I 67) s 5).2), (2, .int (ct1 (I 65) (I 67) s 5).1), (0, .ref 64), (1, .int s)]) dX4_cutBehind_52 (Nat.le_of_ble_eq_true rfl) (fun _ => rfl) (fun x4_52 ex4_52 => ?_)
      exact l_X4_cut2 5 0 rfl _ _ rfl (by rw [ex4_52]; rfl)
    · exfalso; ((try simp only [bI_0, bI_1, lc_lt, lc_gt, lc_le, lc_ge, Classical.not_not] at *); (try simp only [i_lt, i_le, i_eq, l_lt, l_le, l_eq, Int32.toInt_toInt64, Int32.reduceToInt, Int64.reduceToInt] at *); omega)
  | succ n ih =>
    intro i hi r c x er ec hx
    have cx := cl_of hx
    refine r_iload (j := 0) rfl dX4_cutBehind_7 ?_
    refine r_iconst (v := 5) rfl dX4_cutBehind_9 ?_
    refine r_icmp_ge (tgt := 51) dX4_cutBehind_10 (by decide) (fun c10 => ?_) (fun c10 => ?_)
    · exfalso; ((try simp only [bI_0, bI_1, lc_lt, lc_gt, lc_le, lc_ge, Classical.not_not] at *); (try simp only [i_lt, i_le, i_eq, l_lt, l_le, l_eq, Int32.toInt_toInt64, Int32.reduceToInt, Int64.reduceToInt] at *); omega)
    · refine r_iload_n (j := 4) rfl rfl dX4_cutBehind_13 ?_
      refine r_iload (j := 0) rfl dX4_cutBehind_14 ?_
      refine r_ishr dX4_cutBehind_16 ?_
      refine r_iconst (v := 1) rfl dX4_cutBehind_17 ?_
      refine r_iand dX4_cutBehind_18 ?_
      refine r_if_eq (tgt := 35) dX4_cutBehind_19 (by decide) (fun c19 => ?_) (fun c19 => ?_)
      · refine r_iload_n (j := 1) rfl rfl dX4_cutBehind_35 ?_
        refine r_aload_n (j := 3) rfl rfl dX4_cutBehind_36 ?_
        refine w_getR (b := 65) fX4_9 rfl rfl dX4_cutBehind_37 ?_
        refine r_iload (j := 0) rfl dX4_cutBehind_40 ?_
        refine w_iald rfl (up_in hx (by omega)) dX4_cutBehind_42 ?_
        refine r_iadd dX4_cutBehind_43 ?_
        refine r_istore_n (lv' := fun z => [(3, .int z), (4, .int x), (2, .int r), (0, .ref 64), (1, .int s)]) dX4_cutBehind_44 rfl (Nat.le_of_ble_eq_true rfl) (fun _ => rfl) (fun x3_44 ex3_44 => ?_)
        refine r_iinc (j := 1) (lv' := fun z => [(4, .int z), (3, .int x3_44), (2, .int r), (0, .ref 64), (1, .int s)]) dX4_cutBehind_45 rfl (Nat.le_of_ble_eq_true rfl) (fun _ => rfl) (fun x4_45 ex4_45 => ?_)
        refine r_goto (tgt := 7) dX4_cutBehind_48 (by decide) ?_
        rw [bz_x hx] at c19; exact ih (i + 1) (by omega) _ _ _ (by rw [ct1, if_pos c19]; exact er) (by rw [ct1, if_pos c19, ex3_44, cx, ec]) (by rw [ex4_45]; exact i_inc hx (by omega))
      · refine r_iload_n (j := 2) rfl rfl dX4_cutBehind_22 ?_
        refine r_aload_n (j := 3) rfl rfl dX4_cutBehind_23 ?_
        refine w_getR (b := 67) fX4_18 rfl rfl dX4_cutBehind_24 ?_
        refine r_iload (j := 0) rfl dX4_cutBehind_27 ?_
        refine w_iald rfl (up_in hx (by omega)) dX4_cutBehind_29 ?_
        refine r_ior dX4_cutBehind_30 ?_
        refine r_istore_n (lv' := fun z => [(2, .int z), (4, .int x), (3, .int c), (0, .ref 64), (1, .int s)]) dX4_cutBehind_31 rfl (Nat.le_of_ble_eq_true rfl) (fun _ => rfl) (fun x2_31 ex2_31 => ?_)
        refine r_goto (tgt := 45) dX4_cutBehind_32 (by decide) ?_
        refine r_iinc (j := 1) (lv' := fun z => [(4, .int z), (2, .int x2_31), (3, .int c), (0, .ref 64), (1, .int s)]) dX4_cutBehind_45 rfl (Nat.le_of_ble_eq_true rfl) (fun _ => rfl) (fun x4_45 ex4_45 => ?_)
        refine r_goto (tgt := 7) dX4_cutBehind_48 (by decide) ?_
        refine r_lvs [(4, .int x4_45), (3, .int c), (2, .int x2_31), (0, .ref 64), (1, .int s)] [0, 2, 1, 3, 4] rfl ?_
        rw [bz_x hx] at c19; exact ih (i + 1) (by omega) _ _ _ (by rw [ct1, if_neg c19, ex2_31, cx, er]) (by rw [ct1, if_neg c19]; exact ec) (by rw [ex4_45]; exact i_inc hx (by omega))
theorem k_X4_cutBehind {sc : Sc} {I : Is} {L : Ls} {tg : Nat} {s : Int32} : Con sc mX4_cutBehind 0 0 0 [.ref 64, .int s] (XW I L tg) (rI (cut (I 65) (I 66) (I 67) s) (XW I L tg)) := by
  refine Con_of (by decide) (Nat.le_of_ble_eq_true rfl) ?_
  refine r_iconst (v := 0) rfl dX4_cutBehind_0 ?_
  refine r_istore_n (lv' := fun z => [(2, .int z), (0, .ref 64), (1, .int s)]) dX4_cutBehind_1 rfl (Nat.le_of_ble_eq_true rfl) (fun _ => rfl) (fun x2_1 ex2_1 => ?_)
  refine r_iconst (v := 0) rfl dX4_cutBehind_2 ?_
  refine r_istore_n (lv' := fun z => [(3, .int z), (2, .int x2_1), (0, .ref 64), (1, .int s)]) dX4_cutBehind_3 rfl (Nat.le_of_ble_eq_true rfl) (fun _ => rfl) (fun x3_3 ex3_3 => ?_)
  refine r_iconst (v := 0) rfl dX4_cutBehind_4 ?_
  refine r_istore (lv' := fun z => [(4, .int z), (3, .int x3_3), (2, .int x2_1), (0, .ref 64), (1, .int s)]) dX4_cutBehind_5 (Nat.le_of_ble_eq_true rfl) (fun _ => rfl) (fun x4_5 ex4_5 => ?_)
  exact l_X4_cut1 5 0 rfl _ _ _ (by rw [ex2_1]; rfl) (by rw [ex3_3]; rfl) (by rw [ex4_5]; rfl)
/-- the least of f 0 .. f n -/
def lst (f : Nat → Int32) : Nat → Int32
  | 0 => f 0
  | n + 1 => iMin (lst f n) (f (n + 1))
theorem l_X4_greatest {sc : Sc} {I : Is} {L : Ls} {tg : Nat} : ∀ n i : Nat, i + n = 31 → ∀ a x : Int32, a = lst (fun s => cut (I 65) (I 66) (I 67) (nI s)) i → x.toInt = ((i + 1 : Nat) : Int) → RR sc mX4_greatest 1 0 0 (rI (lst (fun s => cut (I 65) (I 66) (I 67) (nI s)) 31) (XW I L tg)) 0 0 8 [(2, .int x), (1, .int a), (0, .ref 64)] [] (XW I L tg) := by
  intro n
  induction n with
  | zero =>
    intro i hi a x ea hx
    refine r_iload_n (j := 0) rfl rfl dX4_greatest_8 ?_
    refine r_bipush (v := 32) rfl dX4_greatest_9 ?_
    refine r_icmp_ge (tgt := 30) dX4_greatest_11 (by decide) (fun c11 => ?_) (fun c11 => ?_)
    · refine r_iload_n (j := 1) rfl rfl dX4_greatest_30 ?_
      refine w_iret rfl (rfl) (Nat.le_of_ble_eq_true rfl) (Nat.le_of_ble_eq_true rfl) dX4_greatest_31 ?_
      exact ⟨by rw [ea, show i = 31 by omega], rfl, rfl, rfl⟩
    · exfalso; ((try simp only [bI_0, bI_1, lc_lt, lc_gt, lc_le, lc_ge, Classical.not_not] at *); (try simp only [i_lt, i_le, i_eq, l_lt, l_le, l_eq, Int32.toInt_toInt64, Int32.reduceToInt, Int64.reduceToInt] at *); omega)
  | succ n ih =>
    intro i hi a x ea hx
    refine r_iload_n (j := 0) rfl rfl dX4_greatest_8 ?_
    refine r_bipush (v := 32) rfl dX4_greatest_9 ?_
    refine r_icmp_ge (tgt := 30) dX4_greatest_11 (by decide) (fun c11 => ?_) (fun c11 => ?_)
    · exfalso; ((try simp only [bI_0, bI_1, lc_lt, lc_gt, lc_le, lc_ge, Classical.not_not] at *); (try simp only [i_lt, i_le, i_eq, l_lt, l_le, l_eq, Int32.toInt_toInt64, Int32.reduceToInt, Int64.reduceToInt] at *); omega)
    · refine r_iload_n (j := 1) rfl rfl dX4_greatest_14 ?_
      refine r_aload_n (j := 2) rfl rfl dX4_greatest_15 ?_
      refine r_iload_n (j := 0) rfl rfl dX4_greatest_16 ?_
      refine w_cV1p (k_X4_cutBehind) (Nat.le_of_ble_eq_true rfl) lX4_27 vmX4_cutBehind rfl (Nat.le_of_ble_eq_true rfl) (Nat.le_of_ble_eq_true rfl) (Nat.le_of_ble_eq_true rfl) dX4_greatest_17 ?_
      refine r_mmin lmX4_31 (Nat.le_of_ble_eq_true rfl) (Nat.le_of_ble_eq_true rfl) (Nat.le_of_ble_eq_true rfl) (Nat.le_of_ble_eq_true rfl) dX4_greatest_20 ?_
      refine r_istore_n (lv' := fun z => [(1, .int z), (2, .int x), (0, .ref 64)]) dX4_greatest_23 rfl (Nat.le_of_ble_eq_true rfl) (fun _ => rfl) (fun x1_23 ex1_23 => ?_)
      refine r_iinc (j := 1) (lv' := fun z => [(2, .int z), (1, .int x1_23), (0, .ref 64)]) dX4_greatest_24 rfl (Nat.le_of_ble_eq_true rfl) (fun _ => rfl) (fun x2_24 ex2_24 => ?_)
      refine r_goto (tgt := 8) dX4_greatest_27 (by decide) ?_
      exact ih (i + 1) (by omega) _ _ (by rw [ex1_23, ea, x_nI hx]; rfl) (by rw [ex2_24]; exact i_inc hx (by omega))
def grt (I : Is) : Int32 := lst (fun s => cut (I 65) (I 66) (I 67) (nI s)) 31
theorem k_X4_greatest {sc : Sc} {I : Is} {L : Ls} {tg : Nat} : Con sc mX4_greatest 1 0 0 [.ref 64] (XW I L tg) (rI (grt I) (XW I L tg)) := by
  refine Con_of (by decide) (Nat.le_of_ble_eq_true rfl) ?_
  refine r_aload_n (j := 0) rfl rfl dX4_greatest_0 ?_
  refine r_iconst (v := 0) rfl dX4_greatest_1 ?_
  refine w_cV1p (k_X4_cutBehind) (Nat.le_of_ble_eq_true rfl) lX4_27 vmX4_cutBehind rfl (Nat.le_of_ble_eq_true rfl) (Nat.le_of_ble_eq_true rfl) (Nat.le_of_ble_eq_true rfl) dX4_greatest_2 ?_
  refine r_istore_n (lv' := fun z => [(1, .int z), (0, .ref 64)]) dX4_greatest_5 rfl (Nat.le_of_ble_eq_true rfl) (fun _ => rfl) (fun x1_5 ex1_5 => ?_)
  refine r_iconst (v := 1) rfl dX4_greatest_6 ?_
  refine r_istore_n (lv' := fun z => [(2, .int z), (1, .int x1_5), (0, .ref 64)]) dX4_greatest_7 rfl (Nat.le_of_ble_eq_true rfl) (fun _ => rfl) (fun x2_7 ex2_7 => ?_)
  exact l_X4_greatest 31 0 rfl _ _ ex1_5 (by rw [ex2_7]; rfl)
def z5 (I : Is) (a : Nat) : Is := upr I a (fillr (I a) 5 0)
theorem k_X4_clear {sc : Sc} {I : Is} {L : Ls} {tg : Nat} : Con sc mX4_clear 1 0 0 [.ref 64] (XW I L tg) (rV (XW (z5 (z5 (z5 I 65) 66) 67) L tg)) := by
  refine Con_of (by decide) (Nat.le_of_ble_eq_true rfl) ?_
  refine r_aload_n (j := 0) rfl rfl dX4_clear_0 ?_
  refine w_getR (b := 65) fX4_9 rfl rfl dX4_clear_1 ?_
  refine r_iconst (v := 0) rfl dX4_clear_4 ?_
  refine w_cS2v (k_J7_fill_53178 (N := 5) rfl (by decide)) (Nat.le_of_ble_eq_true rfl) lX4_21 mtJ7_fill_53178 (Nat.le_of_ble_eq_true rfl) (Nat.le_of_ble_eq_true rfl) (Nat.le_of_ble_eq_true rfl) dX4_clear_5 (fun J5 K5 hJ5 hK5 => ?_)
  subst hK5
  refine r_aload_n (j := 0) rfl rfl dX4_clear_8 ?_
  refine w_getR (b := 66) fX4_15 rfl rfl dX4_clear_9 ?_
  refine r_iconst (v := 0) rfl dX4_clear_12 ?_
  refine w_cS2v (k_J7_fill_53178 (N := 5) rfl (by decide)) (Nat.le_of_ble_eq_true rfl) lX4_21 mtJ7_fill_53178 (Nat.le_of_ble_eq_true rfl) (Nat.le_of_ble_eq_true rfl) (Nat.le_of_ble_eq_true rfl) dX4_clear_13 (fun J13 K13 hJ13 hK13 => ?_)
  subst hK13
  refine r_aload_n (j := 0) rfl rfl dX4_clear_16 ?_
  refine w_getR (b := 67) fX4_18 rfl rfl dX4_clear_17 ?_
  refine r_iconst (v := 0) rfl dX4_clear_20 ?_
  refine w_cS2v (k_J7_fill_53178 (N := 5) rfl (by decide)) (Nat.le_of_ble_eq_true rfl) lX4_21 mtJ7_fill_53178 (Nat.le_of_ble_eq_true rfl) (Nat.le_of_ble_eq_true rfl) (Nat.le_of_ble_eq_true rfl) dX4_clear_21 (fun J21 K21 hJ21 hK21 => ?_)
  subst hK21
  refine w_vret rfl (Nat.le_of_ble_eq_true rfl) (Nat.le_of_ble_eq_true rfl) dX4_clear_24 ?_
  subst hJ21 hJ13 hJ5; exact ⟨rfl, rfl, rfl⟩
