/-! looks: kept, second -/
def dayp (ln : Nat → Int32) (bits v : Int32) : Nat → Int32
  | 0 => v
  | l + 1 => if bz bits l then dayp ln bits v l else dayp ln bits v l * (100 - ln l) / 100
def kpt (ln : Nat → Int32) (bits : Int32) (NL : Nat) : Nat → Int32
  | 0 => 1000000
  | d + 1 => dayp ln bits (kpt ln bits NL d) NL
theorem upr_up {I : Is} {a k : Nat} {f : Nat → Int32} {v : Int32} : up (upr I a f) a k v = upr I a (va_up f k v) := by
  funext q
  by_cases h : q = a
  · subst h; rw [up_s, upr_s, upr_s]
  · rw [up_n _ _ _ h, upr_n _ _ h, upr_n _ _ h]
theorem up_uprow {I : Is} {a k : Nat} {v : Int32} : up I a k v = upr I a (va_up (I a) k v) := rfl
section Lks
variable {sc : Sc} {I : Is} {L : Ls} {tg NL : Nat} {b : Int32}
theorem l_X5_rk2 {R : Nat → Int32} (hL : (I 3 16).toInt = NL) (h4 : NL ≤ 4) {d : Int32} {v : Int32} {P : Po}
    (K : ∀ x5 : Int32, RR sc mX5_reckon 0 0 0 P 0 0 74 [(5, .int x5), (4, .int (dayp (I 17) b v NL)), (3, .int d), (0, .ref 73), (1, .ref 3), (2, .int b)] [] (XW (upr I 74 R) L tg)) : ∀ n i : Nat, i + n = NL → ∀ a x : Int32, a = dayp (I 17) b v i → x.toInt = i → RR sc mX5_reckon 0 0 0 P 0 0 32 [(5, .int x), (4, .int a), (3, .int d), (0, .ref 73), (1, .ref 3), (2, .int b)] [] (XW (upr I 74 R) L tg) := by
  have hLJ : ((upr I 74 R) 3 16).toInt = NL := by rw [upr_n _ _ (by decide)]; exact hL
  intro n
  induction n with
  | zero =>
    intro i hi a x ea hx
    refine r_iload (j := 0) rfl dX5_reckon_32 ?_
    refine r_aload_n (j := 4) rfl rfl dX5_reckon_34 ?_
    refine w_getI fX5_16 rfl dX5_reckon_35 ?_
    refine r_icmp_ge (tgt := 74) dX5_reckon_38 (by decide) (fun c38 => ?_) (fun c38 => ?_)
    · rw [ea, show i = NL by omega]; exact K _
    · exfalso; ((try simp only [bI_0, bI_1, lc_lt, lc_gt, lc_le, lc_ge, Classical.not_not] at *); (try simp only [i_lt, i_le, i_eq, l_lt, l_le, l_eq, Int32.toInt_toInt64, Int32.reduceToInt, Int64.reduceToInt] at *); omega)
  | succ n ih =>
    intro i hi a x ea hx
    have cx := cl_of hx
    refine r_iload (j := 0) rfl dX5_reckon_32 ?_
    refine r_aload_n (j := 4) rfl rfl dX5_reckon_34 ?_
    refine w_getI fX5_16 rfl dX5_reckon_35 ?_
    refine r_icmp_ge (tgt := 74) dX5_reckon_38 (by decide) (fun c38 => ?_) (fun c38 => ?_)
    · exfalso; ((try simp only [bI_0, bI_1, lc_lt, lc_gt, lc_le, lc_ge, Classical.not_not] at *); (try simp only [i_lt, i_le, i_eq, l_lt, l_le, l_eq, Int32.toInt_toInt64, Int32.reduceToInt, Int64.reduceToInt] at *); omega)
    · refine r_iload_n (j := 5) rfl rfl dX5_reckon_41 ?_
      refine r_iload (j := 0) rfl dX5_reckon_42 ?_
      refine r_ishr dX5_reckon_44 ?_
      refine r_iconst (v := 1) rfl dX5_reckon_45 ?_
      refine r_iand dX5_reckon_46 ?_
      refine r_if_eq (tgt := 68) dX5_reckon_47 (by decide) (fun c47 => ?_) (fun c47 => ?_)
      · refine r_iinc (j := 0) (lv' := fun z => [(5, .int z), (4, .int a), (3, .int d), (0, .ref 73), (1, .ref 3), (2, .int b)]) dX5_reckon_68 rfl (Nat.le_of_ble_eq_true rfl) (fun _ => rfl) (fun x5_68 ex5_68 => ?_)
        refine r_goto (tgt := 32) dX5_reckon_71 (by decide) ?_
        rw [bz_x hx] at c47; exact ih (i + 1) (by omega) _ _ (by rw [dayp, if_pos c47]; exact ea) (by rw [ex5_68]; exact i_inc hx (by omega))
      · refine r_iload (j := 1) rfl dX5_reckon_50 ?_
        refine r_bipush (v := 100) rfl dX5_reckon_52 ?_
        refine r_aload_n (j := 4) rfl rfl dX5_reckon_54 ?_
        refine w_getR (b := 17) fX5_22 rfl rfl dX5_reckon_55 ?_
        refine r_iload (j := 0) rfl dX5_reckon_58 ?_
        refine w_iald rfl (up_in hx (by omega)) dX5_reckon_60 ?_
        refine r_isub dX5_reckon_61 ?_
        refine r_imul dX5_reckon_62 ?_
        refine r_bipush (v := 100) rfl dX5_reckon_63 ?_
        refine r_idiv (by first | assumption | decide) dX5_reckon_65 ?_
        refine r_istore (lv' := fun z => [(4, .int z), (5, .int x), (3, .int d), (0, .ref 73), (1, .ref 3), (2, .int b)]) dX5_reckon_66 (Nat.le_of_ble_eq_true rfl) (fun _ => rfl) (fun x4_66 ex4_66 => ?_)
        refine r_iinc (j := 1) (lv' := fun z => [(5, .int z), (4, .int x4_66), (3, .int d), (0, .ref 73), (1, .ref 3), (2, .int b)]) dX5_reckon_68 rfl (Nat.le_of_ble_eq_true rfl) (fun _ => rfl) (fun x5_68 ex5_68 => ?_)
        refine r_goto (tgt := 32) dX5_reckon_71 (by decide) ?_
        rw [bz_x hx] at c47; exact ih (i + 1) (by omega) _ _ (by rw [dayp, if_neg c47, ex4_66, cx, upr_n _ _ (by decide), ea]) (by rw [ex5_68]; exact i_inc hx (by omega))
theorem l_X5_rk1 (hL : (I 3 16).toInt = NL) (h4 : NL ≤ 4) : ∀ n i : Nat, i + n = 401 → 1 ≤ i → ∀ (J : Is) (x : Int32), J = upr I 74 (prf (kpt (I 17) b NL) i (I 74)) → x.toInt = i → RR sc mX5_reckon 0 0 0 (rV (XW (upr I 74 (prf (kpt (I 17) b NL) 401 (I 74))) L tg)) 0 0 10 [(3, .int x), (0, .ref 73), (1, .ref 3), (2, .int b)] [] (XW J L tg) := by
  intro n
  induction n with
  | zero =>
    intro i hi h1 J x eJ hx
    refine r_iload_n (j := 0) rfl rfl dX5_reckon_10 ?_
    refine r_aload_n (j := 1) rfl rfl dX5_reckon_11 ?_
    refine w_getR (b := 74) fX5_9 rfl rfl dX5_reckon_12 ?_
    refine w_alen50 rfl dX5_reckon_15 ?_
    refine r_icmp_ge (tgt := 88) dX5_reckon_16 (by decide) (fun c16 => ?_) (fun c16 => ?_)
    · refine w_vret rfl (Nat.le_of_ble_eq_true rfl) (Nat.le_of_ble_eq_true rfl) dX5_reckon_88 ?_
      exact ⟨by rw [eJ, show i = 401 by omega], rfl, rfl⟩
    · exfalso; (have c16 : ¬ (401 : Int32) ≤ x := c16); ((try simp only [bI_0, bI_1, lc_lt, lc_gt, lc_le, lc_ge, Classical.not_not] at *); (try simp only [i_lt, i_le, i_eq, l_lt, l_le, l_eq, Int32.toInt_toInt64, Int32.reduceToInt, Int64.reduceToInt] at *); omega)
  | succ n ih =>
    intro i hi h1 J x eJ hx
    have cx := cl_of hx
    have e1 : (x - 1).toInt = ((i - 1 : Nat) : Int) := by rw [i_sub] <;> simp only [Int32.reduceToInt] <;> omega
    have c1 := cl_of e1
    subst eJ
    refine r_iload_n (j := 0) rfl rfl dX5_reckon_10 ?_
    refine r_aload_n (j := 1) rfl rfl dX5_reckon_11 ?_
    refine w_getR (b := 74) fX5_9 rfl rfl dX5_reckon_12 ?_
    refine w_alen50 rfl dX5_reckon_15 ?_
    refine r_icmp_ge (tgt := 88) dX5_reckon_16 (by decide) (fun c16 => ?_) (fun c16 => ?_)
    · exfalso; (have c16 : (401 : Int32) ≤ x := c16); ((try simp only [bI_0, bI_1, lc_lt, lc_gt, lc_le, lc_ge, Classical.not_not] at *); (try simp only [i_lt, i_le, i_eq, l_lt, l_le, l_eq, Int32.toInt_toInt64, Int32.reduceToInt, Int64.reduceToInt] at *); omega)
    · refine r_aload_n (j := 1) rfl rfl dX5_reckon_19 ?_
      refine w_getR (b := 74) fX5_9 rfl rfl dX5_reckon_20 ?_
      refine r_iload_n (j := 0) rfl rfl dX5_reckon_23 ?_
      refine r_iconst (v := 1) rfl dX5_reckon_24 ?_
      refine r_isub dX5_reckon_25 ?_
      refine w_iald rfl (up_in e1 (by omega)) dX5_reckon_26 ?_
      refine r_istore (lv' := fun z => [(4, .int z), (3, .int x), (0, .ref 73), (1, .ref 3), (2, .int b)]) dX5_reckon_27 (Nat.le_of_ble_eq_true rfl) (fun _ => rfl) (fun x4_27 ex4_27 => ?_)
      refine r_iconst (v := 0) rfl dX5_reckon_29 ?_
      refine r_istore (lv' := fun z => [(5, .int z), (4, .int x4_27), (3, .int x), (0, .ref 73), (1, .ref 3), (2, .int b)]) dX5_reckon_30 (Nat.le_of_ble_eq_true rfl) (fun _ => rfl) (fun x5_30 ex5_30 => ?_)
      have ex4 : x4_27 = kpt (I 17) b NL (i - 1) := by
        rw [ex4_27, c1, upr_s]
        exact if_pos (by omega)
      refine l_X5_rk2 hL h4 (v := x4_27) ?_ NL 0 (Nat.zero_add _) _ _ rfl (by rw [ex5_30]; rfl)
      intro x5
      refine r_lvs [(4, .int (dayp (I 17) b x4_27 NL)), (3, .int x), (0, .ref 73), (1, .ref 3), (2, .int b)] [1, 2, 3, 4, 5] rfl ?_
      refine r_aload_n (j := 2) rfl rfl dX5_reckon_74 ?_
      refine w_getR (b := 74) fX5_9 rfl rfl dX5_reckon_75 ?_
      refine r_iload_n (j := 1) rfl rfl dX5_reckon_78 ?_
      refine r_iload (j := 0) rfl dX5_reckon_79 ?_
      refine w_iast rfl (up_in hx (by omega)) dX5_reckon_81 (fun J81 hJ81 => ?_)
      refine r_iinc (j := 1) (lv' := fun z => [(3, .int z), (4, .int (dayp (I 17) b x4_27 NL)), (0, .ref 73), (1, .ref 3), (2, .int b)]) dX5_reckon_82 rfl (Nat.le_of_ble_eq_true rfl) (fun _ => rfl) (fun x3_82 ex3_82 => ?_)
      refine r_goto (tgt := 10) dX5_reckon_85 (by decide) ?_
      refine r_lvs [(3, .int x3_82), (0, .ref 73), (1, .ref 3), (2, .int b)] [0, 2, 3, 4] rfl ?_
      refine ih (i + 1) (by omega) (by omega) _ _ ?_ (by rw [ex3_82]; exact i_inc hx (by omega))
      rw [hJ81, cx, upr_up, ← prf_s, ex4]
      obtain ⟨j, rfl⟩ : ∃ j, i = j + 1 := ⟨i - 1, by omega⟩
      rfl
def rkI (I : Is) (b : Int32) : Is := upr I 74 (prf (kpt (I 17) b (nN (I 3 16))) 401 (I 74))
theorem k_X5_reckon (l0 : 0 ≤ (I 3 16).toInt) (l4 : (I 3 16).toInt ≤ 4) : Con sc mX5_reckon 0 0 0 [.ref 73, .ref 3, .int b] (XW I L tg) (rV (XW (rkI I b) L tg)) := by
  refine Con_of (by decide) (Nat.le_of_ble_eq_true rfl) ?_
  have hL := nN_of l0
  refine r_aload_n (j := 0) rfl rfl dX5_reckon_0 ?_
  refine w_getR (b := 74) fX5_9 rfl rfl dX5_reckon_1 ?_
  refine r_iconst (v := 0) rfl dX5_reckon_4 ?_
  refine r_ldc kX5_15 dX5_reckon_5 ?_
  refine w_iast rfl (by first | assumption | (rw [vp_in_iff]; ((try simp only [bI_0, bI_1, lc_lt, lc_gt, lc_le, lc_ge, Classical.not_not] at *); (try simp only [i_lt, i_le, i_eq, l_lt, l_le, l_eq, Int32.toInt_toInt64, Int32.reduceToInt, Int64.reduceToInt] at *); omega))) dX5_reckon_7 (fun J7 hJ7 => ?_)
  refine r_iconst (v := 1) rfl dX5_reckon_8 ?_
  refine r_istore_n (lv' := fun z => [(3, .int z), (0, .ref 73), (1, .ref 3), (2, .int b)]) dX5_reckon_9 rfl (Nat.le_of_ble_eq_true rfl) (fun _ => rfl) (fun x3_9 ex3_9 => ?_)
  refine l_X5_rk1 hL (by omega) 400 1 rfl (by omega) _ _ ?_ (by rw [ex3_9]; rfl)
  rw [hJ7, up_uprow, ← prf_s, prf_0]
  rfl
theorem fsk_rng (p : Nat → Bool) : ∀ n k, (fsk p n k = -1 ∧ ∀ j, k ≤ j → j < k + n → p j = false) ∨ ∃ j, k ≤ j ∧ j < k + n ∧ fsk p n k = nI j ∧ p j = true ∧ ∀ i, k ≤ i → i < j → p i = false := by
  intro n
  induction n with
  | zero => intro k; exact Or.inl ⟨rfl, fun j h1 h2 => by omega⟩
  | succ n ih =>
    intro k
    rw [fsk]
    by_cases h : p k = true
    · exact Or.inr ⟨k, Nat.le_refl _, by omega, if_pos h, h, fun i h1 h2 => by omega⟩
    · rw [if_neg h]
      have hf : p k = false := by simpa using h
      rcases ih (k + 1) with ⟨h1, h2⟩ | ⟨j, h1, h2, h3, h4, h5⟩
      · refine Or.inl ⟨h1, fun j a b => ?_⟩
        by_cases e : j = k
        · rw [e]; exact hf
        · exact h2 j (by omega) (by omega)
      · refine Or.inr ⟨j, by omega, by omega, h3, h4, fun i a b => ?_⟩
        by_cases e : i = k
        · rw [e]; exact hf
        · exact h5 i (by omega) b
def kud (k : Nat → Int32) (air pace feet men : Int32) : Int32 := if shf air pace feet men = -1 then 0 else k (shf air pace feet men).toNatClampNeg
theorem k_X5_keptUntilDug {f m : Int32} : Con sc mX5_keptUntilDug 3 0 0 [.ref 73, .ref 3, .int f, .int m] (XW I L tg) (rI (kud (I 74) (I 4 9) (I 4 10) f m) (XW I L tg)) := by
  refine Con_of (by decide) (Nat.le_of_ble_eq_true rfl) ?_
  refine r_aload_n (j := 1) rfl rfl dX5_keptUntilDug_0 ?_
  refine r_iload_n (j := 2) rfl rfl dX5_keptUntilDug_1 ?_
  refine r_iload_n (j := 3) rfl rfl dX5_keptUntilDug_2 ?_
  refine w_cV2p (k_X0_shiftsFor) (Nat.le_of_ble_eq_true rfl) lX5_37 vmX0_shiftsFor rfl (Nat.le_of_ble_eq_true rfl) (Nat.le_of_ble_eq_true rfl) (Nat.le_of_ble_eq_true rfl) dX5_keptUntilDug_3 ?_
  refine r_istore (lv' := fun z => [(4, .int z), (0, .ref 73), (1, .ref 3), (2, .int f), (3, .int m)]) dX5_keptUntilDug_6 (Nat.le_of_ble_eq_true rfl) (fun _ => rfl) (fun x4_6 ex4_6 => ?_)
  refine r_iload (j := 0) rfl dX5_keptUntilDug_8 ?_
  refine r_iconst (v := (-1)) rfl dX5_keptUntilDug_10 ?_
  refine r_icmp_ne (tgt := 18) dX5_keptUntilDug_11 (by decide) (fun c11 => ?_) (fun c11 => ?_)
  · refine r_aload_n (j := 1) rfl rfl dX5_keptUntilDug_18 ?_
    refine w_getR (b := 74) fX5_9 rfl rfl dX5_keptUntilDug_19 ?_
    refine r_iload (j := 0) rfl dX5_keptUntilDug_22 ?_
    refine w_iald rfl (by
      rcases fsk_rng (fun k => decide (f ≤ tnn (I 4 9) (I 4 10) m k / 10)) 400 1 with ⟨h, -⟩ | ⟨j, h1, h2, h3, -⟩
      · exact absurd (ex4_6.trans h) c11
      · rw [ex4_6]; unfold shf; rw [h3]; exact vp_in_nI (by omega) (by omega)) dX5_keptUntilDug_24 ?_
    refine w_iret rfl (rfl) (Nat.le_of_ble_eq_true rfl) (Nat.le_of_ble_eq_true rfl) dX5_keptUntilDug_25 ?_
    subst ex4_6; exact ⟨by unfold kud; first | rw [if_pos c11] | rw [if_neg c11], rfl, rfl, rfl⟩
  · refine r_iconst (v := 0) rfl dX5_keptUntilDug_14 ?_
    refine r_goto (tgt := 25) dX5_keptUntilDug_15 (by decide) ?_
    refine w_iret rfl (rfl) (Nat.le_of_ble_eq_true rfl) (Nat.le_of_ble_eq_true rfl) dX5_keptUntilDug_25 ?_
    subst ex4_6; exact ⟨by unfold kud; first | rw [if_pos c11] | rw [if_neg c11], rfl, rfl, rfl⟩
/-- the greatest, the first of alike ones -/
def amx (f : Nat → Int32) : Nat → Int32 × Int32
  | 0 => (0, -1)
  | n + 1 => if (amx f n).2 < f n then (nI n, f n) else amx f n
def sec (k : Nat → Int32) (air pace men feet : Int32) (p : Nat) : Int32 := 1000000 - ((1000000 - kud k air pace feet (men - nI p)).toInt64 * (1000000 - kud k air pace feet (nI p)).toInt64 / 1000000).toInt32
def dvI (I : Is) (q : Int32 × Int32) : Is := up (up I 73 1 q.1) 73 2 q.2
theorem dv_at (I : Is) (q : Int32 × Int32) : dvI I q 73 2 = q.2 := by simp [dvI, up_eq, vu_eq]
theorem dv_n (I : Is) (q : Int32 × Int32) {a : Nat} (h : a ≠ 73) : dvI I q a = I a := by simp [dvI, up_eq, h]
theorem dv_dv (I : Is) (q : Int32 × Int32) (x y : Int32) : up (up (dvI I q) 73 1 x) 73 2 y = dvI I (x, y) := by
  unfold dvI
  funext a
  by_cases h : a = 73
  · subst h
    funext j
    simp only [up_eq, vu_eq, if_true]
    by_cases h1 : j = 1
    · subst h1; simp [vu_eq]
    · by_cases h2 : j = 2
      · subst h2; simp [vu_eq]
      · simp [vu_eq, h1, h2]
  · simp [up_eq, h]
theorem l_X5_divide {men feet : Int32} {M : Nat} (hM : (men / 2).toInt = M) (hM2 : M ≤ 1000) : ∀ n i : Nat, i + n = M + 1 → ∀ (J : Is) (x : Int32), J = dvI I (amx (sec (I 74) (I 4 9) (I 4 10) men feet) i) → x.toInt = i → RR sc mX5_divide 4 0 0 (rV (XW (dvI I (amx (sec (I 74) (I 4 9) (I 4 10) men feet) (M + 1))) L tg)) 0 0 13 [(4, .int x), (0, .ref 73), (1, .ref 3), (2, .int men), (3, .int feet)] [] (XW J L tg) := by
  intro n
  induction n with
  | zero =>
    intro i hi J x eJ hx
    refine r_iload (j := 0) rfl dX5_divide_13 ?_
    refine r_iload_n (j := 3) rfl rfl dX5_divide_15 ?_
    refine r_iconst (v := 2) rfl dX5_divide_16 ?_
    refine r_idiv (by first | assumption | decide) dX5_divide_17 ?_
    refine r_icmp_gt (tgt := 93) dX5_divide_18 (by decide) (fun c18 => ?_) (fun c18 => ?_)
    · refine w_vret rfl (Nat.le_of_ble_eq_true rfl) (Nat.le_of_ble_eq_true rfl) dX5_divide_93 ?_
      exact ⟨by rw [eJ, show i = M + 1 by omega], rfl, rfl⟩
    · exfalso; ((try simp only [bI_0, bI_1, lc_lt, lc_gt, lc_le, lc_ge, Classical.not_not] at *); (try simp only [i_lt, i_le, i_eq, l_lt, l_le, l_eq, Int32.toInt_toInt64, Int32.reduceToInt, Int64.reduceToInt] at *); omega)
  | succ n ih =>
    intro i hi J x eJ hx
    obtain rfl := x_nI hx
    have e2 : J 73 2 = (amx (sec (I 74) (I 4 9) (I 4 10) men feet) i).2 := by rw [eJ]; exact dv_at _ _
    have e74 : J 74 = I 74 := by rw [eJ]; exact dv_n _ _ (by decide)
    have e4 : J 4 = I 4 := by rw [eJ]; exact dv_n _ _ (by decide)
    refine r_iload (j := 0) rfl dX5_divide_13 ?_
    refine r_iload_n (j := 3) rfl rfl dX5_divide_15 ?_
    refine r_iconst (v := 2) rfl dX5_divide_16 ?_
    refine r_idiv (by first | assumption | decide) dX5_divide_17 ?_
    refine r_icmp_gt (tgt := 93) dX5_divide_18 (by decide) (fun c18 => ?_) (fun c18 => ?_)
    · exfalso; ((try simp only [bI_0, bI_1, lc_lt, lc_gt, lc_le, lc_ge, Classical.not_not] at *); (try simp only [i_lt, i_le, i_eq, l_lt, l_le, l_eq, Int32.toInt_toInt64, Int32.reduceToInt, Int64.reduceToInt] at *); omega)
    · refine r_ldc kX5_15 dX5_divide_21 ?_
      refine r_aload_n (j := 1) rfl rfl dX5_divide_23 ?_
      refine r_aload_n (j := 2) rfl rfl dX5_divide_24 ?_
      refine r_iload_n (j := 4) rfl rfl dX5_divide_25 ?_
      refine r_iload_n (j := 3) rfl rfl dX5_divide_26 ?_
      refine r_iload (j := 0) rfl dX5_divide_27 ?_
      refine r_isub dX5_divide_29 ?_
      refine w_cV3p (k_X5_keptUntilDug) (Nat.le_of_ble_eq_true rfl) lX5_31 vmX5_keptUntilDug rfl (Nat.le_of_ble_eq_true rfl) (Nat.le_of_ble_eq_true rfl) (Nat.le_of_ble_eq_true rfl) dX5_divide_30 ?_
      refine r_isub dX5_divide_33 ?_
      refine r_i2l dX5_divide_34 ?_
      refine r_lstore (lv' := fun z => [(5, .long z), (4, .int (nI i)), (0, .ref 73), (1, .ref 3), (2, .int men), (3, .int feet)]) dX5_divide_35 (Nat.le_of_ble_eq_true rfl) (fun _ => rfl) (fun x5_35 ex5_35 => ?_)
      refine r_ldc kX5_15 dX5_divide_37 ?_
      refine r_aload_n (j := 2) rfl rfl dX5_divide_39 ?_
      refine r_aload_n (j := 3) rfl rfl dX5_divide_40 ?_
      refine r_iload_n (j := 5) rfl rfl dX5_divide_41 ?_
      refine r_iload (j := 1) rfl dX5_divide_42 ?_
      refine w_cV3p (k_X5_keptUntilDug) (Nat.le_of_ble_eq_true rfl) lX5_31 vmX5_keptUntilDug rfl (Nat.le_of_ble_eq_true rfl) (Nat.le_of_ble_eq_true rfl) (Nat.le_of_ble_eq_true rfl) dX5_divide_44 ?_
      refine r_isub dX5_divide_47 ?_
      refine r_i2l dX5_divide_48 ?_
      refine r_lstore (lv' := fun z => [(7, .long z), (5, .long x5_35), (4, .int (nI i)), (0, .ref 73), (1, .ref 3), (2, .int men), (3, .int feet)]) dX5_divide_49 (Nat.le_of_ble_eq_true rfl) (fun _ => rfl) (fun x7_49 ex7_49 => ?_)
      refine r_ldc kX5_15 dX5_divide_51 ?_
      refine r_lload (j := 1) rfl dX5_divide_53 ?_
      refine r_lload (j := 0) rfl dX5_divide_55 ?_
      refine r_lmul dX5_divide_57 ?_
      refine r_ldc2 kX5_35 dX5_divide_58 ?_
      refine r_ldiv (by first | assumption | decide) dX5_divide_61 ?_
      refine r_l2i dX5_divide_62 ?_
      refine r_isub dX5_divide_63 ?_
      refine r_istore (lv' := fun z => [(9, .int z), (7, .long x7_49), (5, .long x5_35), (4, .int (nI i)), (0, .ref 73), (1, .ref 3), (2, .int men), (3, .int feet)]) dX5_divide_64 (Nat.le_of_ble_eq_true rfl) (fun _ => rfl) (fun x9_64 ex9_64 => ?_)
      have e9 : x9_64 = sec (I 74) (I 4 9) (I 4 10) men feet i := by rw [ex9_64, ex5_35, ex7_49, e74, e4]; rfl
      refine r_iload (j := 0) rfl dX5_divide_66 ?_
      refine r_aload_n (j := 4) rfl rfl dX5_divide_68 ?_
      refine w_getI fX5_28 rfl dX5_divide_69 ?_
      refine r_icmp_le (tgt := 87) dX5_divide_72 (by decide) (fun c72 => ?_) (fun c72 => ?_)
      · refine r_iinc (j := 3) (lv' := fun z => [(4, .int z), (9, .int x9_64), (7, .long x7_49), (5, .long x5_35), (0, .ref 73), (1, .ref 3), (2, .int men), (3, .int feet)]) dX5_divide_87 rfl (Nat.le_of_ble_eq_true rfl) (fun _ => rfl) (fun x4_87 ex4_87 => ?_)
        refine r_goto (tgt := 13) dX5_divide_90 (by decide) ?_
        refine r_lvs [(4, .int x4_87), (0, .ref 73), (1, .ref 3), (2, .int men), (3, .int feet)] [0, 4, 5, 6, 7] rfl ?_
        refine ih (i + 1) (by omega) _ _ ?_ (by rw [ex4_87]; exact i_inc hx (by omega))
        rw [e2, e9] at c72
        rw [eJ, amx, if_neg (Int32.not_lt.mpr c72)]
      · refine r_aload_n (j := 4) rfl rfl dX5_divide_75 ?_
        refine r_iload (j := 3) rfl dX5_divide_76 ?_
        refine w_putI fX5_25 rfl (rfl) (rfl) dX5_divide_78 (fun J78 hJ78 => ?_)
        refine r_aload_n (j := 4) rfl rfl dX5_divide_81 ?_
        refine r_iload (j := 0) rfl dX5_divide_82 ?_
        refine w_putI fX5_28 rfl (rfl) (rfl) dX5_divide_84 (fun J84 hJ84 => ?_)
        refine r_iinc (j := 3) (lv' := fun z => [(4, .int z), (9, .int x9_64), (7, .long x7_49), (5, .long x5_35), (0, .ref 73), (1, .ref 3), (2, .int men), (3, .int feet)]) dX5_divide_87 rfl (Nat.le_of_ble_eq_true rfl) (fun _ => rfl) (fun x4_87 ex4_87 => ?_)
        refine r_goto (tgt := 13) dX5_divide_90 (by decide) ?_
        refine r_lvs [(4, .int x4_87), (0, .ref 73), (1, .ref 3), (2, .int men), (3, .int feet)] [0, 4, 5, 6, 7] rfl ?_
        refine ih (i + 1) (by omega) _ _ ?_ (by rw [ex4_87]; exact i_inc hx (by omega))
        rw [e2, e9] at c72
        rw [hJ84, hJ78, eJ, dv_dv, amx, if_pos (Int32.not_le.mp c72), e9]
theorem k_X5_divide {men feet : Int32} {M : Nat} (hM : (men / 2).toInt = M) (hM2 : M ≤ 1000) : Con sc mX5_divide 4 0 0 [.ref 73, .ref 3, .int men, .int feet] (XW I L tg) (rV (XW (dvI I (amx (sec (I 74) (I 4 9) (I 4 10) men feet) (M + 1))) L tg)) := by
  refine Con_of (by decide) (Nat.le_of_ble_eq_true rfl) ?_
  refine r_aload_n (j := 0) rfl rfl dX5_divide_0 ?_
  refine r_iconst (v := 0) rfl dX5_divide_1 ?_
  refine w_putI fX5_25 rfl (rfl) (rfl) dX5_divide_2 (fun J2 hJ2 => ?_)
  refine r_aload_n (j := 0) rfl rfl dX5_divide_5 ?_
  refine r_iconst (v := (-1)) rfl dX5_divide_6 ?_
  refine w_putI fX5_28 rfl (rfl) (rfl) dX5_divide_7 (fun J7 hJ7 => ?_)
  refine r_iconst (v := 0) rfl dX5_divide_10 ?_
  refine r_istore (lv' := fun z => [(4, .int z), (0, .ref 73), (1, .ref 3), (2, .int men), (3, .int feet)]) dX5_divide_11 (Nat.le_of_ble_eq_true rfl) (fun _ => rfl) (fun x4_11 ex4_11 => ?_)
  exact l_X5_divide hM hM2 _ 0 (Nat.zero_add _) _ _ (by rw [hJ7, hJ2]; rfl) (by rw [ex4_11]; rfl)
end Lks
