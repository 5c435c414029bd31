/-! constructors -/
/-- m references of the object b, to the cells behind it -/
def lCon (b : Nat) : Nat → Rl → Rl
  | 0, l => l
  | m + 1, l => (b, m, b + m + 1) :: lCon b m l
theorem Zr.con {N b : Nat} {I : Is} {L : Ls} {l : Rl} (hb : b < N) (h : Zr N I L l) : ∀ m, Zr N I L (lCon b m l) := by
  intro m
  induction m with
  | zero => exact h
  | succ m ih => exact ih.put hb
/-- a camp made empty -/
def cuV (b : Nat) (I : Is) : Is := up (up (up (up (upr (upr (upr (upr I (b + 1) (fun j => if j < 14 then tb0.getD j 0 else I (b + 1) j)) (b + 2) (fillr (I (b + 2)) 14 0)) (b + 7) (fillr (I (b + 7)) 5 (-1))) (b + 8) (fillr (I (b + 8)) 25 (-1))) b 14 0) b 15 0) b 16 0) b 17 0
theorem Zr.cu {N b : Nat} {I : Is} {L : Ls} {l : Rl} (hb : b + 8 < N) (h : Zr N I L l) : Zr N (cuV b I) L l := by
  unfold cuV
  exact Zr.upp (by omega) (Zr.upp (by omega) (Zr.upp (by omega) (Zr.upp (by omega) (Zr.uprr (by omega) (Zr.uprr (by omega) (Zr.uprr (by omega) (Zr.uprr (by omega) h)))))))
section
variable {sc : Sc} {I : Is} {L : Ls} {l : Rl}
theorem lv_X0_clear_3 {I0 : Is} : ∀ n i : Nat, i + n = 14 → ∀ (I : Is) (x : Int32), I = upr (upr I0 4 (fun j => if j < 14 then tb0.getD j 0 else I0 4 j)) 5 (fillr (I0 5) i 0) → x.toInt = i → RR sc mX0_clear 1 0 0 (rV (XV 18 (cuV 3 I0) L (PA (lCon 3 14 l)))) 0 0 18 [(1, .int x), (0, .ref 3)] [] (XV 18 I L (PA (lCon 3 14 l))) := by
  intro n
  induction n with
  | zero =>
    intro i hi I x hI hx
    have hz : ((14 : Int32)).toInt = 14 := rfl
    refine r_iload_n (j := 0) rfl rfl dX0_clear_18 ?_
    refine r_gets (v := .ref 1000) (by decide +kernel) fsX0_9 dX0_clear_19 ?_
    refine r_tlen (t := tb0) oT_0 dX0_clear_22 ?_
    refine r_icmp_ge (tgt := 39) dX0_clear_23 (by decide) (fun c23 => ?_) (fun c23 => ?_)
    · refine r_aload_n (j := 1) rfl rfl dX0_clear_39 ?_
      refine v_getR (b := 10) fX0_35 rfl rfl dX0_clear_40 ?_
      refine r_iconst (v := (-1)) rfl dX0_clear_43 ?_
      refine v_cS2v (kv_J7_fill_53178 (N := 5) rfl (by decide) (by decide)) (Nat.le_of_ble_eq_true rfl) lX0_68 mtJ7_fill_53178 (Nat.le_of_ble_eq_true rfl) (Nat.le_of_ble_eq_true rfl) (Nat.le_of_ble_eq_true rfl) dX0_clear_44 (fun J44 K44 hJ44 hK44 => ?_)
      subst hK44
      refine r_aload_n (j := 1) rfl rfl dX0_clear_47 ?_
      refine v_getR (b := 11) fX0_38 rfl rfl dX0_clear_48 ?_
      refine r_iconst (v := (-1)) rfl dX0_clear_51 ?_
      refine v_cS2v (kv_J7_fill_53178 (N := 25) rfl (by decide) (by decide)) (Nat.le_of_ble_eq_true rfl) lX0_68 mtJ7_fill_53178 (Nat.le_of_ble_eq_true rfl) (Nat.le_of_ble_eq_true rfl) (Nat.le_of_ble_eq_true rfl) dX0_clear_52 (fun J52 K52 hJ52 hK52 => ?_)
      subst hK52
      refine r_aload_n (j := 1) rfl rfl dX0_clear_55 ?_
      refine r_iconst (v := 0) rfl dX0_clear_56 ?_
      refine v_putI fX0_74 rfl (rfl) (rfl) dX0_clear_57 (fun J57 hJ57 => ?_)
      refine r_aload_n (j := 1) rfl rfl dX0_clear_60 ?_
      refine r_iconst (v := 0) rfl dX0_clear_61 ?_
      refine v_putI fX0_78 rfl (rfl) (rfl) dX0_clear_62 (fun J62 hJ62 => ?_)
      refine r_aload_n (j := 1) rfl rfl dX0_clear_65 ?_
      refine r_iconst (v := 0) rfl dX0_clear_66 ?_
      refine v_putI fX0_81 rfl (rfl) (rfl) dX0_clear_67 (fun J67 hJ67 => ?_)
      refine r_aload_n (j := 1) rfl rfl dX0_clear_70 ?_
      refine r_iconst (v := 0) rfl dX0_clear_71 ?_
      refine v_putI fX0_84 rfl (rfl) (rfl) dX0_clear_72 (fun J72 hJ72 => ?_)
      refine v_vret rfl (Nat.le_of_ble_eq_true rfl) (Nat.le_of_ble_eq_true rfl) dX0_clear_75 ?_
      refine ⟨?_, rfl, rfl⟩
      have ei : i = 14 := by omega
      rw [hJ72, hJ67, hJ62, hJ57, hJ52, hJ44, hI, ei]
      simp [cuV, upr_eq]
    · exfalso; (have c23 : ¬ (14 : Int32) ≤ x := c23); ((try simp only [bI_0, bI_1, lc_lt, lc_gt, lc_le, lc_ge, Classical.not_not] at *); (try simp only [i_lt, i_le, i_eq, l_lt, l_le, l_eq, Int32.toInt_toInt64, Int32.reduceToInt, Int64.reduceToInt] at *); omega)
  | succ n ih =>
    intro i hi I x hI hx
    refine r_iload_n (j := 0) rfl rfl dX0_clear_18 ?_
    refine r_gets (v := .ref 1000) (by decide +kernel) fsX0_9 dX0_clear_19 ?_
    refine r_tlen (t := tb0) oT_0 dX0_clear_22 ?_
    refine r_icmp_ge (tgt := 39) dX0_clear_23 (by decide) (fun c23 => ?_) (fun c23 => ?_)
    · exfalso; (have c23 : (14 : Int32) ≤ x := c23); ((try simp only [bI_0, bI_1, lc_lt, lc_gt, lc_le, lc_ge, Classical.not_not] at *); (try simp only [i_lt, i_le, i_eq, l_lt, l_le, l_eq, Int32.toInt_toInt64, Int32.reduceToInt, Int64.reduceToInt] at *); omega)
    · refine r_aload_n (j := 1) rfl rfl dX0_clear_26 ?_
      refine v_getR (b := 5) fX0_18 rfl rfl dX0_clear_27 ?_
      refine r_iload_n (j := 0) rfl rfl dX0_clear_30 ?_
      refine r_iconst (v := 0) rfl dX0_clear_31 ?_
      refine v_zast rfl (up_in hx (by omega)) dX0_clear_32 (fun J32 hJ32 => ?_)
      refine r_iinc (j := 0) (lv' := fun z => [(1, .int z), (0, .ref 3)]) dX0_clear_33 rfl (Nat.le_of_ble_eq_true rfl) (fun _ => rfl) (fun x1_33 ex1_33 => ?_)
      refine r_goto (tgt := 18) dX0_clear_36 (by decide) ?_
      refine ih (i + 1) (by omega) _ _ ?_ (by rw [ex1_33]; exact i_inc hx (by omega))
      rw [hJ32, cl_of hx, hI]
      funext a
      by_cases h : a = 5
      · subst h
        funext j
        simp only [up_eq, upr_eq, if_true, vu_eq, fillr]
        by_cases h1 : j = i
        · rw [if_pos h1, if_pos (by omega)]; rfl
        · rw [if_neg h1]
          by_cases h2 : j < i
          · rw [if_pos h2, if_pos (by omega)]
          · rw [if_neg h2, if_neg (by omega)]
      · simp [up_eq, upr_eq, h]
theorem kv_X0_clear_3 : Con sc mX0_clear 1 0 0 [.ref 3] (XV 18 I L (PA (lCon 3 14 l))) (rV (XV 18 (cuV 3 I) L (PA (lCon 3 14 l)))) := by
  refine Con_of (by decide) (Nat.le_of_ble_eq_true rfl) ?_
  refine r_gets (v := .ref 1000) (by decide +kernel) fsX0_9 dX0_clear_0 ?_
  refine r_iconst (v := 0) rfl dX0_clear_3 ?_
  refine r_aload_n (j := 0) rfl rfl dX0_clear_4 ?_
  refine v_getR (b := 4) fX0_15 rfl rfl dX0_clear_5 ?_
  refine r_iconst (v := 0) rfl dX0_clear_8 ?_
  refine r_gets (v := .ref 1000) (by decide +kernel) fsX0_9 dX0_clear_9 ?_
  refine r_tlen (t := tb0) oT_0 dX0_clear_12 ?_
  refine v_copyT oT_0 rfl (by decide +kernel) (by decide +kernel) (by decide +kernel) (by decide +kernel) (by decide +kernel) aX0_62 (Nat.le_of_ble_eq_true rfl) (Nat.le_of_ble_eq_true rfl) dX0_clear_13 (fun J13 hJ13 => ?_)
  refine r_iconst (v := 0) rfl dX0_clear_16 ?_
  refine r_istore_n (lv' := fun z => [(1, .int z), (0, .ref 3)]) dX0_clear_17 rfl (Nat.le_of_ble_eq_true rfl) (fun _ => rfl) (fun x1_17 ex1_17 => ?_)
  refine lv_X0_clear_3 14 0 rfl _ _ ?_ (by rw [ex1_17]; rfl)
  rw [hJ13]
  funext a
  by_cases h : a = 5
  · subst h; simp only [upr_eq, if_true]; rfl
  · by_cases h2 : a = 4
    · subst h2
      funext j
      simp only [upr_eq, if_true]
      rw [if_neg h, show (Int32.ofNat tb0.length).toNatClampNeg = 14 by decide, show (Int32.toNatClampNeg 0) = 0 by decide, cpy_prf]
      rfl
    · simp [upr_eq, h, h2]
theorem k_X0_init_3 (hz : Zr 4 I L l) : Con sc mX0_init 2 14 102 [.ref 3] (XV 4 I L (PA l)) (rV (XV 18 (cuV 3 I) L (PA (lCon 3 14 l)))) := by
  refine Con_of (by decide) (Nat.le_of_ble_eq_true rfl) ?_
  refine r_aload_n (j := 0) rfl rfl dX0_init_0 ?_
  refine r_objI oX0_3 objI1 objI2 (Nat.le_of_ble_eq_true rfl) (Nat.le_of_ble_eq_true rfl) dX0_init_1 ?_
  refine r_aload_n (j := 0) rfl rfl dX0_init_4 ?_
  refine r_gets (v := .ref 1000) (by decide +kernel) fsX0_9 dX0_init_5 ?_
  refine r_tlen (t := tb0) oT_0 dX0_init_8 ?_
  refine v_newaI (M := 14) (N' := 5) (k' := 1) (n' := 14) rfl hz rfl rfl rfl (by decide) (by decide) (by decide) (by decide) (Nat.le_of_ble_eq_true rfl) (Nat.le_of_ble_eq_true rfl) dX0_init_9 (fun hz => ?_)
  refine v_putR fX0_15 rfl (fun _ => rfl) (fun _ => rfl) dX0_init_11 ?_
  have hz := Zr.put (b := 3) (f := 0) (x := 4) (by decide) hz
  refine r_aload_n (j := 0) rfl rfl dX0_init_14 ?_
  refine r_gets (v := .ref 1000) (by decide +kernel) fsX0_9 dX0_init_15 ?_
  refine r_tlen (t := tb0) oT_0 dX0_init_18 ?_
  refine v_newaZ (M := 14) (N' := 6) (k' := 2) (n' := 28) rfl hz rfl rfl rfl (by decide) (by decide) (by decide) (by decide) (Nat.le_of_ble_eq_true rfl) (Nat.le_of_ble_eq_true rfl) dX0_init_19 (fun hz => ?_)
  refine v_putR fX0_18 rfl (fun _ => rfl) (fun _ => rfl) dX0_init_21 ?_
  have hz := Zr.put (b := 3) (f := 1) (x := 5) (by decide) hz
  refine r_aload_n (j := 0) rfl rfl dX0_init_24 ?_
  refine r_iconst (v := 5) rfl dX0_init_25 ?_
  refine v_newaL (M := 5) (N' := 7) (k' := 3) (n' := 33) rfl hz rfl rfl rfl (by decide) (by decide) (by decide) (by decide) (Nat.le_of_ble_eq_true rfl) (Nat.le_of_ble_eq_true rfl) dX0_init_26 (fun hz => ?_)
  refine v_putR fX0_22 rfl (fun _ => rfl) (fun _ => rfl) dX0_init_28 ?_
  have hz := Zr.put (b := 3) (f := 2) (x := 6) (by decide) hz
  refine r_aload_n (j := 0) rfl rfl dX0_init_31 ?_
  refine r_iconst (v := 5) rfl dX0_init_32 ?_
  refine v_newaI (M := 5) (N' := 8) (k' := 4) (n' := 38) rfl hz rfl rfl rfl (by decide) (by decide) (by decide) (by decide) (Nat.le_of_ble_eq_true rfl) (Nat.le_of_ble_eq_true rfl) dX0_init_33 (fun hz => ?_)
  refine v_putR fX0_26 rfl (fun _ => rfl) (fun _ => rfl) dX0_init_35 ?_
  have hz := Zr.put (b := 3) (f := 3) (x := 7) (by decide) hz
  refine r_aload_n (j := 0) rfl rfl dX0_init_38 ?_
  refine r_iconst (v := 5) rfl dX0_init_39 ?_
  refine v_newaI (M := 5) (N' := 9) (k' := 5) (n' := 43) rfl hz rfl rfl rfl (by decide) (by decide) (by decide) (by decide) (Nat.le_of_ble_eq_true rfl) (Nat.le_of_ble_eq_true rfl) dX0_init_40 (fun hz => ?_)
  refine v_putR fX0_29 rfl (fun _ => rfl) (fun _ => rfl) dX0_init_42 ?_
  have hz := Zr.put (b := 3) (f := 4) (x := 8) (by decide) hz
  refine r_aload_n (j := 0) rfl rfl dX0_init_45 ?_
  refine r_iconst (v := 5) rfl dX0_init_46 ?_
  refine v_newaI (M := 5) (N' := 10) (k' := 6) (n' := 48) rfl hz rfl rfl rfl (by decide) (by decide) (by decide) (by decide) (Nat.le_of_ble_eq_true rfl) (Nat.le_of_ble_eq_true rfl) dX0_init_47 (fun hz => ?_)
  refine v_putR fX0_32 rfl (fun _ => rfl) (fun _ => rfl) dX0_init_49 ?_
  have hz := Zr.put (b := 3) (f := 5) (x := 9) (by decide) hz
  refine r_aload_n (j := 0) rfl rfl dX0_init_52 ?_
  refine r_iconst (v := 5) rfl dX0_init_53 ?_
  refine v_newaI (M := 5) (N' := 11) (k' := 7) (n' := 53) rfl hz rfl rfl rfl (by decide) (by decide) (by decide) (by decide) (Nat.le_of_ble_eq_true rfl) (Nat.le_of_ble_eq_true rfl) dX0_init_54 (fun hz => ?_)
  refine v_putR fX0_35 rfl (fun _ => rfl) (fun _ => rfl) dX0_init_56 ?_
  have hz := Zr.put (b := 3) (f := 6) (x := 10) (by decide) hz
  refine r_aload_n (j := 0) rfl rfl dX0_init_59 ?_
  refine r_bipush (v := 25) rfl dX0_init_60 ?_
  refine v_newaI (M := 25) (N' := 12) (k' := 8) (n' := 78) rfl hz rfl rfl rfl (by decide) (by decide) (by decide) (by decide) (Nat.le_of_ble_eq_true rfl) (Nat.le_of_ble_eq_true rfl) dX0_init_62 (fun hz => ?_)
  refine v_putR fX0_38 rfl (fun _ => rfl) (fun _ => rfl) dX0_init_64 ?_
  have hz := Zr.put (b := 3) (f := 7) (x := 11) (by decide) hz
  refine r_aload_n (j := 0) rfl rfl dX0_init_67 ?_
  refine r_iconst (v := 4) rfl dX0_init_68 ?_
  refine v_newaL (M := 4) (N' := 13) (k' := 9) (n' := 82) rfl hz rfl rfl rfl (by decide) (by decide) (by decide) (by decide) (Nat.le_of_ble_eq_true rfl) (Nat.le_of_ble_eq_true rfl) dX0_init_69 (fun hz => ?_)
  refine v_putR fX0_41 rfl (fun _ => rfl) (fun _ => rfl) dX0_init_71 ?_
  have hz := Zr.put (b := 3) (f := 8) (x := 12) (by decide) hz
  refine r_aload_n (j := 0) rfl rfl dX0_init_74 ?_
  refine r_iconst (v := 4) rfl dX0_init_75 ?_
  refine v_newaI (M := 4) (N' := 14) (k' := 10) (n' := 86) rfl hz rfl rfl rfl (by decide) (by decide) (by decide) (by decide) (Nat.le_of_ble_eq_true rfl) (Nat.le_of_ble_eq_true rfl) dX0_init_76 (fun hz => ?_)
  refine v_putR fX0_44 rfl (fun _ => rfl) (fun _ => rfl) dX0_init_78 ?_
  have hz := Zr.put (b := 3) (f := 9) (x := 13) (by decide) hz
  refine r_aload_n (j := 0) rfl rfl dX0_init_81 ?_
  refine r_iconst (v := 4) rfl dX0_init_82 ?_
  refine v_newaI (M := 4) (N' := 15) (k' := 11) (n' := 90) rfl hz rfl rfl rfl (by decide) (by decide) (by decide) (by decide) (Nat.le_of_ble_eq_true rfl) (Nat.le_of_ble_eq_true rfl) dX0_init_83 (fun hz => ?_)
  refine v_putR fX0_47 rfl (fun _ => rfl) (fun _ => rfl) dX0_init_85 ?_
  have hz := Zr.put (b := 3) (f := 10) (x := 14) (by decide) hz
  refine r_aload_n (j := 0) rfl rfl dX0_init_88 ?_
  refine r_iconst (v := 4) rfl dX0_init_89 ?_
  refine v_newaI (M := 4) (N' := 16) (k' := 12) (n' := 94) rfl hz rfl rfl rfl (by decide) (by decide) (by decide) (by decide) (Nat.le_of_ble_eq_true rfl) (Nat.le_of_ble_eq_true rfl) dX0_init_90 (fun hz => ?_)
  refine v_putR fX0_50 rfl (fun _ => rfl) (fun _ => rfl) dX0_init_92 ?_
  have hz := Zr.put (b := 3) (f := 11) (x := 15) (by decide) hz
  refine r_aload_n (j := 0) rfl rfl dX0_init_95 ?_
  refine r_iconst (v := 4) rfl dX0_init_96 ?_
  refine v_newaL (M := 4) (N' := 17) (k' := 13) (n' := 98) rfl hz rfl rfl rfl (by decide) (by decide) (by decide) (by decide) (Nat.le_of_ble_eq_true rfl) (Nat.le_of_ble_eq_true rfl) dX0_init_97 (fun hz => ?_)
  refine v_putR fX0_53 rfl (fun _ => rfl) (fun _ => rfl) dX0_init_99 ?_
  have hz := Zr.put (b := 3) (f := 12) (x := 16) (by decide) hz
  refine r_aload_n (j := 0) rfl rfl dX0_init_102 ?_
  refine r_iconst (v := 4) rfl dX0_init_103 ?_
  refine v_newaI (M := 4) (N' := 18) (k' := 14) (n' := 102) rfl hz rfl rfl rfl (by decide) (by decide) (by decide) (by decide) (Nat.le_of_ble_eq_true rfl) (Nat.le_of_ble_eq_true rfl) dX0_init_104 (fun hz => ?_)
  refine v_putR fX0_56 rfl (fun _ => rfl) (fun _ => rfl) dX0_init_106 ?_
  have hz := Zr.put (b := 3) (f := 13) (x := 17) (by decide) hz
  refine r_aload_n (j := 0) rfl rfl dX0_init_109 ?_
  refine v_cV0v (kv_X0_clear_3 (l := l)) (Nat.le_of_ble_eq_true rfl) lX0_59 vmX0_clear rfl (Nat.le_of_ble_eq_true rfl) (Nat.le_of_ble_eq_true rfl) (Nat.le_of_ble_eq_true rfl) dX0_init_110 (fun J110 K110 hJ110 hK110 => ?_)
  subst hK110
  refine v_vret rfl (Nat.le_of_ble_eq_true rfl) (Nat.le_of_ble_eq_true rfl) dX0_init_113 ?_
  exact ⟨hJ110, rfl, rfl⟩
theorem z_X0_init_3 (hz : Zr 4 I L l) : Zr 18 (cuV 3 I) L (lCon 3 14 l) := Zr.cu (by decide) (Zr.con (by decide) (hz.mono (by decide)) 14)
theorem lv_X0_clear_18 {I0 : Is} : ∀ n i : Nat, i + n = 14 → ∀ (I : Is) (x : Int32), I = upr (upr I0 19 (fun j => if j < 14 then tb0.getD j 0 else I0 19 j)) 20 (fillr (I0 20) i 0) → x.toInt = i → RR sc mX0_clear 1 0 0 (rV (XV 33 (cuV 18 I0) L (PA (lCon 18 14 l)))) 0 0 18 [(1, .int x), (0, .ref 18)] [] (XV 33 I L (PA (lCon 18 14 l))) := by
  intro n
  induction n with
  | zero =>
    intro i hi I x hI hx
    have hz : ((14 : Int32)).toInt = 14 := rfl
    refine r_iload_n (j := 0) rfl rfl dX0_clear_18 ?_
    refine r_gets (v := .ref 1000) (by decide +kernel) fsX0_9 dX0_clear_19 ?_
    refine r_tlen (t := tb0) oT_0 dX0_clear_22 ?_
    refine r_icmp_ge (tgt := 39) dX0_clear_23 (by decide) (fun c23 => ?_) (fun c23 => ?_)
    · refine r_aload_n (j := 1) rfl rfl dX0_clear_39 ?_
      refine v_getR (b := 25) fX0_35 rfl rfl dX0_clear_40 ?_
      refine r_iconst (v := (-1)) rfl dX0_clear_43 ?_
      refine v_cS2v (kv_J7_fill_53178 (N := 5) rfl (by decide) (by decide)) (Nat.le_of_ble_eq_true rfl) lX0_68 mtJ7_fill_53178 (Nat.le_of_ble_eq_true rfl) (Nat.le_of_ble_eq_true rfl) (Nat.le_of_ble_eq_true rfl) dX0_clear_44 (fun J44 K44 hJ44 hK44 => ?_)
      subst hK44
      refine r_aload_n (j := 1) rfl rfl dX0_clear_47 ?_
      refine v_getR (b := 26) fX0_38 rfl rfl dX0_clear_48 ?_
      refine r_iconst (v := (-1)) rfl dX0_clear_51 ?_
      refine v_cS2v (kv_J7_fill_53178 (N := 25) rfl (by decide) (by decide)) (Nat.le_of_ble_eq_true rfl) lX0_68 mtJ7_fill_53178 (Nat.le_of_ble_eq_true rfl) (Nat.le_of_ble_eq_true rfl) (Nat.le_of_ble_eq_true rfl) dX0_clear_52 (fun J52 K52 hJ52 hK52 => ?_)
      subst hK52
      refine r_aload_n (j := 1) rfl rfl dX0_clear_55 ?_
      refine r_iconst (v := 0) rfl dX0_clear_56 ?_
      refine v_putI fX0_74 rfl (rfl) (rfl) dX0_clear_57 (fun J57 hJ57 => ?_)
      refine r_aload_n (j := 1) rfl rfl dX0_clear_60 ?_
      refine r_iconst (v := 0) rfl dX0_clear_61 ?_
      refine v_putI fX0_78 rfl (rfl) (rfl) dX0_clear_62 (fun J62 hJ62 => ?_)
      refine r_aload_n (j := 1) rfl rfl dX0_clear_65 ?_
      refine r_iconst (v := 0) rfl dX0_clear_66 ?_
      refine v_putI fX0_81 rfl (rfl) (rfl) dX0_clear_67 (fun J67 hJ67 => ?_)
      refine r_aload_n (j := 1) rfl rfl dX0_clear_70 ?_
      refine r_iconst (v := 0) rfl dX0_clear_71 ?_
      refine v_putI fX0_84 rfl (rfl) (rfl) dX0_clear_72 (fun J72 hJ72 => ?_)
      refine v_vret rfl (Nat.le_of_ble_eq_true rfl) (Nat.le_of_ble_eq_true rfl) dX0_clear_75 ?_
      refine ⟨?_, rfl, rfl⟩
      have ei : i = 14 := by omega
      rw [hJ72, hJ67, hJ62, hJ57, hJ52, hJ44, hI, ei]
      simp [cuV, upr_eq]
    · exfalso; (have c23 : ¬ (14 : Int32) ≤ x := c23); ((try simp only [bI_0, bI_1, lc_lt, lc_gt, lc_le, lc_ge, Classical.not_not] at *); (try simp only [i_lt, i_le, i_eq, l_lt, l_le, l_eq, Int32.toInt_toInt64, Int32.reduceToInt, Int64.reduceToInt] at *); omega)
  | succ n ih =>
    intro i hi I x hI hx
    refine r_iload_n (j := 0) rfl rfl dX0_clear_18 ?_
    refine r_gets (v := .ref 1000) (by decide +kernel) fsX0_9 dX0_clear_19 ?_
    refine r_tlen (t := tb0) oT_0 dX0_clear_22 ?_
    refine r_icmp_ge (tgt := 39) dX0_clear_23 (by decide) (fun c23 => ?_) (fun c23 => ?_)
    · exfalso; (have c23 : (14 : Int32) ≤ x := c23); ((try simp only [bI_0, bI_1, lc_lt, lc_gt, lc_le, lc_ge, Classical.not_not] at *); (try simp only [i_lt, i_le, i_eq, l_lt, l_le, l_eq, Int32.toInt_toInt64, Int32.reduceToInt, Int64.reduceToInt] at *); omega)
    · refine r_aload_n (j := 1) rfl rfl dX0_clear_26 ?_
      refine v_getR (b := 20) fX0_18 rfl rfl dX0_clear_27 ?_
      refine r_iload_n (j := 0) rfl rfl dX0_clear_30 ?_
      refine r_iconst (v := 0) rfl dX0_clear_31 ?_
      refine v_zast rfl (up_in hx (by omega)) dX0_clear_32 (fun J32 hJ32 => ?_)
      refine r_iinc (j := 0) (lv' := fun z => [(1, .int z), (0, .ref 18)]) dX0_clear_33 rfl (Nat.le_of_ble_eq_true rfl) (fun _ => rfl) (fun x1_33 ex1_33 => ?_)
      refine r_goto (tgt := 18) dX0_clear_36 (by decide) ?_
      refine ih (i + 1) (by omega) _ _ ?_ (by rw [ex1_33]; exact i_inc hx (by omega))
      rw [hJ32, cl_of hx, hI]
      funext a
      by_cases h : a = 20
      · subst h
        funext j
        simp only [up_eq, upr_eq, if_true, vu_eq, fillr]
        by_cases h1 : j = i
        · rw [if_pos h1, if_pos (by omega)]; rfl
        · rw [if_neg h1]
          by_cases h2 : j < i
          · rw [if_pos h2, if_pos (by omega)]
          · rw [if_neg h2, if_neg (by omega)]
      · simp [up_eq, upr_eq, h]
theorem kv_X0_clear_18 : Con sc mX0_clear 1 0 0 [.ref 18] (XV 33 I L (PA (lCon 18 14 l))) (rV (XV 33 (cuV 18 I) L (PA (lCon 18 14 l)))) := by
  refine Con_of (by decide) (Nat.le_of_ble_eq_true rfl) ?_
  refine r_gets (v := .ref 1000) (by decide +kernel) fsX0_9 dX0_clear_0 ?_
  refine r_iconst (v := 0) rfl dX0_clear_3 ?_
  refine r_aload_n (j := 0) rfl rfl dX0_clear_4 ?_
  refine v_getR (b := 19) fX0_15 rfl rfl dX0_clear_5 ?_
  refine r_iconst (v := 0) rfl dX0_clear_8 ?_
  refine r_gets (v := .ref 1000) (by decide +kernel) fsX0_9 dX0_clear_9 ?_
  refine r_tlen (t := tb0) oT_0 dX0_clear_12 ?_
  refine v_copyT oT_0 rfl (by decide +kernel) (by decide +kernel) (by decide +kernel) (by decide +kernel) (by decide +kernel) aX0_62 (Nat.le_of_ble_eq_true rfl) (Nat.le_of_ble_eq_true rfl) dX0_clear_13 (fun J13 hJ13 => ?_)
  refine r_iconst (v := 0) rfl dX0_clear_16 ?_
  refine r_istore_n (lv' := fun z => [(1, .int z), (0, .ref 18)]) dX0_clear_17 rfl (Nat.le_of_ble_eq_true rfl) (fun _ => rfl) (fun x1_17 ex1_17 => ?_)
  refine lv_X0_clear_18 14 0 rfl _ _ ?_ (by rw [ex1_17]; rfl)
  rw [hJ13]
  funext a
  by_cases h : a = 20
  · subst h; simp only [upr_eq, if_true]; rfl
  · by_cases h2 : a = 19
    · subst h2
      funext j
      simp only [upr_eq, if_true]
      rw [if_neg h, show (Int32.ofNat tb0.length).toNatClampNeg = 14 by decide, show (Int32.toNatClampNeg 0) = 0 by decide, cpy_prf]
      rfl
    · simp [upr_eq, h, h2]
theorem k_X0_init_18 (hz : Zr 19 I L l) : Con sc mX0_init 2 14 102 [.ref 18] (XV 19 I L (PA l)) (rV (XV 33 (cuV 18 I) L (PA (lCon 18 14 l)))) := by
  refine Con_of (by decide) (Nat.le_of_ble_eq_true rfl) ?_
  refine r_aload_n (j := 0) rfl rfl dX0_init_0 ?_
  refine r_objI oX0_3 objI1 objI2 (Nat.le_of_ble_eq_true rfl) (Nat.le_of_ble_eq_true rfl) dX0_init_1 ?_
  refine r_aload_n (j := 0) rfl rfl dX0_init_4 ?_
  refine r_gets (v := .ref 1000) (by decide +kernel) fsX0_9 dX0_init_5 ?_
  refine r_tlen (t := tb0) oT_0 dX0_init_8 ?_
  refine v_newaI (M := 14) (N' := 20) (k' := 1) (n' := 14) rfl hz rfl rfl rfl (by decide) (by decide) (by decide) (by decide) (Nat.le_of_ble_eq_true rfl) (Nat.le_of_ble_eq_true rfl) dX0_init_9 (fun hz => ?_)
  refine v_putR fX0_15 rfl (fun _ => rfl) (fun _ => rfl) dX0_init_11 ?_
  have hz := Zr.put (b := 18) (f := 0) (x := 19) (by decide) hz
  refine r_aload_n (j := 0) rfl rfl dX0_init_14 ?_
  refine r_gets (v := .ref 1000) (by decide +kernel) fsX0_9 dX0_init_15 ?_
  refine r_tlen (t := tb0) oT_0 dX0_init_18 ?_
  refine v_newaZ (M := 14) (N' := 21) (k' := 2) (n' := 28) rfl hz rfl rfl rfl (by decide) (by decide) (by decide) (by decide) (Nat.le_of_ble_eq_true rfl) (Nat.le_of_ble_eq_true rfl) dX0_init_19 (fun hz => ?_)
  refine v_putR fX0_18 rfl (fun _ => rfl) (fun _ => rfl) dX0_init_21 ?_
  have hz := Zr.put (b := 18) (f := 1) (x := 20) (by decide) hz
  refine r_aload_n (j := 0) rfl rfl dX0_init_24 ?_
  refine r_iconst (v := 5) rfl dX0_init_25 ?_
  refine v_newaL (M := 5) (N' := 22) (k' := 3) (n' := 33) rfl hz rfl rfl rfl (by decide) (by decide) (by decide) (by decide) (Nat.le_of_ble_eq_true rfl) (Nat.le_of_ble_eq_true rfl) dX0_init_26 (fun hz => ?_)
  refine v_putR fX0_22 rfl (fun _ => rfl) (fun _ => rfl) dX0_init_28 ?_
  have hz := Zr.put (b := 18) (f := 2) (x := 21) (by decide) hz
  refine r_aload_n (j := 0) rfl rfl dX0_init_31 ?_
  refine r_iconst (v := 5) rfl dX0_init_32 ?_
  refine v_newaI (M := 5) (N' := 23) (k' := 4) (n' := 38) rfl hz rfl rfl rfl (by decide) (by decide) (by decide) (by decide) (Nat.le_of_ble_eq_true rfl) (Nat.le_of_ble_eq_true rfl) dX0_init_33 (fun hz => ?_)
  refine v_putR fX0_26 rfl (fun _ => rfl) (fun _ => rfl) dX0_init_35 ?_
  have hz := Zr.put (b := 18) (f := 3) (x := 22) (by decide) hz
  refine r_aload_n (j := 0) rfl rfl dX0_init_38 ?_
  refine r_iconst (v := 5) rfl dX0_init_39 ?_
  refine v_newaI (M := 5) (N' := 24) (k' := 5) (n' := 43) rfl hz rfl rfl rfl (by decide) (by decide) (by decide) (by decide) (Nat.le_of_ble_eq_true rfl) (Nat.le_of_ble_eq_true rfl) dX0_init_40 (fun hz => ?_)
  refine v_putR fX0_29 rfl (fun _ => rfl) (fun _ => rfl) dX0_init_42 ?_
  have hz := Zr.put (b := 18) (f := 4) (x := 23) (by decide) hz
  refine r_aload_n (j := 0) rfl rfl dX0_init_45 ?_
  refine r_iconst (v := 5) rfl dX0_init_46 ?_
  refine v_newaI (M := 5) (N' := 25) (k' := 6) (n' := 48) rfl hz rfl rfl rfl (by decide) (by decide) (by decide) (by decide) (Nat.le_of_ble_eq_true rfl) (Nat.le_of_ble_eq_true rfl) dX0_init_47 (fun hz => ?_)
  refine v_putR fX0_32 rfl (fun _ => rfl) (fun _ => rfl) dX0_init_49 ?_
  have hz := Zr.put (b := 18) (f := 5) (x := 24) (by decide) hz
  refine r_aload_n (j := 0) rfl rfl dX0_init_52 ?_
  refine r_iconst (v := 5) rfl dX0_init_53 ?_
  refine v_newaI (M := 5) (N' := 26) (k' := 7) (n' := 53) rfl hz rfl rfl rfl (by decide) (by decide) (by decide) (by decide) (Nat.le_of_ble_eq_true rfl) (Nat.le_of_ble_eq_true rfl) dX0_init_54 (fun hz => ?_)
  refine v_putR fX0_35 rfl (fun _ => rfl) (fun _ => rfl) dX0_init_56 ?_
  have hz := Zr.put (b := 18) (f := 6) (x := 25) (by decide) hz
  refine r_aload_n (j := 0) rfl rfl dX0_init_59 ?_
  refine r_bipush (v := 25) rfl dX0_init_60 ?_
  refine v_newaI (M := 25) (N' := 27) (k' := 8) (n' := 78) rfl hz rfl rfl rfl (by decide) (by decide) (by decide) (by decide) (Nat.le_of_ble_eq_true rfl) (Nat.le_of_ble_eq_true rfl) dX0_init_62 (fun hz => ?_)
  refine v_putR fX0_38 rfl (fun _ => rfl) (fun _ => rfl) dX0_init_64 ?_
  have hz := Zr.put (b := 18) (f := 7) (x := 26) (by decide) hz
  refine r_aload_n (j := 0) rfl rfl dX0_init_67 ?_
  refine r_iconst (v := 4) rfl dX0_init_68 ?_
  refine v_newaL (M := 4) (N' := 28) (k' := 9) (n' := 82) rfl hz rfl rfl rfl (by decide) (by decide) (by decide) (by decide) (Nat.le_of_ble_eq_true rfl) (Nat.le_of_ble_eq_true rfl) dX0_init_69 (fun hz => ?_)
  refine v_putR fX0_41 rfl (fun _ => rfl) (fun _ => rfl) dX0_init_71 ?_
  have hz := Zr.put (b := 18) (f := 8) (x := 27) (by decide) hz
  refine r_aload_n (j := 0) rfl rfl dX0_init_74 ?_
  refine r_iconst (v := 4) rfl dX0_init_75 ?_
  refine v_newaI (M := 4) (N' := 29) (k' := 10) (n' := 86) rfl hz rfl rfl rfl (by decide) (by decide) (by decide) (by decide) (Nat.le_of_ble_eq_true rfl) (Nat.le_of_ble_eq_true rfl) dX0_init_76 (fun hz => ?_)
  refine v_putR fX0_44 rfl (fun _ => rfl) (fun _ => rfl) dX0_init_78 ?_
  have hz := Zr.put (b := 18) (f := 9) (x := 28) (by decide) hz
  refine r_aload_n (j := 0) rfl rfl dX0_init_81 ?_
  refine r_iconst (v := 4) rfl dX0_init_82 ?_
  refine v_newaI (M := 4) (N' := 30) (k' := 11) (n' := 90) rfl hz rfl rfl rfl (by decide) (by decide) (by decide) (by decide) (Nat.le_of_ble_eq_true rfl) (Nat.le_of_ble_eq_true rfl) dX0_init_83 (fun hz => ?_)
  refine v_putR fX0_47 rfl (fun _ => rfl) (fun _ => rfl) dX0_init_85 ?_
  have hz := Zr.put (b := 18) (f := 10) (x := 29) (by decide) hz
  refine r_aload_n (j := 0) rfl rfl dX0_init_88 ?_
  refine r_iconst (v := 4) rfl dX0_init_89 ?_
  refine v_newaI (M := 4) (N' := 31) (k' := 12) (n' := 94) rfl hz rfl rfl rfl (by decide) (by decide) (by decide) (by decide) (Nat.le_of_ble_eq_true rfl) (Nat.le_of_ble_eq_true rfl) dX0_init_90 (fun hz => ?_)
  refine v_putR fX0_50 rfl (fun _ => rfl) (fun _ => rfl) dX0_init_92 ?_
  have hz := Zr.put (b := 18) (f := 11) (x := 30) (by decide) hz
  refine r_aload_n (j := 0) rfl rfl dX0_init_95 ?_
  refine r_iconst (v := 4) rfl dX0_init_96 ?_
  refine v_newaL (M := 4) (N' := 32) (k' := 13) (n' := 98) rfl hz rfl rfl rfl (by decide) (by decide) (by decide) (by decide) (Nat.le_of_ble_eq_true rfl) (Nat.le_of_ble_eq_true rfl) dX0_init_97 (fun hz => ?_)
  refine v_putR fX0_53 rfl (fun _ => rfl) (fun _ => rfl) dX0_init_99 ?_
  have hz := Zr.put (b := 18) (f := 12) (x := 31) (by decide) hz
  refine r_aload_n (j := 0) rfl rfl dX0_init_102 ?_
  refine r_iconst (v := 4) rfl dX0_init_103 ?_
  refine v_newaI (M := 4) (N' := 33) (k' := 14) (n' := 102) rfl hz rfl rfl rfl (by decide) (by decide) (by decide) (by decide) (Nat.le_of_ble_eq_true rfl) (Nat.le_of_ble_eq_true rfl) dX0_init_104 (fun hz => ?_)
  refine v_putR fX0_56 rfl (fun _ => rfl) (fun _ => rfl) dX0_init_106 ?_
  have hz := Zr.put (b := 18) (f := 13) (x := 32) (by decide) hz
  refine r_aload_n (j := 0) rfl rfl dX0_init_109 ?_
  refine v_cV0v (kv_X0_clear_18 (l := l)) (Nat.le_of_ble_eq_true rfl) lX0_59 vmX0_clear rfl (Nat.le_of_ble_eq_true rfl) (Nat.le_of_ble_eq_true rfl) (Nat.le_of_ble_eq_true rfl) dX0_init_110 (fun J110 K110 hJ110 hK110 => ?_)
  subst hK110
  refine v_vret rfl (Nat.le_of_ble_eq_true rfl) (Nat.le_of_ble_eq_true rfl) dX0_init_113 ?_
  exact ⟨hJ110, rfl, rfl⟩
theorem z_X0_init_18 (hz : Zr 19 I L l) : Zr 33 (cuV 18 I) L (lCon 18 14 l) := Zr.cu (by decide) (Zr.con (by decide) (hz.mono (by decide)) 14)
theorem k_X1_init_44 : Zr 45 I L l → Con sc mX1_init 1 0 0 [.ref 44] (XV 45 I L (PA l)) (rV (XV 45 I (up L 44 0 1) (PA l))) := by
  intro hz
  refine Con_of (by decide) (Nat.le_of_ble_eq_true rfl) ?_
  refine r_aload_n (j := 0) rfl rfl dX1_init_0 ?_
  refine r_objI oX1_1 objI1 objI2 (Nat.le_of_ble_eq_true rfl) (Nat.le_of_ble_eq_true rfl) dX1_init_1 ?_
  refine r_aload_n (j := 0) rfl rfl dX1_init_4 ?_
  refine r_lconst (v := 1) rfl dX1_init_5 ?_
  refine v_putL fX1_7 rfl (rfl) (rfl) dX1_init_6 (fun J6 hJ6 => ?_)
  have hz := hz.lupx hJ6
  refine v_vret rfl (Nat.le_of_ble_eq_true rfl) (Nat.le_of_ble_eq_true rfl) dX1_init_9 ?_
  exact ⟨rfl, hJ6, rfl⟩
theorem z_X1_init_44 (hz : Zr 45 I L l) : Zr 45 I (up L 44 0 1) l := Zr.lup (by decide) hz
theorem k_X1_init_54 : Zr 55 I L l → Con sc mX1_init 1 0 0 [.ref 54] (XV 55 I L (PA l)) (rV (XV 55 I (up L 54 0 1) (PA l))) := by
  intro hz
  refine Con_of (by decide) (Nat.le_of_ble_eq_true rfl) ?_
  refine r_aload_n (j := 0) rfl rfl dX1_init_0 ?_
  refine r_objI oX1_1 objI1 objI2 (Nat.le_of_ble_eq_true rfl) (Nat.le_of_ble_eq_true rfl) dX1_init_1 ?_
  refine r_aload_n (j := 0) rfl rfl dX1_init_4 ?_
  refine r_lconst (v := 1) rfl dX1_init_5 ?_
  refine v_putL fX1_7 rfl (rfl) (rfl) dX1_init_6 (fun J6 hJ6 => ?_)
  have hz := hz.lupx hJ6
  refine v_vret rfl (Nat.le_of_ble_eq_true rfl) (Nat.le_of_ble_eq_true rfl) dX1_init_9 ?_
  exact ⟨rfl, hJ6, rfl⟩
theorem z_X1_init_54 (hz : Zr 55 I L l) : Zr 55 I (up L 54 0 1) l := Zr.lup (by decide) hz
theorem k_X1_init_63 : Zr 64 I L l → Con sc mX1_init 1 0 0 [.ref 63] (XV 64 I L (PA l)) (rV (XV 64 I (up L 63 0 1) (PA l))) := by
  intro hz
  refine Con_of (by decide) (Nat.le_of_ble_eq_true rfl) ?_
  refine r_aload_n (j := 0) rfl rfl dX1_init_0 ?_
  refine r_objI oX1_1 objI1 objI2 (Nat.le_of_ble_eq_true rfl) (Nat.le_of_ble_eq_true rfl) dX1_init_1 ?_
  refine r_aload_n (j := 0) rfl rfl dX1_init_4 ?_
  refine r_lconst (v := 1) rfl dX1_init_5 ?_
  refine v_putL fX1_7 rfl (rfl) (rfl) dX1_init_6 (fun J6 hJ6 => ?_)
  have hz := hz.lupx hJ6
  refine v_vret rfl (Nat.le_of_ble_eq_true rfl) (Nat.le_of_ble_eq_true rfl) dX1_init_9 ?_
  exact ⟨rfl, hJ6, rfl⟩
theorem z_X1_init_63 (hz : Zr 64 I L l) : Zr 64 I (up L 63 0 1) l := Zr.lup (by decide) hz
theorem k_X1_init_94 : Zr 95 I L l → Con sc mX1_init 1 0 0 [.ref 94] (XV 95 I L (PA l)) (rV (XV 95 I (up L 94 0 1) (PA l))) := by
  intro hz
  refine Con_of (by decide) (Nat.le_of_ble_eq_true rfl) ?_
  refine r_aload_n (j := 0) rfl rfl dX1_init_0 ?_
  refine r_objI oX1_1 objI1 objI2 (Nat.le_of_ble_eq_true rfl) (Nat.le_of_ble_eq_true rfl) dX1_init_1 ?_
  refine r_aload_n (j := 0) rfl rfl dX1_init_4 ?_
  refine r_lconst (v := 1) rfl dX1_init_5 ?_
  refine v_putL fX1_7 rfl (rfl) (rfl) dX1_init_6 (fun J6 hJ6 => ?_)
  have hz := hz.lupx hJ6
  refine v_vret rfl (Nat.le_of_ble_eq_true rfl) (Nat.le_of_ble_eq_true rfl) dX1_init_9 ?_
  exact ⟨rfl, hJ6, rfl⟩
theorem z_X1_init_94 (hz : Zr 95 I L l) : Zr 95 I (up L 94 0 1) l := Zr.lup (by decide) hz
theorem k_X10_init_1 (hz : Zr 2 I L l) : Con sc mX10_init 2 1 900 [.ref 1] (XV 2 I L (PA l)) (rV (XV 3 I L (PA (lCon 1 1 l)))) := by
  refine Con_of (by decide) (Nat.le_of_ble_eq_true rfl) ?_
  refine r_aload_n (j := 0) rfl rfl dX10_init_0 ?_
  refine r_objI oX10_3 objI1 objI2 (Nat.le_of_ble_eq_true rfl) (Nat.le_of_ble_eq_true rfl) dX10_init_1 ?_
  refine r_aload_n (j := 0) rfl rfl dX10_init_4 ?_
  refine r_sipush (v := 900) rfl dX10_init_5 ?_
  refine v_newaI (M := 900) (N' := 3) (k' := 1) (n' := 900) rfl hz rfl rfl rfl (by decide) (by decide) (by decide) (by decide) (Nat.le_of_ble_eq_true rfl) (Nat.le_of_ble_eq_true rfl) dX10_init_8 (fun hz => ?_)
  refine v_putR fX10_9 rfl (fun _ => rfl) (fun _ => rfl) dX10_init_10 ?_
  have hz := Zr.put (b := 1) (f := 0) (x := 2) (by decide) hz
  refine v_vret rfl (Nat.le_of_ble_eq_true rfl) (Nat.le_of_ble_eq_true rfl) dX10_init_13 ?_
  exact ⟨rfl, rfl, rfl⟩
theorem z_X10_init_1 (hz : Zr 2 I L l) : Zr 3 I L (lCon 1 1 l) := Zr.con (by decide) (hz.mono (by decide)) 1
theorem k_X3_init_36 (hz : Zr 37 I L l) : Con sc mX3_init 2 8 25 [.ref 36] (XV 37 I L (PA l)) (rV (XV 45 I (up L 44 0 1) (PA (lCon 36 8 l)))) := by
  refine Con_of (by decide) (Nat.le_of_ble_eq_true rfl) ?_
  refine r_aload_n (j := 0) rfl rfl dX3_init_0 ?_
  refine r_objI oX3_3 objI1 objI2 (Nat.le_of_ble_eq_true rfl) (Nat.le_of_ble_eq_true rfl) dX3_init_1 ?_
  refine r_aload_n (j := 0) rfl rfl dX3_init_4 ?_
  refine r_iconst (v := 3) rfl dX3_init_5 ?_
  refine v_newaI (M := 3) (N' := 38) (k' := 1) (n' := 3) rfl hz rfl rfl rfl (by decide) (by decide) (by decide) (by decide) (Nat.le_of_ble_eq_true rfl) (Nat.le_of_ble_eq_true rfl) dX3_init_6 (fun hz => ?_)
  refine v_putR fX3_9 rfl (fun _ => rfl) (fun _ => rfl) dX3_init_8 ?_
  have hz := Zr.put (b := 36) (f := 0) (x := 37) (by decide) hz
  refine r_aload_n (j := 0) rfl rfl dX3_init_11 ?_
  refine r_iconst (v := 3) rfl dX3_init_12 ?_
  refine v_newaI (M := 3) (N' := 39) (k' := 2) (n' := 6) rfl hz rfl rfl rfl (by decide) (by decide) (by decide) (by decide) (Nat.le_of_ble_eq_true rfl) (Nat.le_of_ble_eq_true rfl) dX3_init_13 (fun hz => ?_)
  refine v_putR fX3_15 rfl (fun _ => rfl) (fun _ => rfl) dX3_init_15 ?_
  have hz := Zr.put (b := 36) (f := 1) (x := 38) (by decide) hz
  refine r_aload_n (j := 0) rfl rfl dX3_init_18 ?_
  refine r_iconst (v := 3) rfl dX3_init_19 ?_
  refine v_newaI (M := 3) (N' := 40) (k' := 3) (n' := 9) rfl hz rfl rfl rfl (by decide) (by decide) (by decide) (by decide) (Nat.le_of_ble_eq_true rfl) (Nat.le_of_ble_eq_true rfl) dX3_init_20 (fun hz => ?_)
  refine v_putR fX3_18 rfl (fun _ => rfl) (fun _ => rfl) dX3_init_22 ?_
  have hz := Zr.put (b := 36) (f := 2) (x := 39) (by decide) hz
  refine r_aload_n (j := 0) rfl rfl dX3_init_25 ?_
  refine r_iconst (v := 3) rfl dX3_init_26 ?_
  refine v_newaI (M := 3) (N' := 41) (k' := 4) (n' := 12) rfl hz rfl rfl rfl (by decide) (by decide) (by decide) (by decide) (Nat.le_of_ble_eq_true rfl) (Nat.le_of_ble_eq_true rfl) dX3_init_27 (fun hz => ?_)
  refine v_putR fX3_21 rfl (fun _ => rfl) (fun _ => rfl) dX3_init_29 ?_
  have hz := Zr.put (b := 36) (f := 3) (x := 40) (by decide) hz
  refine r_aload_n (j := 0) rfl rfl dX3_init_32 ?_
  refine r_iconst (v := 3) rfl dX3_init_33 ?_
  refine v_newaI (M := 3) (N' := 42) (k' := 5) (n' := 15) rfl hz rfl rfl rfl (by decide) (by decide) (by decide) (by decide) (Nat.le_of_ble_eq_true rfl) (Nat.le_of_ble_eq_true rfl) dX3_init_34 (fun hz => ?_)
  refine v_putR fX3_24 rfl (fun _ => rfl) (fun _ => rfl) dX3_init_36 ?_
  have hz := Zr.put (b := 36) (f := 4) (x := 41) (by decide) hz
  refine r_aload_n (j := 0) rfl rfl dX3_init_39 ?_
  refine r_iconst (v := 5) rfl dX3_init_40 ?_
  refine v_newaI (M := 5) (N' := 43) (k' := 6) (n' := 20) rfl hz rfl rfl rfl (by decide) (by decide) (by decide) (by decide) (Nat.le_of_ble_eq_true rfl) (Nat.le_of_ble_eq_true rfl) dX3_init_41 (fun hz => ?_)
  refine v_putR fX3_27 rfl (fun _ => rfl) (fun _ => rfl) dX3_init_43 ?_
  have hz := Zr.put (b := 36) (f := 5) (x := 42) (by decide) hz
  refine r_aload_n (j := 0) rfl rfl dX3_init_46 ?_
  refine r_iconst (v := 4) rfl dX3_init_47 ?_
  refine v_newaI (M := 4) (N' := 44) (k' := 7) (n' := 24) rfl hz rfl rfl rfl (by decide) (by decide) (by decide) (by decide) (Nat.le_of_ble_eq_true rfl) (Nat.le_of_ble_eq_true rfl) dX3_init_48 (fun hz => ?_)
  refine v_putR fX3_30 rfl (fun _ => rfl) (fun _ => rfl) dX3_init_50 ?_
  have hz := Zr.put (b := 36) (f := 6) (x := 43) (by decide) hz
  refine r_aload_n (j := 0) rfl rfl dX3_init_53 ?_
  refine v_new (N' := 45) (k' := 8) (n' := 25) (ty0 := tyX1) rfl hz rfl rfl rfl (by decide) rfl (by decide) inq1 tyX1_ok nfd1 qX3_33 inz1 iniRX1 (Nat.le_of_ble_eq_true rfl) (Nat.le_of_ble_eq_true rfl) dX3_init_54 (fun hz => ?_)
  refine r_dup rfl dX3_init_57 ?_
  refine v_cI0 (N' := 45) (k' := 8) (n' := 25) (k_X1_init_44 hz) (Nat.le_of_ble_eq_true rfl) lX3_35 miX1_init rfl rfl (Nat.le_of_ble_eq_true rfl) rfl rfl (Nat.le_of_ble_eq_true rfl) (Nat.le_of_ble_eq_true rfl) dX3_init_58 ?_
  have hz := z_X1_init_44 hz
  refine v_putR fX3_36 rfl (fun _ => rfl) (fun _ => rfl) dX3_init_61 ?_
  have hz := Zr.put (b := 36) (f := 7) (x := 44) (by decide) hz
  refine v_vret rfl (Nat.le_of_ble_eq_true rfl) (Nat.le_of_ble_eq_true rfl) dX3_init_64 ?_
  exact ⟨rfl, rfl, rfl⟩
theorem z_X3_init_36 (hz : Zr 37 I L l) : Zr 45 I (up L 44 0 1) (lCon 36 8 l) := Zr.lup (by decide) (Zr.con (by decide) (hz.mono (by decide)) 8)
theorem k_X3_init_46 (hz : Zr 47 I L l) : Con sc mX3_init 2 8 25 [.ref 46] (XV 47 I L (PA l)) (rV (XV 55 I (up L 54 0 1) (PA (lCon 46 8 l)))) := by
  refine Con_of (by decide) (Nat.le_of_ble_eq_true rfl) ?_
  refine r_aload_n (j := 0) rfl rfl dX3_init_0 ?_
  refine r_objI oX3_3 objI1 objI2 (Nat.le_of_ble_eq_true rfl) (Nat.le_of_ble_eq_true rfl) dX3_init_1 ?_
  refine r_aload_n (j := 0) rfl rfl dX3_init_4 ?_
  refine r_iconst (v := 3) rfl dX3_init_5 ?_
  refine v_newaI (M := 3) (N' := 48) (k' := 1) (n' := 3) rfl hz rfl rfl rfl (by decide) (by decide) (by decide) (by decide) (Nat.le_of_ble_eq_true rfl) (Nat.le_of_ble_eq_true rfl) dX3_init_6 (fun hz => ?_)
  refine v_putR fX3_9 rfl (fun _ => rfl) (fun _ => rfl) dX3_init_8 ?_
  have hz := Zr.put (b := 46) (f := 0) (x := 47) (by decide) hz
  refine r_aload_n (j := 0) rfl rfl dX3_init_11 ?_
  refine r_iconst (v := 3) rfl dX3_init_12 ?_
  refine v_newaI (M := 3) (N' := 49) (k' := 2) (n' := 6) rfl hz rfl rfl rfl (by decide) (by decide) (by decide) (by decide) (Nat.le_of_ble_eq_true rfl) (Nat.le_of_ble_eq_true rfl) dX3_init_13 (fun hz => ?_)
  refine v_putR fX3_15 rfl (fun _ => rfl) (fun _ => rfl) dX3_init_15 ?_
  have hz := Zr.put (b := 46) (f := 1) (x := 48) (by decide) hz
  refine r_aload_n (j := 0) rfl rfl dX3_init_18 ?_
  refine r_iconst (v := 3) rfl dX3_init_19 ?_
  refine v_newaI (M := 3) (N' := 50) (k' := 3) (n' := 9) rfl hz rfl rfl rfl (by decide) (by decide) (by decide) (by decide) (Nat.le_of_ble_eq_true rfl) (Nat.le_of_ble_eq_true rfl) dX3_init_20 (fun hz => ?_)
  refine v_putR fX3_18 rfl (fun _ => rfl) (fun _ => rfl) dX3_init_22 ?_
  have hz := Zr.put (b := 46) (f := 2) (x := 49) (by decide) hz
  refine r_aload_n (j := 0) rfl rfl dX3_init_25 ?_
  refine r_iconst (v := 3) rfl dX3_init_26 ?_
  refine v_newaI (M := 3) (N' := 51) (k' := 4) (n' := 12) rfl hz rfl rfl rfl (by decide) (by decide) (by decide) (by decide) (Nat.le_of_ble_eq_true rfl) (Nat.le_of_ble_eq_true rfl) dX3_init_27 (fun hz => ?_)
  refine v_putR fX3_21 rfl (fun _ => rfl) (fun _ => rfl) dX3_init_29 ?_
  have hz := Zr.put (b := 46) (f := 3) (x := 50) (by decide) hz
  refine r_aload_n (j := 0) rfl rfl dX3_init_32 ?_
  refine r_iconst (v := 3) rfl dX3_init_33 ?_
  refine v_newaI (M := 3) (N' := 52) (k' := 5) (n' := 15) rfl hz rfl rfl rfl (by decide) (by decide) (by decide) (by decide) (Nat.le_of_ble_eq_true rfl) (Nat.le_of_ble_eq_true rfl) dX3_init_34 (fun hz => ?_)
  refine v_putR fX3_24 rfl (fun _ => rfl) (fun _ => rfl) dX3_init_36 ?_
  have hz := Zr.put (b := 46) (f := 4) (x := 51) (by decide) hz
  refine r_aload_n (j := 0) rfl rfl dX3_init_39 ?_
  refine r_iconst (v := 5) rfl dX3_init_40 ?_
  refine v_newaI (M := 5) (N' := 53) (k' := 6) (n' := 20) rfl hz rfl rfl rfl (by decide) (by decide) (by decide) (by decide) (Nat.le_of_ble_eq_true rfl) (Nat.le_of_ble_eq_true rfl) dX3_init_41 (fun hz => ?_)
  refine v_putR fX3_27 rfl (fun _ => rfl) (fun _ => rfl) dX3_init_43 ?_
  have hz := Zr.put (b := 46) (f := 5) (x := 52) (by decide) hz
  refine r_aload_n (j := 0) rfl rfl dX3_init_46 ?_
  refine r_iconst (v := 4) rfl dX3_init_47 ?_
  refine v_newaI (M := 4) (N' := 54) (k' := 7) (n' := 24) rfl hz rfl rfl rfl (by decide) (by decide) (by decide) (by decide) (Nat.le_of_ble_eq_true rfl) (Nat.le_of_ble_eq_true rfl) dX3_init_48 (fun hz => ?_)
  refine v_putR fX3_30 rfl (fun _ => rfl) (fun _ => rfl) dX3_init_50 ?_
  have hz := Zr.put (b := 46) (f := 6) (x := 53) (by decide) hz
  refine r_aload_n (j := 0) rfl rfl dX3_init_53 ?_
  refine v_new (N' := 55) (k' := 8) (n' := 25) (ty0 := tyX1) rfl hz rfl rfl rfl (by decide) rfl (by decide) inq1 tyX1_ok nfd1 qX3_33 inz1 iniRX1 (Nat.le_of_ble_eq_true rfl) (Nat.le_of_ble_eq_true rfl) dX3_init_54 (fun hz => ?_)
  refine r_dup rfl dX3_init_57 ?_
  refine v_cI0 (N' := 55) (k' := 8) (n' := 25) (k_X1_init_54 hz) (Nat.le_of_ble_eq_true rfl) lX3_35 miX1_init rfl rfl (Nat.le_of_ble_eq_true rfl) rfl rfl (Nat.le_of_ble_eq_true rfl) (Nat.le_of_ble_eq_true rfl) dX3_init_58 ?_
  have hz := z_X1_init_54 hz
  refine v_putR fX3_36 rfl (fun _ => rfl) (fun _ => rfl) dX3_init_61 ?_
  have hz := Zr.put (b := 46) (f := 7) (x := 54) (by decide) hz
  refine v_vret rfl (Nat.le_of_ble_eq_true rfl) (Nat.le_of_ble_eq_true rfl) dX3_init_64 ?_
  exact ⟨rfl, rfl, rfl⟩
theorem z_X3_init_46 (hz : Zr 47 I L l) : Zr 55 I (up L 54 0 1) (lCon 46 8 l) := Zr.lup (by decide) (Zr.con (by decide) (hz.mono (by decide)) 8)
theorem k_X3_init_55 (hz : Zr 56 I L l) : Con sc mX3_init 2 8 25 [.ref 55] (XV 56 I L (PA l)) (rV (XV 64 I (up L 63 0 1) (PA (lCon 55 8 l)))) := by
  refine Con_of (by decide) (Nat.le_of_ble_eq_true rfl) ?_
  refine r_aload_n (j := 0) rfl rfl dX3_init_0 ?_
  refine r_objI oX3_3 objI1 objI2 (Nat.le_of_ble_eq_true rfl) (Nat.le_of_ble_eq_true rfl) dX3_init_1 ?_
  refine r_aload_n (j := 0) rfl rfl dX3_init_4 ?_
  refine r_iconst (v := 3) rfl dX3_init_5 ?_
  refine v_newaI (M := 3) (N' := 57) (k' := 1) (n' := 3) rfl hz rfl rfl rfl (by decide) (by decide) (by decide) (by decide) (Nat.le_of_ble_eq_true rfl) (Nat.le_of_ble_eq_true rfl) dX3_init_6 (fun hz => ?_)
  refine v_putR fX3_9 rfl (fun _ => rfl) (fun _ => rfl) dX3_init_8 ?_
  have hz := Zr.put (b := 55) (f := 0) (x := 56) (by decide) hz
  refine r_aload_n (j := 0) rfl rfl dX3_init_11 ?_
  refine r_iconst (v := 3) rfl dX3_init_12 ?_
  refine v_newaI (M := 3) (N' := 58) (k' := 2) (n' := 6) rfl hz rfl rfl rfl (by decide) (by decide) (by decide) (by decide) (Nat.le_of_ble_eq_true rfl) (Nat.le_of_ble_eq_true rfl) dX3_init_13 (fun hz => ?_)
  refine v_putR fX3_15 rfl (fun _ => rfl) (fun _ => rfl) dX3_init_15 ?_
  have hz := Zr.put (b := 55) (f := 1) (x := 57) (by decide) hz
  refine r_aload_n (j := 0) rfl rfl dX3_init_18 ?_
  refine r_iconst (v := 3) rfl dX3_init_19 ?_
  refine v_newaI (M := 3) (N' := 59) (k' := 3) (n' := 9) rfl hz rfl rfl rfl (by decide) (by decide) (by decide) (by decide) (Nat.le_of_ble_eq_true rfl) (Nat.le_of_ble_eq_true rfl) dX3_init_20 (fun hz => ?_)
  refine v_putR fX3_18 rfl (fun _ => rfl) (fun _ => rfl) dX3_init_22 ?_
  have hz := Zr.put (b := 55) (f := 2) (x := 58) (by decide) hz
  refine r_aload_n (j := 0) rfl rfl dX3_init_25 ?_
  refine r_iconst (v := 3) rfl dX3_init_26 ?_
  refine v_newaI (M := 3) (N' := 60) (k' := 4) (n' := 12) rfl hz rfl rfl rfl (by decide) (by decide) (by decide) (by decide) (Nat.le_of_ble_eq_true rfl) (Nat.le_of_ble_eq_true rfl) dX3_init_27 (fun hz => ?_)
  refine v_putR fX3_21 rfl (fun _ => rfl) (fun _ => rfl) dX3_init_29 ?_
  have hz := Zr.put (b := 55) (f := 3) (x := 59) (by decide) hz
  refine r_aload_n (j := 0) rfl rfl dX3_init_32 ?_
  refine r_iconst (v := 3) rfl dX3_init_33 ?_
  refine v_newaI (M := 3) (N' := 61) (k' := 5) (n' := 15) rfl hz rfl rfl rfl (by decide) (by decide) (by decide) (by decide) (Nat.le_of_ble_eq_true rfl) (Nat.le_of_ble_eq_true rfl) dX3_init_34 (fun hz => ?_)
  refine v_putR fX3_24 rfl (fun _ => rfl) (fun _ => rfl) dX3_init_36 ?_
  have hz := Zr.put (b := 55) (f := 4) (x := 60) (by decide) hz
  refine r_aload_n (j := 0) rfl rfl dX3_init_39 ?_
  refine r_iconst (v := 5) rfl dX3_init_40 ?_
  refine v_newaI (M := 5) (N' := 62) (k' := 6) (n' := 20) rfl hz rfl rfl rfl (by decide) (by decide) (by decide) (by decide) (Nat.le_of_ble_eq_true rfl) (Nat.le_of_ble_eq_true rfl) dX3_init_41 (fun hz => ?_)
  refine v_putR fX3_27 rfl (fun _ => rfl) (fun _ => rfl) dX3_init_43 ?_
  have hz := Zr.put (b := 55) (f := 5) (x := 61) (by decide) hz
  refine r_aload_n (j := 0) rfl rfl dX3_init_46 ?_
  refine r_iconst (v := 4) rfl dX3_init_47 ?_
  refine v_newaI (M := 4) (N' := 63) (k' := 7) (n' := 24) rfl hz rfl rfl rfl (by decide) (by decide) (by decide) (by decide) (Nat.le_of_ble_eq_true rfl) (Nat.le_of_ble_eq_true rfl) dX3_init_48 (fun hz => ?_)
  refine v_putR fX3_30 rfl (fun _ => rfl) (fun _ => rfl) dX3_init_50 ?_
  have hz := Zr.put (b := 55) (f := 6) (x := 62) (by decide) hz
  refine r_aload_n (j := 0) rfl rfl dX3_init_53 ?_
  refine v_new (N' := 64) (k' := 8) (n' := 25) (ty0 := tyX1) rfl hz rfl rfl rfl (by decide) rfl (by decide) inq1 tyX1_ok nfd1 qX3_33 inz1 iniRX1 (Nat.le_of_ble_eq_true rfl) (Nat.le_of_ble_eq_true rfl) dX3_init_54 (fun hz => ?_)
  refine r_dup rfl dX3_init_57 ?_
  refine v_cI0 (N' := 64) (k' := 8) (n' := 25) (k_X1_init_63 hz) (Nat.le_of_ble_eq_true rfl) lX3_35 miX1_init rfl rfl (Nat.le_of_ble_eq_true rfl) rfl rfl (Nat.le_of_ble_eq_true rfl) (Nat.le_of_ble_eq_true rfl) dX3_init_58 ?_
  have hz := z_X1_init_63 hz
  refine v_putR fX3_36 rfl (fun _ => rfl) (fun _ => rfl) dX3_init_61 ?_
  have hz := Zr.put (b := 55) (f := 7) (x := 63) (by decide) hz
  refine v_vret rfl (Nat.le_of_ble_eq_true rfl) (Nat.le_of_ble_eq_true rfl) dX3_init_64 ?_
  exact ⟨rfl, rfl, rfl⟩
theorem z_X3_init_55 (hz : Zr 56 I L l) : Zr 64 I (up L 63 0 1) (lCon 55 8 l) := Zr.lup (by decide) (Zr.con (by decide) (hz.mono (by decide)) 8)
theorem k_X4_init_64 (hz : Zr 65 I L l) : Con sc mX4_init 2 3 15 [.ref 64] (XV 65 I L (PA l)) (rV (XV 68 I L (PA (lCon 64 3 l)))) := by
  refine Con_of (by decide) (Nat.le_of_ble_eq_true rfl) ?_
  refine r_aload_n (j := 0) rfl rfl dX4_init_0 ?_
  refine r_objI oX4_3 objI1 objI2 (Nat.le_of_ble_eq_true rfl) (Nat.le_of_ble_eq_true rfl) dX4_init_1 ?_
  refine r_aload_n (j := 0) rfl rfl dX4_init_4 ?_
  refine r_iconst (v := 5) rfl dX4_init_5 ?_
  refine v_newaI (M := 5) (N' := 66) (k' := 1) (n' := 5) rfl hz rfl rfl rfl (by decide) (by decide) (by decide) (by decide) (Nat.le_of_ble_eq_true rfl) (Nat.le_of_ble_eq_true rfl) dX4_init_6 (fun hz => ?_)
  refine v_putR fX4_9 rfl (fun _ => rfl) (fun _ => rfl) dX4_init_8 ?_
  have hz := Zr.put (b := 64) (f := 0) (x := 65) (by decide) hz
  refine r_aload_n (j := 0) rfl rfl dX4_init_11 ?_
  refine r_iconst (v := 5) rfl dX4_init_12 ?_
  refine v_newaI (M := 5) (N' := 67) (k' := 2) (n' := 10) rfl hz rfl rfl rfl (by decide) (by decide) (by decide) (by decide) (Nat.le_of_ble_eq_true rfl) (Nat.le_of_ble_eq_true rfl) dX4_init_13 (fun hz => ?_)
  refine v_putR fX4_15 rfl (fun _ => rfl) (fun _ => rfl) dX4_init_15 ?_
  have hz := Zr.put (b := 64) (f := 1) (x := 66) (by decide) hz
  refine r_aload_n (j := 0) rfl rfl dX4_init_18 ?_
  refine r_iconst (v := 5) rfl dX4_init_19 ?_
  refine v_newaI (M := 5) (N' := 68) (k' := 3) (n' := 15) rfl hz rfl rfl rfl (by decide) (by decide) (by decide) (by decide) (Nat.le_of_ble_eq_true rfl) (Nat.le_of_ble_eq_true rfl) dX4_init_20 (fun hz => ?_)
  refine v_putR fX4_18 rfl (fun _ => rfl) (fun _ => rfl) dX4_init_22 ?_
  have hz := Zr.put (b := 64) (f := 2) (x := 67) (by decide) hz
  refine v_vret rfl (Nat.le_of_ble_eq_true rfl) (Nat.le_of_ble_eq_true rfl) dX4_init_25 ?_
  exact ⟨rfl, rfl, rfl⟩
theorem z_X4_init_64 (hz : Zr 65 I L l) : Zr 68 I L (lCon 64 3 l) := Zr.con (by decide) (hz.mono (by decide)) 3
theorem k_X2_init_68 (hz : Zr 69 I L l) : Con sc mX2_init 2 4 20 [.ref 68] (XV 69 I L (PA l)) (rV (XV 73 I L (PA (lCon 68 4 l)))) := by
  refine Con_of (by decide) (Nat.le_of_ble_eq_true rfl) ?_
  refine r_aload_n (j := 0) rfl rfl dX2_init_0 ?_
  refine r_objI oX2_3 objI1 objI2 (Nat.le_of_ble_eq_true rfl) (Nat.le_of_ble_eq_true rfl) dX2_init_1 ?_
  refine r_aload_n (j := 0) rfl rfl dX2_init_4 ?_
  refine r_iconst (v := 5) rfl dX2_init_5 ?_
  refine v_newaI (M := 5) (N' := 70) (k' := 1) (n' := 5) rfl hz rfl rfl rfl (by decide) (by decide) (by decide) (by decide) (Nat.le_of_ble_eq_true rfl) (Nat.le_of_ble_eq_true rfl) dX2_init_6 (fun hz => ?_)
  refine v_putR fX2_9 rfl (fun _ => rfl) (fun _ => rfl) dX2_init_8 ?_
  have hz := Zr.put (b := 68) (f := 0) (x := 69) (by decide) hz
  refine r_aload_n (j := 0) rfl rfl dX2_init_11 ?_
  refine r_iconst (v := 5) rfl dX2_init_12 ?_
  refine v_newaI (M := 5) (N' := 71) (k' := 2) (n' := 10) rfl hz rfl rfl rfl (by decide) (by decide) (by decide) (by decide) (Nat.le_of_ble_eq_true rfl) (Nat.le_of_ble_eq_true rfl) dX2_init_13 (fun hz => ?_)
  refine v_putR fX2_15 rfl (fun _ => rfl) (fun _ => rfl) dX2_init_15 ?_
  have hz := Zr.put (b := 68) (f := 1) (x := 70) (by decide) hz
  refine r_aload_n (j := 0) rfl rfl dX2_init_18 ?_
  refine r_iconst (v := 5) rfl dX2_init_19 ?_
  refine v_newaI (M := 5) (N' := 72) (k' := 3) (n' := 15) rfl hz rfl rfl rfl (by decide) (by decide) (by decide) (by decide) (Nat.le_of_ble_eq_true rfl) (Nat.le_of_ble_eq_true rfl) dX2_init_20 (fun hz => ?_)
  refine v_putR fX2_18 rfl (fun _ => rfl) (fun _ => rfl) dX2_init_22 ?_
  have hz := Zr.put (b := 68) (f := 2) (x := 71) (by decide) hz
  refine r_aload_n (j := 0) rfl rfl dX2_init_25 ?_
  refine r_iconst (v := 5) rfl dX2_init_26 ?_
  refine v_newaI (M := 5) (N' := 73) (k' := 4) (n' := 20) rfl hz rfl rfl rfl (by decide) (by decide) (by decide) (by decide) (Nat.le_of_ble_eq_true rfl) (Nat.le_of_ble_eq_true rfl) dX2_init_27 (fun hz => ?_)
  refine v_putR fX2_21 rfl (fun _ => rfl) (fun _ => rfl) dX2_init_29 ?_
  have hz := Zr.put (b := 68) (f := 3) (x := 72) (by decide) hz
  refine v_vret rfl (Nat.le_of_ble_eq_true rfl) (Nat.le_of_ble_eq_true rfl) dX2_init_32 ?_
  exact ⟨rfl, rfl, rfl⟩
theorem z_X2_init_68 (hz : Zr 69 I L l) : Zr 73 I L (lCon 68 4 l) := Zr.con (by decide) (hz.mono (by decide)) 4
theorem k_X5_init_73 (hz : Zr 74 I L l) : Con sc mX5_init 2 1 401 [.ref 73] (XV 74 I L (PA l)) (rV (XV 75 I L (PA (lCon 73 1 l)))) := by
  refine Con_of (by decide) (Nat.le_of_ble_eq_true rfl) ?_
  refine r_aload_n (j := 0) rfl rfl dX5_init_0 ?_
  refine r_objI oX5_3 objI1 objI2 (Nat.le_of_ble_eq_true rfl) (Nat.le_of_ble_eq_true rfl) dX5_init_1 ?_
  refine r_aload_n (j := 0) rfl rfl dX5_init_4 ?_
  refine r_sipush (v := 401) rfl dX5_init_5 ?_
  refine v_newaI (M := 401) (N' := 75) (k' := 1) (n' := 401) rfl hz rfl rfl rfl (by decide) (by decide) (by decide) (by decide) (Nat.le_of_ble_eq_true rfl) (Nat.le_of_ble_eq_true rfl) dX5_init_8 (fun hz => ?_)
  refine v_putR fX5_9 rfl (fun _ => rfl) (fun _ => rfl) dX5_init_10 ?_
  have hz := Zr.put (b := 73) (f := 0) (x := 74) (by decide) hz
  refine v_vret rfl (Nat.le_of_ble_eq_true rfl) (Nat.le_of_ble_eq_true rfl) dX5_init_13 ?_
  exact ⟨rfl, rfl, rfl⟩
theorem z_X5_init_73 (hz : Zr 74 I L l) : Zr 75 I L (lCon 73 1 l) := Zr.con (by decide) (hz.mono (by decide)) 1
theorem k_X9_init_75 (hz : Zr 76 I L l) : Con sc mX9_init 2 8 140 [.ref 75] (XV 76 I L (PA l)) (rV (XV 84 I L (PA (lCon 75 8 l)))) := by
  refine Con_of (by decide) (Nat.le_of_ble_eq_true rfl) ?_
  refine r_aload_n (j := 0) rfl rfl dX9_init_0 ?_
  refine r_objI oX9_3 objI1 objI2 (Nat.le_of_ble_eq_true rfl) (Nat.le_of_ble_eq_true rfl) dX9_init_1 ?_
  refine r_aload_n (j := 0) rfl rfl dX9_init_4 ?_
  refine r_bipush (v := 16) rfl dX9_init_5 ?_
  refine v_newaI (M := 16) (N' := 77) (k' := 1) (n' := 16) rfl hz rfl rfl rfl (by decide) (by decide) (by decide) (by decide) (Nat.le_of_ble_eq_true rfl) (Nat.le_of_ble_eq_true rfl) dX9_init_7 (fun hz => ?_)
  refine v_putR fX9_11 rfl (fun _ => rfl) (fun _ => rfl) dX9_init_9 ?_
  have hz := Zr.put (b := 75) (f := 0) (x := 76) (by decide) hz
  refine r_aload_n (j := 0) rfl rfl dX9_init_12 ?_
  refine r_bipush (v := 16) rfl dX9_init_13 ?_
  refine v_newaI (M := 16) (N' := 78) (k' := 2) (n' := 32) rfl hz rfl rfl rfl (by decide) (by decide) (by decide) (by decide) (Nat.le_of_ble_eq_true rfl) (Nat.le_of_ble_eq_true rfl) dX9_init_15 (fun hz => ?_)
  refine v_putR fX9_15 rfl (fun _ => rfl) (fun _ => rfl) dX9_init_17 ?_
  have hz := Zr.put (b := 75) (f := 1) (x := 77) (by decide) hz
  refine r_aload_n (j := 0) rfl rfl dX9_init_20 ?_
  refine r_bipush (v := 16) rfl dX9_init_21 ?_
  refine v_newaI (M := 16) (N' := 79) (k' := 3) (n' := 48) rfl hz rfl rfl rfl (by decide) (by decide) (by decide) (by decide) (Nat.le_of_ble_eq_true rfl) (Nat.le_of_ble_eq_true rfl) dX9_init_23 (fun hz => ?_)
  refine v_putR fX9_18 rfl (fun _ => rfl) (fun _ => rfl) dX9_init_25 ?_
  have hz := Zr.put (b := 75) (f := 2) (x := 78) (by decide) hz
  refine r_aload_n (j := 0) rfl rfl dX9_init_28 ?_
  refine r_bipush (v := 16) rfl dX9_init_29 ?_
  refine v_newaI (M := 16) (N' := 80) (k' := 4) (n' := 64) rfl hz rfl rfl rfl (by decide) (by decide) (by decide) (by decide) (Nat.le_of_ble_eq_true rfl) (Nat.le_of_ble_eq_true rfl) dX9_init_31 (fun hz => ?_)
  refine v_putR fX9_21 rfl (fun _ => rfl) (fun _ => rfl) dX9_init_33 ?_
  have hz := Zr.put (b := 75) (f := 3) (x := 79) (by decide) hz
  refine r_aload_n (j := 0) rfl rfl dX9_init_36 ?_
  refine r_bipush (v := 16) rfl dX9_init_37 ?_
  refine v_newaI (M := 16) (N' := 81) (k' := 5) (n' := 80) rfl hz rfl rfl rfl (by decide) (by decide) (by decide) (by decide) (Nat.le_of_ble_eq_true rfl) (Nat.le_of_ble_eq_true rfl) dX9_init_39 (fun hz => ?_)
  refine v_putR fX9_24 rfl (fun _ => rfl) (fun _ => rfl) dX9_init_41 ?_
  have hz := Zr.put (b := 75) (f := 4) (x := 80) (by decide) hz
  refine r_aload_n (j := 0) rfl rfl dX9_init_44 ?_
  refine r_bipush (v := 20) rfl dX9_init_45 ?_
  refine v_newaI (M := 20) (N' := 82) (k' := 6) (n' := 100) rfl hz rfl rfl rfl (by decide) (by decide) (by decide) (by decide) (Nat.le_of_ble_eq_true rfl) (Nat.le_of_ble_eq_true rfl) dX9_init_47 (fun hz => ?_)
  refine v_putR fX9_27 rfl (fun _ => rfl) (fun _ => rfl) dX9_init_49 ?_
  have hz := Zr.put (b := 75) (f := 5) (x := 81) (by decide) hz
  refine r_aload_n (j := 0) rfl rfl dX9_init_52 ?_
  refine r_bipush (v := 20) rfl dX9_init_53 ?_
  refine v_newaI (M := 20) (N' := 83) (k' := 7) (n' := 120) rfl hz rfl rfl rfl (by decide) (by decide) (by decide) (by decide) (Nat.le_of_ble_eq_true rfl) (Nat.le_of_ble_eq_true rfl) dX9_init_55 (fun hz => ?_)
  refine v_putR fX9_30 rfl (fun _ => rfl) (fun _ => rfl) dX9_init_57 ?_
  have hz := Zr.put (b := 75) (f := 6) (x := 82) (by decide) hz
  refine r_aload_n (j := 0) rfl rfl dX9_init_60 ?_
  refine r_bipush (v := 20) rfl dX9_init_61 ?_
  refine v_newaI (M := 20) (N' := 84) (k' := 8) (n' := 140) rfl hz rfl rfl rfl (by decide) (by decide) (by decide) (by decide) (Nat.le_of_ble_eq_true rfl) (Nat.le_of_ble_eq_true rfl) dX9_init_63 (fun hz => ?_)
  refine v_putR fX9_33 rfl (fun _ => rfl) (fun _ => rfl) dX9_init_65 ?_
  have hz := Zr.put (b := 75) (f := 7) (x := 83) (by decide) hz
  refine v_vret rfl (Nat.le_of_ble_eq_true rfl) (Nat.le_of_ble_eq_true rfl) dX9_init_68 ?_
  exact ⟨rfl, rfl, rfl⟩
theorem z_X9_init_75 (hz : Zr 76 I L l) : Zr 84 I L (lCon 75 8 l) := Zr.con (by decide) (hz.mono (by decide)) 8
theorem k_X7_init_84 (hz : Zr 85 I L l) : Con sc mX7_init 2 7 546 [.ref 84] (XV 85 I L (PA l)) (rV (XV 92 I L (PA (lCon 84 7 l)))) := by
  refine Con_of (by decide) (Nat.le_of_ble_eq_true rfl) ?_
  refine r_aload_n (j := 0) rfl rfl dX7_init_0 ?_
  refine r_objI oX7_3 objI1 objI2 (Nat.le_of_ble_eq_true rfl) (Nat.le_of_ble_eq_true rfl) dX7_init_1 ?_
  refine r_aload_n (j := 0) rfl rfl dX7_init_4 ?_
  refine r_bipush (v := 8) rfl dX7_init_5 ?_
  refine v_newaI (M := 8) (N' := 86) (k' := 1) (n' := 8) rfl hz rfl rfl rfl (by decide) (by decide) (by decide) (by decide) (Nat.le_of_ble_eq_true rfl) (Nat.le_of_ble_eq_true rfl) dX7_init_7 (fun hz => ?_)
  refine v_putR fX7_11 rfl (fun _ => rfl) (fun _ => rfl) dX7_init_9 ?_
  have hz := Zr.put (b := 84) (f := 0) (x := 85) (by decide) hz
  refine r_aload_n (j := 0) rfl rfl dX7_init_12 ?_
  refine r_iconst (v := 5) rfl dX7_init_13 ?_
  refine v_newaI (M := 5) (N' := 87) (k' := 2) (n' := 13) rfl hz rfl rfl rfl (by decide) (by decide) (by decide) (by decide) (Nat.le_of_ble_eq_true rfl) (Nat.le_of_ble_eq_true rfl) dX7_init_14 (fun hz => ?_)
  refine v_putR fX7_15 rfl (fun _ => rfl) (fun _ => rfl) dX7_init_16 ?_
  have hz := Zr.put (b := 84) (f := 1) (x := 86) (by decide) hz
  refine r_aload_n (j := 0) rfl rfl dX7_init_19 ?_
  refine r_iconst (v := 5) rfl dX7_init_20 ?_
  refine v_newaI (M := 5) (N' := 88) (k' := 3) (n' := 18) rfl hz rfl rfl rfl (by decide) (by decide) (by decide) (by decide) (Nat.le_of_ble_eq_true rfl) (Nat.le_of_ble_eq_true rfl) dX7_init_21 (fun hz => ?_)
  refine v_putR fX7_18 rfl (fun _ => rfl) (fun _ => rfl) dX7_init_23 ?_
  have hz := Zr.put (b := 84) (f := 2) (x := 87) (by decide) hz
  refine r_aload_n (j := 0) rfl rfl dX7_init_26 ?_
  refine r_bipush (v := 8) rfl dX7_init_27 ?_
  refine v_newaI (M := 8) (N' := 89) (k' := 4) (n' := 26) rfl hz rfl rfl rfl (by decide) (by decide) (by decide) (by decide) (Nat.le_of_ble_eq_true rfl) (Nat.le_of_ble_eq_true rfl) dX7_init_29 (fun hz => ?_)
  refine v_putR fX7_21 rfl (fun _ => rfl) (fun _ => rfl) dX7_init_31 ?_
  have hz := Zr.put (b := 84) (f := 3) (x := 88) (by decide) hz
  refine r_aload_n (j := 0) rfl rfl dX7_init_34 ?_
  refine r_bipush (v := 8) rfl dX7_init_35 ?_
  refine v_newaI (M := 8) (N' := 90) (k' := 5) (n' := 34) rfl hz rfl rfl rfl (by decide) (by decide) (by decide) (by decide) (Nat.le_of_ble_eq_true rfl) (Nat.le_of_ble_eq_true rfl) dX7_init_37 (fun hz => ?_)
  refine v_putR fX7_24 rfl (fun _ => rfl) (fun _ => rfl) dX7_init_39 ?_
  have hz := Zr.put (b := 84) (f := 4) (x := 89) (by decide) hz
  refine r_aload_n (j := 0) rfl rfl dX7_init_42 ?_
  refine r_sipush (v := 256) rfl dX7_init_43 ?_
  refine v_newaI (M := 256) (N' := 91) (k' := 6) (n' := 290) rfl hz rfl rfl rfl (by decide) (by decide) (by decide) (by decide) (Nat.le_of_ble_eq_true rfl) (Nat.le_of_ble_eq_true rfl) dX7_init_46 (fun hz => ?_)
  refine v_putR fX7_27 rfl (fun _ => rfl) (fun _ => rfl) dX7_init_48 ?_
  have hz := Zr.put (b := 84) (f := 5) (x := 90) (by decide) hz
  refine r_aload_n (j := 0) rfl rfl dX7_init_51 ?_
  refine r_sipush (v := 256) rfl dX7_init_52 ?_
  refine v_newaI (M := 256) (N' := 92) (k' := 7) (n' := 546) rfl hz rfl rfl rfl (by decide) (by decide) (by decide) (by decide) (Nat.le_of_ble_eq_true rfl) (Nat.le_of_ble_eq_true rfl) dX7_init_55 (fun hz => ?_)
  refine v_putR fX7_30 rfl (fun _ => rfl) (fun _ => rfl) dX7_init_57 ?_
  have hz := Zr.put (b := 84) (f := 6) (x := 91) (by decide) hz
  refine v_vret rfl (Nat.le_of_ble_eq_true rfl) (Nat.le_of_ble_eq_true rfl) dX7_init_60 ?_
  exact ⟨rfl, rfl, rfl⟩
theorem z_X7_init_84 (hz : Zr 85 I L l) : Zr 92 I L (lCon 84 7 l) := Zr.con (by decide) (hz.mono (by decide)) 7
theorem k_X6_init_92 (hz : Zr 93 I L l) : Con sc mX6_init 2 2 31 [.ref 92] (XV 93 I L (PA l)) (rV (XV 95 I (up L 94 0 1) (PA (lCon 92 2 l)))) := by
  refine Con_of (by decide) (Nat.le_of_ble_eq_true rfl) ?_
  refine r_aload_n (j := 0) rfl rfl dX6_init_0 ?_
  refine r_objI oX6_1 objI1 objI2 (Nat.le_of_ble_eq_true rfl) (Nat.le_of_ble_eq_true rfl) dX6_init_1 ?_
  refine r_aload_n (j := 0) rfl rfl dX6_init_4 ?_
  refine r_bipush (v := 30) rfl dX6_init_5 ?_
  refine v_newaI (M := 30) (N' := 94) (k' := 1) (n' := 30) rfl hz rfl rfl rfl (by decide) (by decide) (by decide) (by decide) (Nat.le_of_ble_eq_true rfl) (Nat.le_of_ble_eq_true rfl) dX6_init_7 (fun hz => ?_)
  refine v_putR fX6_9 rfl (fun _ => rfl) (fun _ => rfl) dX6_init_9 ?_
  have hz := Zr.put (b := 92) (f := 0) (x := 93) (by decide) hz
  refine r_aload_n (j := 0) rfl rfl dX6_init_12 ?_
  refine v_new (N' := 95) (k' := 2) (n' := 31) (ty0 := tyX1) rfl hz rfl rfl rfl (by decide) rfl (by decide) inq1 tyX1_ok nfd1 qX6_13 inz1 iniRX1 (Nat.le_of_ble_eq_true rfl) (Nat.le_of_ble_eq_true rfl) dX6_init_13 (fun hz => ?_)
  refine r_dup rfl dX6_init_16 ?_
  refine v_cI0 (N' := 95) (k' := 2) (n' := 31) (k_X1_init_94 hz) (Nat.le_of_ble_eq_true rfl) lX6_15 miX1_init rfl rfl (Nat.le_of_ble_eq_true rfl) rfl rfl (Nat.le_of_ble_eq_true rfl) (Nat.le_of_ble_eq_true rfl) dX6_init_17 ?_
  have hz := z_X1_init_94 hz
  refine v_putR fX6_16 rfl (fun _ => rfl) (fun _ => rfl) dX6_init_20 ?_
  have hz := Zr.put (b := 92) (f := 1) (x := 94) (by decide) hz
  refine v_vret rfl (Nat.le_of_ble_eq_true rfl) (Nat.le_of_ble_eq_true rfl) dX6_init_23 ?_
  exact ⟨rfl, rfl, rfl⟩
theorem z_X6_init_92 (hz : Zr 93 I L l) : Zr 95 I (up L 94 0 1) (lCon 92 2 l) := Zr.lup (by decide) (Zr.con (by decide) (hz.mono (by decide)) 2)
/-- the reader's keywords -/
def rdR (L : Ls) (i : Nat) : Ls := upr L 34 (fun j => if j < i then lN (kwC j) else L 34 j)
def rdl (l : Rl) : Rl := (33, 3, 18) :: (33, 2, 1) :: (33, 1, 35) :: (33, 0, 34) :: l
theorem rd_s (L : Ls) (i : Nat) : up (rdR L i) 34 i (lN (kwC i)) = rdR L (i + 1) := by
  funext a
  by_cases h : a = 34
  · subst h
    funext j
    unfold rdR
    simp only [up_eq, upr_eq, if_true, vu_eq]
    by_cases h1 : j = i
    · rw [if_pos h1, if_pos (by omega), h1]
    · rw [if_neg h1]
      by_cases h2 : j < i
      · rw [if_pos h2, if_pos (by omega)]
      · rw [if_neg h2, if_neg (by omega)]
  · unfold rdR
    simp [up_eq, upr_eq, h]
theorem lv_X8_init : ∀ n i : Nat, i + n = 15 → ∀ (K : Ls) (x : Int32), K = rdR L i → x.toInt = i → RR sc mX8_init 5 2 18 (rV (XV 36 I (rdR L 15) (PA (rdl l)))) 2 18 38 [(3, .int x), (0, .ref 33), (1, .ref 1), (2, .ref 18)] [] (XV 36 I K (PA (rdl l))) := by
  have h15 : (Int32.ofNat 15).toInt = 15 := rfl
  intro n
  induction n with
  | zero =>
    intro i hi K x eK hx
    refine r_iload_n (j := 0) rfl rfl dX8_init_38 ?_
    refine r_aload_n (j := 1) rfl rfl dX8_init_39 ?_
    refine v_getR (b := 34) fX8_15 rfl rfl dX8_init_40 ?_
    refine v_alen53 rfl dX8_init_43 ?_
    refine r_icmp_ge (tgt := 66) dX8_init_44 (by decide) (fun c44 => ?_) (fun c44 => ?_)
    · refine v_vret rfl (Nat.le_of_ble_eq_true rfl) (Nat.le_of_ble_eq_true rfl) dX8_init_66 ?_
      exact ⟨rfl, by rw [eK, show i = 15 by omega], rfl⟩
    · exfalso; rw [i_le] at c44; exact c44 (by omega)
  | succ n ih =>
    intro i hi K x eK hx
    have ex8 : x * 8 = nI (8 * i) := by
      apply Int32.toInt_inj.mp
      rw [i_mul (by simp only [Int32.reduceToInt]; omega) (by simp only [Int32.reduceToInt]; omega), nI_toInt (by omega)]
      simp only [Int32.reduceToInt]
      omega
    refine r_iload_n (j := 0) rfl rfl dX8_init_38 ?_
    refine r_aload_n (j := 1) rfl rfl dX8_init_39 ?_
    refine v_getR (b := 34) fX8_15 rfl rfl dX8_init_40 ?_
    refine v_alen53 rfl dX8_init_43 ?_
    refine r_icmp_ge (tgt := 66) dX8_init_44 (by decide) (fun c44 => ?_) (fun c44 => ?_)
    · exfalso; rw [i_le] at c44; omega
    · refine r_aload_n (j := 1) rfl rfl dX8_init_47 ?_
      refine v_getR (b := 34) fX8_15 rfl rfl dX8_init_48 ?_
      refine r_iload_n (j := 0) rfl rfl dX8_init_51 ?_
      refine r_iload_n (j := 0) rfl rfl dX8_init_52 ?_
      refine r_bipush (v := 8) rfl dX8_init_53 ?_
      refine r_imul dX8_init_55 ?_
      refine v_cS1l (kv_X8_keywordCode (k := i) (by omega) ex8) (Nat.le_of_ble_eq_true rfl) lX8_34 mtX8_keywordCode (Nat.le_of_ble_eq_true rfl) (Nat.le_of_ble_eq_true rfl) (Nat.le_of_ble_eq_true rfl) dX8_init_56 ?_
      refine v_last rfl (up_in hx (by omega)) dX8_init_59 (fun J59 hJ59 => ?_)
      refine r_iinc (j := 0) (lv' := fun z => [(3, .int z), (0, .ref 33), (1, .ref 1), (2, .ref 18)]) dX8_init_60 rfl (Nat.le_of_ble_eq_true rfl) (fun _ => rfl) (fun x3_60 ex3_60 => ?_)
      refine r_goto (tgt := 38) dX8_init_63 (by decide) ?_
      exact ih (i + 1) (by omega) _ _ (by rw [hJ59, cl_of hx, eK, rd_s]) (by rw [ex3_60]; exact i_inc hx (by omega))
theorem rd_0 (L : Ls) : rdR L 0 = L := by
  funext a
  by_cases h : a = 34
  · subst h; funext j; unfold rdR; simp [upr_eq]
  · unfold rdR; simp [upr_eq, h]
theorem k_X8_init_33 (hz : Zr 34 I L l) : Con sc mX8_init 5 2 18 [.ref 33, .ref 1, .ref 18] (XV 34 I L (PA l)) (rV (XV 36 (up I 33 5 (-1)) (rdR L 15) (PA (rdl l)))) := by
  refine Con_of (by decide) (Nat.le_of_ble_eq_true rfl) ?_
  refine r_aload_n (j := 0) rfl rfl dX8_init_0 ?_
  refine r_objI oX8_3 objI1 objI2 (Nat.le_of_ble_eq_true rfl) (Nat.le_of_ble_eq_true rfl) dX8_init_1 ?_
  refine r_aload_n (j := 0) rfl rfl dX8_init_4 ?_
  refine r_gets (v := .ref 1001) (by decide +kernel) fsX8_9 dX8_init_5 ?_
  refine r_tlen (t := tb1) oT_1 dX8_init_8 ?_
  refine v_newaL (M := 15) (N' := 35) (k' := 1) (n' := 15) rfl hz rfl rfl rfl (by decide) (by decide) (by decide) (by decide) (Nat.le_of_ble_eq_true rfl) (Nat.le_of_ble_eq_true rfl) dX8_init_9 (fun hz => ?_)
  refine v_putR fX8_15 rfl (fun _ => rfl) (fun _ => rfl) dX8_init_11 ?_
  have hz := Zr.put (b := 33) (f := 0) (x := 34) (by decide) hz
  refine r_aload_n (j := 0) rfl rfl dX8_init_14 ?_
  refine r_iconst (v := 3) rfl dX8_init_15 ?_
  refine v_newaI (M := 3) (N' := 36) (k' := 2) (n' := 18) rfl hz rfl rfl rfl (by decide) (by decide) (by decide) (by decide) (Nat.le_of_ble_eq_true rfl) (Nat.le_of_ble_eq_true rfl) dX8_init_16 (fun hz => ?_)
  refine v_putR fX8_19 rfl (fun _ => rfl) (fun _ => rfl) dX8_init_18 ?_
  have hz := Zr.put (b := 33) (f := 1) (x := 35) (by decide) hz
  refine r_aload_n (j := 0) rfl rfl dX8_init_21 ?_
  refine r_iconst (v := (-1)) rfl dX8_init_22 ?_
  refine v_putI fX8_22 rfl (rfl) (rfl) dX8_init_23 (fun J23 hJ23 => ?_)
  have hz := hz.upx hJ23
  refine r_aload_n (j := 0) rfl rfl dX8_init_26 ?_
  refine r_aload_n (j := 1) rfl rfl dX8_init_27 ?_
  refine v_putR fX8_26 rfl (fun _ => rfl) (fun _ => rfl) dX8_init_28 ?_
  have hz := Zr.put (b := 33) (f := 2) (x := 1) (by decide) hz
  refine r_aload_n (j := 0) rfl rfl dX8_init_31 ?_
  refine r_aload_n (j := 2) rfl rfl dX8_init_32 ?_
  refine v_putR fX8_30 rfl (fun _ => rfl) (fun _ => rfl) dX8_init_33 ?_
  have hz := Zr.put (b := 33) (f := 3) (x := 18) (by decide) hz
  refine r_iconst (v := 0) rfl dX8_init_36 ?_
  refine r_istore_n (lv' := fun z => [(3, .int z), (0, .ref 33), (1, .ref 1), (2, .ref 18)]) dX8_init_37 rfl (Nat.le_of_ble_eq_true rfl) (fun _ => rfl) (fun x3_37 ex3_37 => ?_)
  subst hJ23; exact lv_X8_init (l := l) 15 0 rfl _ _ (rd_0 L).symm (by rw [ex3_37]; rfl)
theorem z_X8_init_33 (hz : Zr 34 I L l) : Zr 36 (up I 33 5 (-1)) (rdR L 15) (rdl l) := by
  have h := hz.mono (show 34 ≤ 36 by decide)
  exact Zr.upp (by decide) (Zr.put (by decide) (Zr.put (by decide) (Zr.put (by decide) (Zr.put (by decide) (Zr.luprr (by decide) h)))))
end
