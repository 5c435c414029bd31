/-! the model: all begins anew; its camp -/
section
variable {sc : Sc} {I : Is} {L : Ls} {tg : Nat}
def z0 : Nat → Int32 := fun _ => 0
theorem l_X12_ba1 {post : Po} : ∀ n i, i + n = 5 → ∀ (J : Is) (x : Int32), x = nI i → J = upr I 125 (ptr z0 (I 125) i) → (∀ (J : Is) (x : Int32), J = upr I 125 (ptr z0 (I 125) 5) → RR sc mX12_beginAnew 0 0 0 post 0 0 30 [(1, .int x), (0, .ref 95)] [] (XW J L tg)) → RR sc mX12_beginAnew 0 0 0 post 0 0 12 [(1, .int x), (0, .ref 95)] [] (XW J L tg) := by
  intro n
  induction n with
  | zero =>
    intro i hi J x ex hJ kk
    obtain rfl : i = 5 := by omega
    subst ex
    refine r_iload_n (j := 0) rfl rfl dX12_beginAnew_12 ?_
    refine r_iconst (v := 5) rfl dX12_beginAnew_13 ?_
    refine r_icmp_ge (tgt := 30) dX12_beginAnew_14 (by decide) (fun c14 => ?_) (fun c14 => ?_)
    · exact kk _ _ hJ
    · exact absurd (by decide : (5 : Int32) ≤ nI 5) c14
  | succ n ih =>
    intro i hi J x ex hJ kk
    have xi : x.toInt = i := by rw [ex, nI_toInt (by omega)]
    have xc : x.toNatClampNeg = i := by rw [ex, nI_clamp (by omega)]
    refine r_iload_n (j := 0) rfl rfl dX12_beginAnew_12 ?_
    refine r_iconst (v := 5) rfl dX12_beginAnew_13 ?_
    refine r_icmp_ge (tgt := 30) dX12_beginAnew_14 (by decide) (fun c14 => ?_) (fun c14 => ?_)
    · exfalso; ((try simp only [bI_0, bI_1, lc_lt, lc_gt, lc_le, lc_ge, Classical.not_not] at *); (try simp only [i_lt, i_le, i_eq, l_lt, l_le, l_eq, Int32.toInt_toInt64, Int32.reduceToInt, Int64.reduceToInt] at *); omega)
    · refine r_aload_n (j := 1) rfl rfl dX12_beginAnew_17 ?_
      refine w_getR (b := 125) fX12_267 rfl rfl dX12_beginAnew_18 ?_
      refine r_iload_n (j := 0) rfl rfl dX12_beginAnew_21 ?_
      refine r_iconst (v := 0) rfl dX12_beginAnew_22 ?_
      refine w_iast rfl (up_in xi (show _ < 5 by omega)) dX12_beginAnew_23 (fun J23 hJ23 => ?_)
      refine r_iinc (j := 0) (lv' := fun z => [(1, .int z), (0, .ref 95)]) dX12_beginAnew_24 rfl (Nat.le_of_ble_eq_true rfl) (fun _ => rfl) (fun x1_24 ex1_24 => ?_)
      refine r_goto (tgt := 12) dX12_beginAnew_27 (by decide) ?_
      refine ih (i + 1) (by omega) _ _ (by rw [ex1_24, ex]; exact nI_1 _) ?_ kk
      rw [hJ23, xc, hJ, upr_up, show (0 : Int32) = z0 i from rfl, ptr_s]
theorem l_X12_ba2 {post : Po} : ∀ n i, i + n = 4 → ∀ (J : Is) (x : Int32), x = nI i → J = upr I 126 (ptr z0 (I 126) i) → (∀ (J : Is) (x : Int32), J = upr I 126 (ptr z0 (I 126) 4) → RR sc mX12_beginAnew 0 0 0 post 0 0 50 [(1, .int x), (0, .ref 95)] [] (XW J L tg)) → RR sc mX12_beginAnew 0 0 0 post 0 0 32 [(1, .int x), (0, .ref 95)] [] (XW J L tg) := by
  intro n
  induction n with
  | zero =>
    intro i hi J x ex hJ kk
    obtain rfl : i = 4 := by omega
    subst ex
    refine r_iload_n (j := 0) rfl rfl dX12_beginAnew_32 ?_
    refine r_iconst (v := 4) rfl dX12_beginAnew_33 ?_
    refine r_icmp_ge (tgt := 50) dX12_beginAnew_34 (by decide) (fun c34 => ?_) (fun c34 => ?_)
    · exact kk _ _ hJ
    · exact absurd (by decide : (4 : Int32) ≤ nI 4) c34
  | succ n ih =>
    intro i hi J x ex hJ kk
    have xi : x.toInt = i := by rw [ex, nI_toInt (by omega)]
    have xc : x.toNatClampNeg = i := by rw [ex, nI_clamp (by omega)]
    refine r_iload_n (j := 0) rfl rfl dX12_beginAnew_32 ?_
    refine r_iconst (v := 4) rfl dX12_beginAnew_33 ?_
    refine r_icmp_ge (tgt := 50) dX12_beginAnew_34 (by decide) (fun c34 => ?_) (fun c34 => ?_)
    · exfalso; ((try simp only [bI_0, bI_1, lc_lt, lc_gt, lc_le, lc_ge, Classical.not_not] at *); (try simp only [i_lt, i_le, i_eq, l_lt, l_le, l_eq, Int32.toInt_toInt64, Int32.reduceToInt, Int64.reduceToInt] at *); omega)
    · refine r_aload_n (j := 1) rfl rfl dX12_beginAnew_37 ?_
      refine w_getR (b := 126) fX12_269 rfl rfl dX12_beginAnew_38 ?_
      refine r_iload_n (j := 0) rfl rfl dX12_beginAnew_41 ?_
      refine r_iconst (v := 0) rfl dX12_beginAnew_42 ?_
      refine w_iast rfl (up_in xi (show _ < 4 by omega)) dX12_beginAnew_43 (fun J43 hJ43 => ?_)
      refine r_iinc (j := 0) (lv' := fun z => [(1, .int z), (0, .ref 95)]) dX12_beginAnew_44 rfl (Nat.le_of_ble_eq_true rfl) (fun _ => rfl) (fun x1_44 ex1_44 => ?_)
      refine r_goto (tgt := 32) dX12_beginAnew_47 (by decide) ?_
      refine ih (i + 1) (by omega) _ _ (by rw [ex1_44, ex]; exact nI_1 _) ?_ kk
      rw [hJ43, xc, hJ, upr_up, show (0 : Int32) = z0 i from rfl, ptr_s]
theorem l_X12_ba3 {post : Po} : ∀ n i, i + n = 2 → ∀ (J : Is) (x : Int32), x = nI i → J = upr I 129 (ptr z0 (I 129) i) → (∀ (J : Is) (x : Int32), J = upr I 129 (ptr z0 (I 129) 2) → RR sc mX12_beginAnew 0 0 0 post 0 0 90 [(1, .int x), (0, .ref 95)] [] (XW J L tg)) → RR sc mX12_beginAnew 0 0 0 post 0 0 72 [(1, .int x), (0, .ref 95)] [] (XW J L tg) := by
  intro n
  induction n with
  | zero =>
    intro i hi J x ex hJ kk
    obtain rfl : i = 2 := by omega
    subst ex
    refine r_iload_n (j := 0) rfl rfl dX12_beginAnew_72 ?_
    refine r_iconst (v := 2) rfl dX12_beginAnew_73 ?_
    refine r_icmp_ge (tgt := 90) dX12_beginAnew_74 (by decide) (fun c74 => ?_) (fun c74 => ?_)
    · exact kk _ _ hJ
    · exact absurd (by decide : (2 : Int32) ≤ nI 2) c74
  | succ n ih =>
    intro i hi J x ex hJ kk
    have xi : x.toInt = i := by rw [ex, nI_toInt (by omega)]
    have xc : x.toNatClampNeg = i := by rw [ex, nI_clamp (by omega)]
    refine r_iload_n (j := 0) rfl rfl dX12_beginAnew_72 ?_
    refine r_iconst (v := 2) rfl dX12_beginAnew_73 ?_
    refine r_icmp_ge (tgt := 90) dX12_beginAnew_74 (by decide) (fun c74 => ?_) (fun c74 => ?_)
    · exfalso; ((try simp only [bI_0, bI_1, lc_lt, lc_gt, lc_le, lc_ge, Classical.not_not] at *); (try simp only [i_lt, i_le, i_eq, l_lt, l_le, l_eq, Int32.toInt_toInt64, Int32.reduceToInt, Int64.reduceToInt] at *); omega)
    · refine r_aload_n (j := 1) rfl rfl dX12_beginAnew_77 ?_
      refine w_getR (b := 129) fX12_278 rfl rfl dX12_beginAnew_78 ?_
      refine r_iload_n (j := 0) rfl rfl dX12_beginAnew_81 ?_
      refine r_iconst (v := 0) rfl dX12_beginAnew_82 ?_
      refine w_zast rfl (up_in xi (show _ < 2 by omega)) dX12_beginAnew_83 (fun J83 hJ83 => ?_)
      refine r_iinc (j := 0) (lv' := fun z => [(1, .int z), (0, .ref 95)]) dX12_beginAnew_84 rfl (Nat.le_of_ble_eq_true rfl) (fun _ => rfl) (fun x1_84 ex1_84 => ?_)
      refine r_goto (tgt := 72) dX12_beginAnew_87 (by decide) ?_
      refine ih (i + 1) (by omega) _ _ (by rw [ex1_84, ex]; exact nI_1 _) ?_ kk
      rw [hJ83, xc, hJ, upr_up, show vp_nar FieldType.boolean (0 : Int32) = z0 i from (by decide : vp_nar FieldType.boolean (0 : Int32) = 0), ptr_s]
/-- what begins anew -/
def baR (I J : Is) : Prop := (∀ k, k = 48 ∨ k = 49 ∨ (69 ≤ k ∧ k ≤ 72) ∨ k = 92 ∨ k = 91 → J 95 k = 0) ∧ (∀ k, ¬ (k = 48 ∨ k = 49 ∨ (69 ≤ k ∧ k ≤ 72) ∨ k = 92 ∨ k = 91) → J 95 k = I 95 k) ∧ (∀ j, j < 5 → J 125 j = 0) ∧ (∀ j, j < 4 → J 126 j = 0) ∧ (∀ j, j < 2 → J 129 j = 0) ∧ ∀ a, a ≠ 95 → a ≠ 125 → a ≠ 126 → a ≠ 129 → J a = I a
theorem k_X12_beginAnew : Con sc mX12_beginAnew 0 0 0 [.ref 95] (XW I L tg) (gV (fun J K' tq => tq = tg ∧ K' = L ∧ baR I J)) := by
  refine Con_of (by decide) (Nat.le_of_ble_eq_true rfl) ?_
  refine r_aload_n (j := 0) rfl rfl dX12_beginAnew_0 ?_
  refine r_iconst (v := 0) rfl dX12_beginAnew_1 ?_
  refine w_putI fX12_370 rfl (rfl) (rfl) dX12_beginAnew_2 (fun J2 hJ2 => ?_)
  refine r_aload_n (j := 0) rfl rfl dX12_beginAnew_5 ?_
  refine r_iconst (v := 0) rfl dX12_beginAnew_6 ?_
  refine w_putI fX12_373 rfl (rfl) (rfl) dX12_beginAnew_7 (fun J7 hJ7 => ?_)
  refine r_iconst (v := 0) rfl dX12_beginAnew_10 ?_
  refine r_istore_n (lv' := fun z => [(1, .int z), (0, .ref 95)]) dX12_beginAnew_11 rfl (Nat.le_of_ble_eq_true rfl) (fun _ => rfl) (fun x1_11 ex1_11 => ?_)
  refine l_X12_ba1 (I := J7) 5 0 (by omega) J7 x1_11 ex1_11 (by rw [ptr_0]; exact (upr_id _ _).symm) (fun J1 y1 h1 => ?_)
  refine r_iconst (v := 0) rfl dX12_beginAnew_30 ?_
  refine r_istore_n (lv' := fun z => [(1, .int z), (0, .ref 95)]) dX12_beginAnew_31 rfl (Nat.le_of_ble_eq_true rfl) (fun _ => rfl) (fun x1_31 ex1_31 => ?_)
  refine l_X12_ba2 (I := J1) 4 0 (by omega) J1 x1_31 ex1_31 (by rw [ptr_0]; exact (upr_id _ _).symm) (fun J3 y3 h3 => ?_)
  refine r_aload_n (j := 1) rfl rfl dX12_beginAnew_50 ?_
  refine r_iconst (v := 0) rfl dX12_beginAnew_51 ?_
  refine w_putI fX12_376 rfl (rfl) (rfl) dX12_beginAnew_52 (fun J52 hJ52 => ?_)
  refine r_aload_n (j := 1) rfl rfl dX12_beginAnew_55 ?_
  refine r_iconst (v := 0) rfl dX12_beginAnew_56 ?_
  refine w_putI fX12_379 rfl (rfl) (rfl) dX12_beginAnew_57 (fun J57 hJ57 => ?_)
  refine r_aload_n (j := 1) rfl rfl dX12_beginAnew_60 ?_
  refine r_iconst (v := 0) rfl dX12_beginAnew_61 ?_
  refine w_putI fX12_382 rfl (rfl) (rfl) dX12_beginAnew_62 (fun J62 hJ62 => ?_)
  refine r_aload_n (j := 1) rfl rfl dX12_beginAnew_65 ?_
  refine r_iconst (v := 0) rfl dX12_beginAnew_66 ?_
  refine w_putI fX12_385 rfl (rfl) (rfl) dX12_beginAnew_67 (fun J67 hJ67 => ?_)
  refine r_iconst (v := 0) rfl dX12_beginAnew_70 ?_
  refine r_istore_n (lv' := fun z => [(1, .int z), (0, .ref 95)]) dX12_beginAnew_71 rfl (Nat.le_of_ble_eq_true rfl) (fun _ => rfl) (fun x1_71 ex1_71 => ?_)
  refine l_X12_ba3 (I := J67) 2 0 (by omega) J67 x1_71 ex1_71 (by rw [ptr_0]; exact (upr_id _ _).symm) (fun J5 y5 h5 => ?_)
  refine r_aload_n (j := 1) rfl rfl dX12_beginAnew_90 ?_
  refine r_iconst (v := 0) rfl dX12_beginAnew_91 ?_
  refine w_putI fX12_388 rfl (rfl) (rfl) dX12_beginAnew_92 (fun J92 hJ92 => ?_)
  refine r_aload_n (j := 1) rfl rfl dX12_beginAnew_95 ?_
  refine r_iconst (v := 0) rfl dX12_beginAnew_96 ?_
  refine w_putI fX12_391 rfl (rfl) (rfl) dX12_beginAnew_97 (fun J97 hJ97 => ?_)
  refine w_vretG rfl (Nat.le_of_ble_eq_true rfl) (Nat.le_of_ble_eq_true rfl) dX12_beginAnew_100 ?_
  have e : ∀ a, a ≠ 95 → J97 a = J5 a := fun a ha => by rw [hJ97, hJ92, up_n _ _ _ ha, up_n _ _ _ ha]
  have e5 : ∀ a, a ≠ 129 → J5 a = J67 a := fun a ha => by rw [h5, upr_n _ _ ha]
  have e67 : ∀ a, a ≠ 95 → J67 a = J3 a := fun a ha => by rw [hJ67, hJ62, hJ57, hJ52, up_n _ _ _ ha, up_n _ _ _ ha, up_n _ _ _ ha, up_n _ _ _ ha]
  have e3 : ∀ a, a ≠ 126 → J3 a = J1 a := fun a ha => by rw [h3, upr_n _ _ ha]
  have e1 : ∀ a, a ≠ 125 → J1 a = J7 a := fun a ha => by rw [h1, upr_n _ _ ha]
  have e7 : ∀ a, a ≠ 95 → J7 a = I a := fun a ha => by rw [hJ7, hJ2, up_n _ _ _ ha, up_n _ _ _ ha]
  have f : J97 95 = va_up (va_up (va_up (va_up (va_up (va_up (va_up (va_up (I 95) 48 0) 49 0) 69 0) 70 0) 71 0) 72 0) 92 0) 91 0 := by
    rw [hJ97, hJ92, up_s, up_s, e5 95 (by decide), hJ67, hJ62, hJ57, hJ52, up_s, up_s, up_s, up_s, e3 95 (by decide), e1 95 (by decide), hJ7, hJ2, up_s, up_s]
  refine ⟨rfl, rfl, ?_, ?_, ?_, ?_, ?_, ?_⟩
  · intro k hk
    rw [f]
    rcases (show k = 48 ∨ k = 49 ∨ k = 69 ∨ k = 70 ∨ k = 71 ∨ k = 72 ∨ k = 92 ∨ k = 91 by omega) with rfl | rfl | rfl | rfl | rfl | rfl | rfl | rfl <;> rfl
  · intro k hk
    rw [f, vu_n _ _ (by omega), vu_n _ _ (by omega), vu_n _ _ (by omega), vu_n _ _ (by omega), vu_n _ _ (by omega), vu_n _ _ (by omega), vu_n _ _ (by omega), vu_n _ _ (by omega)]
  · intro j hj
    rw [e 125 (by decide), e5 125 (by decide), e67 125 (by decide), e3 125 (by decide), h1, upr_s, ptr_t hj]; rfl
  · intro j hj
    rw [e 126 (by decide), e5 126 (by decide), e67 126 (by decide), h3, upr_s, ptr_t hj]; rfl
  · intro j hj
    rw [e 129 (by decide), h5, upr_s, ptr_t hj]; rfl
  · intro a a1 a2 a3 a4
    rw [e a a1, e5 a a4, e67 a a1, e3 a a3, e1 a a2, e7 a a1]
end
