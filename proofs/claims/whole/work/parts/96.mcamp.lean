/-! the model reads a CAMP: its beginning -/
section
variable {sc : Sc} {I C : Is} {L M : Ls} {tg : Nat}
/-- a row whose first places were written -/
def ptr (g f : Nat → Int32) (n : Nat) : Nat → Int32 := fun j => if j < n then g j else f j
theorem ptr_0 (g f : Nat → Int32) : ptr g f 0 = f := by funext j; exact if_neg (by omega)
theorem ptr_s (g f : Nat → Int32) (n : Nat) : va_up (ptr g f n) n (g n) = ptr g f (n + 1) := by
  funext j
  unfold ptr va_up
  by_cases z : j = n
  · rw [if_pos z, if_pos (by omega), z]
  · rw [if_neg z]
    show (if j < n then g j else f j) = if j < n + 1 then g j else f j
    by_cases y : j < n
    · rw [if_pos y, if_pos (by omega)]
    · rw [if_neg y, if_neg (by omega)]
theorem ptr_t {g f : Nat → Int32} {n j : Nat} (h : j < n) : ptr g f n j = g j := if_pos h
def rn0 : Nat → Int32 := fun j => if j / 5 = j % 5 then 0 else 5
theorem d5_i : ∀ i, i < 25 → (nI i / 5 = nI i - nI i / 5 * 5 ↔ i / 5 = i % 5) := by decide +kernel
theorem l_X12_rc1 {post : Po} : ∀ n i, i + n = 9 → ∀ (J : Is) (x : Int32), x = nI i → J = upr I 98 (ptr usF (I 98) i) → (∀ (J : Is) (x : Int32), J = upr I 98 (ptr usF (I 98) 9) → RR sc mX12_readCamp 7 0 0 post 0 0 65 [(1, .int x), (0, .ref 95)] [] (XW J L tg)) → RR sc mX12_readCamp 7 0 0 post 0 0 43 [(1, .int x), (0, .ref 95)] [] (XW J L tg) := by
  intro n
  induction n with
  | zero =>
    intro i hi J x ex hJ kk
    obtain rfl : i = 9 := by omega
    subst ex
    refine r_iload_n (j := 0) rfl rfl dX12_readCamp_43 ?_
    refine r_bipush (v := 9) rfl dX12_readCamp_44 ?_
    refine r_icmp_ge (tgt := 65) dX12_readCamp_46 (by decide) (fun c46 => ?_) (fun c46 => ?_)
    · exact kk _ _ hJ
    · exact absurd (by decide : (9 : Int32) ≤ nI 9) c46
  | succ n ih =>
    intro i hi J x ex hJ kk
    have xi : x.toInt = i := by rw [ex, nI_toInt (by omega)]
    have xc : x.toNatClampNeg = i := by rw [ex, nI_clamp (by omega)]
    refine r_iload_n (j := 0) rfl rfl dX12_readCamp_43 ?_
    refine r_bipush (v := 9) rfl dX12_readCamp_44 ?_
    refine r_icmp_ge (tgt := 65) dX12_readCamp_46 (by decide) (fun c46 => ?_) (fun c46 => ?_)
    · exfalso; ((try simp only [bI_0, bI_1, lc_lt, lc_gt, lc_le, lc_ge, Classical.not_not] at *); (try simp only [i_lt, i_le, i_eq, l_lt, l_le, l_eq, Int32.toInt_toInt64, Int32.reduceToInt, Int64.reduceToInt] at *); omega)
    · refine r_aload_n (j := 1) rfl rfl dX12_readCamp_49 ?_
      refine w_getR (b := 98) fX12_171 rfl rfl dX12_readCamp_50 ?_
      refine r_iload_n (j := 0) rfl rfl dX12_readCamp_53 ?_
      refine r_iload_n (j := 0) rfl rfl dX12_readCamp_54 ?_
      refine w_cS1p (k_X12_usual ex (by omega)) (Nat.le_of_ble_eq_true rfl) lX12_177 mtX12_usual (Nat.le_of_ble_eq_true rfl) (Nat.le_of_ble_eq_true rfl) (Nat.le_of_ble_eq_true rfl) dX12_readCamp_55 ?_
      refine w_iast rfl (up_in xi (show _ < 9 by omega)) dX12_readCamp_58 (fun J58 hJ58 => ?_)
      refine r_iinc (j := 0) (lv' := fun z => [(1, .int z), (0, .ref 95)]) dX12_readCamp_59 rfl (Nat.le_of_ble_eq_true rfl) (fun _ => rfl) (fun x1_59 ex1_59 => ?_)
      refine r_goto (tgt := 43) dX12_readCamp_62 (by decide) ?_
      refine ih (i + 1) (by omega) _ _ (by rw [ex1_59, ex]; exact nI_1 _) ?_ kk
      rw [hJ58, xc, hJ, upr_up, ptr_s]
theorem l_X12_rc2 {post : Po} : ∀ n i, i + n = 25 → ∀ (J : Is) (x : Int32), x = nI i → J = upr I 115 (ptr rn0 (I 115) i) → (∀ (J : Is) (x : Int32), J = upr I 115 (ptr rn0 (I 115) 25) → RR sc mX12_readCamp 7 0 0 post 0 0 99 [(1, .int x), (0, .ref 95)] [] (XW J L tg)) → RR sc mX12_readCamp 7 0 0 post 0 0 67 [(1, .int x), (0, .ref 95)] [] (XW J L tg) := by
  intro n
  induction n with
  | zero =>
    intro i hi J x ex hJ kk
    obtain rfl : i = 25 := by omega
    subst ex
    refine r_iload_n (j := 0) rfl rfl dX12_readCamp_67 ?_
    refine r_bipush (v := 25) rfl dX12_readCamp_68 ?_
    refine r_icmp_ge (tgt := 99) dX12_readCamp_70 (by decide) (fun c70 => ?_) (fun c70 => ?_)
    · exact kk _ _ hJ
    · exact absurd (by decide : (25 : Int32) ≤ nI 25) c70
  | succ n ih =>
    intro i hi J x ex hJ kk
    have xi : x.toInt = i := by rw [ex, nI_toInt (by omega)]
    have xc : x.toNatClampNeg = i := by rw [ex, nI_clamp (by omega)]
    have d5 := d5_i i (by omega)
    rw [← ex] at d5
    refine r_iload_n (j := 0) rfl rfl dX12_readCamp_67 ?_
    refine r_bipush (v := 25) rfl dX12_readCamp_68 ?_
    refine r_icmp_ge (tgt := 99) dX12_readCamp_70 (by decide) (fun c70 => ?_) (fun c70 => ?_)
    · exfalso; ((try simp only [bI_0, bI_1, lc_lt, lc_gt, lc_le, lc_ge, Classical.not_not] at *); (try simp only [i_lt, i_le, i_eq, l_lt, l_le, l_eq, Int32.toInt_toInt64, Int32.reduceToInt, Int64.reduceToInt] at *); omega)
    · refine r_aload_n (j := 1) rfl rfl dX12_readCamp_73 ?_
      refine w_getR (b := 115) fX12_141 rfl rfl dX12_readCamp_74 ?_
      refine r_iload_n (j := 0) rfl rfl dX12_readCamp_77 ?_
      refine r_iload_n (j := 0) rfl rfl dX12_readCamp_78 ?_
      refine r_iconst (v := 5) rfl dX12_readCamp_79 ?_
      refine r_idiv (by first | assumption | decide) dX12_readCamp_80 ?_
      refine r_iload_n (j := 0) rfl rfl dX12_readCamp_81 ?_
      refine r_iconst (v := 5) rfl dX12_readCamp_82 ?_
      refine r_irem (by first | assumption | decide) dX12_readCamp_83 ?_
      refine r_icmp_ne (tgt := 91) dX12_readCamp_84 (by decide) (fun c84 => ?_) (fun c84 => ?_)
      · refine r_iconst (v := 5) rfl dX12_readCamp_91 ?_
        refine w_iast rfl (up_in xi (show _ < 25 by omega)) dX12_readCamp_92 (fun J92 hJ92 => ?_)
        refine r_iinc (j := 0) (lv' := fun z => [(1, .int z), (0, .ref 95)]) dX12_readCamp_93 rfl (Nat.le_of_ble_eq_true rfl) (fun _ => rfl) (fun x1_93 ex1_93 => ?_)
        refine r_goto (tgt := 67) dX12_readCamp_96 (by decide) ?_
        refine ih (i + 1) (by omega) _ _ (by rw [ex1_93, ex]; exact nI_1 _) ?_ kk
        rw [hJ92, xc, hJ, upr_up, show (5 : Int32) = rn0 i from (if_neg (fun z => c84 (d5.mpr z))).symm, ptr_s]
      · refine r_iconst (v := 0) rfl dX12_readCamp_87 ?_
        refine r_goto (tgt := 92) dX12_readCamp_88 (by decide) ?_
        refine w_iast rfl (up_in xi (show _ < 25 by omega)) dX12_readCamp_92 (fun J92 hJ92 => ?_)
        refine r_iinc (j := 0) (lv' := fun z => [(1, .int z), (0, .ref 95)]) dX12_readCamp_93 rfl (Nat.le_of_ble_eq_true rfl) (fun _ => rfl) (fun x1_93 ex1_93 => ?_)
        refine r_goto (tgt := 67) dX12_readCamp_96 (by decide) ?_
        refine ih (i + 1) (by omega) _ _ (by rw [ex1_93, ex]; exact nI_1 _) ?_ kk
        rw [hJ92, xc, hJ, upr_up, show (0 : Int32) = rn0 i from (if_pos (d5.mp c84)).symm, ptr_s]
/-- the component's camp before the first token -/
def c0R (C : Is) : Prop := (∀ h, h < 5 → C 25 h = -1) ∧ (∀ j, j < 25 → C 26 j = -1) ∧ (∀ i, i < 14 → C 19 i = tb0.getD i 0) ∧ (∀ i, i < 14 → C 20 i = 0) ∧ C 18 17 = 0
theorem c0R_0 : c0R (rc0 I) := by
  have e25 : rc0 I 25 = fillr (I 25) 5 (-1) := by simp [rc0, cuI, up_eq, upr_eq]
  have e26 : rc0 I 26 = fillr (I 26) 25 (-1) := by simp [rc0, cuI, up_eq, upr_eq]
  have e19 : rc0 I 19 = (fun j => if j < 14 then tb0.getD j 0 else I 19 j) := by simp [rc0, cuI, up_eq, upr_eq]
  have e20 : rc0 I 20 = fillr (I 20) 14 0 := by simp [rc0, cuI, up_eq, upr_eq]
  unfold c0R
  rw [e25, e26, e19, e20]
  exact ⟨fun h hh => if_pos hh, fun h hh => if_pos hh, fun h hh => if_pos hh, fun h hh => if_pos hh, by simp [rc0, cuI, up_eq, upr_eq, vu_eq]⟩
theorem us_b : ∀ i, i < 9 → (ol3.getD (18 + 3 * i) 0).toInt ≤ (tb0.getD (i + 3) 0).toInt ∧ (tb0.getD (i + 3) 0).toInt ≤ (ol4.getD (18 + 3 * i) 0).toInt := by decide +kernel
theorem dA_0 {J : Is} (h : c0R C) (e16 : J 95 16 = 0) (e17 : J 95 17 = 0) (e18 : J 95 18 = 0) (e20 : J 95 20 = 8) (e21 : J 95 21 = 4) (e22 : J 95 22 = 0) (e46 : J 95 46 = 0) (e19 : J 95 19 = 0) (h98 : ∀ i, i < 9 → J 98 i = usF i) (h115 : ∀ j, j < 25 → J 115 j = rn0 j) : dA C M J L 0 0 0 := by
  obtain ⟨h1, h2, h3, h4, h5⟩ := h
  refine ⟨⟨e16, fun h hh => by omega, fun h _ hh => h1 h hh⟩, ⟨e17, fun h hh => by omega⟩, ⟨e18, fun h hh => by omega⟩, ⟨fun i hi => ?_, ?_, ?_, ?_, ?_, ?_, ?_⟩, ⟨0, by decide, e22, fun i hi => ?_⟩, ⟨0, by decide, e46, fun j hj => ?_⟩, by rw [e19, h5]⟩
  · rw [h98 i hi, h3 _ (by omega)]; exact ⟨rfl, us_b i hi⟩
  · rw [e20, h3 _ (by omega)]; rfl
  · rw [e21, h3 _ (by omega)]; rfl
  · rw [h3 _ (by omega)]; decide
  · rw [h3 _ (by omega)]; decide
  · rw [h3 _ (by omega)]; decide
  · rw [h3 _ (by omega)]; decide
  · rw [Nat.zero_testBit, h4 _ (by split <;> omega)]; simp
  · rw [Nat.zero_testBit, h2 j hj, h115 j hj]
    refine ⟨by simp, ?_, by decide, by decide⟩
    unfold rn0
    rw [if_pos rfl]
theorem k_X12_readCamp {N : Nat} (h0 : c0R C) (hM : Mq N C 0 0 0 0 0 0) (ht : C 2 = mtp I) (hS : mSc I N 0) (hK : kwT M) : Con sc mX12_readCamp 7 0 0 [.ref 95] (XW I L tg) (gI (prF tg N 901 C M I L)) := by
  refine Con_of (by decide) (Nat.le_of_ble_eq_true rfl) ?_
  have h9 : N ≤ 900 := hM.2.1
  refine r_aload_n (j := 0) rfl rfl dX12_readCamp_0 ?_
  refine r_iconst (v := 0) rfl dX12_readCamp_1 ?_
  refine w_putI fX12_95 rfl (rfl) (rfl) dX12_readCamp_2 (fun J2 hJ2 => ?_)
  refine r_aload_n (j := 0) rfl rfl dX12_readCamp_5 ?_
  refine r_iconst (v := 0) rfl dX12_readCamp_6 ?_
  refine w_putI fX12_123 rfl (rfl) (rfl) dX12_readCamp_7 (fun J7 hJ7 => ?_)
  refine r_aload_n (j := 0) rfl rfl dX12_readCamp_10 ?_
  refine r_iconst (v := 0) rfl dX12_readCamp_11 ?_
  refine w_putI fX12_144 rfl (rfl) (rfl) dX12_readCamp_12 (fun J12 hJ12 => ?_)
  refine r_aload_n (j := 0) rfl rfl dX12_readCamp_15 ?_
  refine r_bipush (v := 8) rfl dX12_readCamp_16 ?_
  refine w_putI fX12_159 rfl (rfl) (rfl) dX12_readCamp_18 (fun J18 hJ18 => ?_)
  refine r_aload_n (j := 0) rfl rfl dX12_readCamp_21 ?_
  refine r_iconst (v := 4) rfl dX12_readCamp_22 ?_
  refine w_putI fX12_162 rfl (rfl) (rfl) dX12_readCamp_23 (fun J23 hJ23 => ?_)
  refine r_aload_n (j := 0) rfl rfl dX12_readCamp_26 ?_
  refine r_iconst (v := 0) rfl dX12_readCamp_27 ?_
  refine w_putI fX12_156 rfl (rfl) (rfl) dX12_readCamp_28 (fun J28 hJ28 => ?_)
  refine r_aload_n (j := 0) rfl rfl dX12_readCamp_31 ?_
  refine r_iconst (v := 0) rfl dX12_readCamp_32 ?_
  refine w_putI fX12_138 rfl (rfl) (rfl) dX12_readCamp_33 (fun J33 hJ33 => ?_)
  refine r_aload_n (j := 0) rfl rfl dX12_readCamp_36 ?_
  refine r_iconst (v := 0) rfl dX12_readCamp_37 ?_
  refine w_putI fX12_174 rfl (rfl) (rfl) dX12_readCamp_38 (fun J38 hJ38 => ?_)
  refine r_iconst (v := 0) rfl dX12_readCamp_41 ?_
  refine r_istore_n (lv' := fun z => [(1, .int z), (0, .ref 95)]) dX12_readCamp_42 rfl (Nat.le_of_ble_eq_true rfl) (fun _ => rfl) (fun x1_42 ex1_42 => ?_)
  refine l_X12_rc1 (I := J38) 9 0 (by omega) J38 x1_42 ex1_42 (by rw [ptr_0]; exact (upr_id _ _).symm) (fun J1 y1 h1 => ?_)
  have j38 : ∀ a, a ≠ 95 → J38 a = I a := fun a ha => by rw [hJ38, hJ33, hJ28, hJ23, hJ18, hJ12, hJ7, hJ2]; simp [up_eq, ha]
  have f38 : ∀ k, ¬ ((16 ≤ k ∧ k ≤ 22) ∨ k = 46) → J38 95 k = I 95 k := fun k hk => by
    rw [hJ38, hJ33, hJ28, hJ23, hJ18, hJ12, hJ7, hJ2]
    simp only [up_s]
    rw [vu_n _ _ (by omega), vu_n _ _ (by omega), vu_n _ _ (by omega), vu_n _ _ (by omega), vu_n _ _ (by omega), vu_n _ _ (by omega), vu_n _ _ (by omega), vu_n _ _ (by omega)]
  have w38 : J38 95 16 = 0 ∧ J38 95 17 = 0 ∧ J38 95 18 = 0 ∧ J38 95 20 = 8 ∧ J38 95 21 = 4 ∧ J38 95 22 = 0 ∧ J38 95 46 = 0 ∧ J38 95 19 = 0 := by
    rw [hJ38, hJ33, hJ28, hJ23, hJ18, hJ12, hJ7, hJ2]
    simp [up_eq, vu_eq]
  clear hJ38 hJ33 hJ28 hJ23 hJ18 hJ12 hJ7 hJ2
  refine r_iconst (v := 0) rfl dX12_readCamp_65 ?_
  refine r_istore_n (lv' := fun z => [(1, .int z), (0, .ref 95)]) dX12_readCamp_66 rfl (Nat.le_of_ble_eq_true rfl) (fun _ => rfl) (fun x1_66 ex1_66 => ?_)
  refine l_X12_rc2 (I := J1) 25 0 (by omega) J1 x1_66 ex1_66 (by rw [ptr_0]; exact (upr_id _ _).symm) (fun J2 y2 h2 => ?_)
  refine r_lvs [(0, .ref 95)] [1] rfl ?_
  have a2 : ∀ a, a ≠ 95 → a ≠ 98 → a ≠ 115 → J2 a = I a := fun a z1 z2 z3 => by rw [h2, upr_n _ _ z3, h1, upr_n _ _ z2, j38 a z1]
  have e95 : J2 95 = J38 95 := by rw [h2, upr_n _ _ (by decide), h1, upr_n _ _ (by decide)]
  have e98 : ∀ i, i < 9 → J2 98 i = usF i := fun i hi => by rw [h2, upr_n _ _ (by decide), h1, upr_s, ptr_t hi]
  have e115 : ∀ j, j < 25 → J2 115 j = rn0 j := fun j hj => by rw [h2, upr_s, ptr_t hj]
  have r2 : mfr I J2 := ⟨fun a ha => a2 a (by omega) (by omega) (by omega), fun k hk => by rw [e95, f38 k (by omega)]⟩
  have S2 : mSc J2 N 0 := mSc_up hS (a2 96 (by decide) (by decide) (by decide)) (fun k hk => by rw [e95, f38 k (by omega)])
  have t2 : C 2 = mtp J2 := by rw [ht]; funext j; unfold mtp; rw [a2 96 (by decide) (by decide) (by decide)]
  rw [← e95] at w38
  obtain ⟨w1, w2, w3, w4, w5, w6, w7, w8⟩ := w38
  refine l_X12_readCamp 901 901 (Nat.le_refl _) C M J2 L 0 0 0 0 0 hM t2 S2 (by omega) hK (dA_0 h0 w1 w2 w3 w4 w5 w6 w7 w8 e98 e115) (fun v J K' tq hp => ?_)
  obtain ⟨p1, p2, p3, p4⟩ := hp
  exact ⟨p1, mfr_t r2 p2, p3, p4⟩
end
