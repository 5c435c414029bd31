/-! the model's reader: is it that word -/
section
variable {sc : Sc} {I : Is} {L : Ls} {tg : Nat}
/-- the letters of a text -/
def chL (j i : Nat) : Int32 := ((((oB.getD j []).getD i 0 &&& 255).toUInt32 % 65536).toInt32)
abbrev isP (I : Is) (q j i : Nat) : Prop := ∀ k, k < i → I 96 (q + k) = chL j k
theorem isP_s {q j i : Nat} : isP I q j (i + 1) ↔ isP I q j i ∧ I 96 (q + i) = chL j i := by
  constructor
  · intro h; exact ⟨fun k hk => h k (by omega), h i (by omega)⟩
  · rintro ⟨h1, h2⟩ k hk
    by_cases z : k = i
    · rw [z]; exact h2
    · exact h1 k (by omega)
/-- the token is a text -/
abbrev isW (I : Is) (q e j : Nat) : Prop := (I 95 5 = 1 ∧ e - q = oL.getD j 0) ∧ isP I q j (oL.getD j 0)
theorem l_X12_is {N q e j : Nat} (hj : j < 16) (hT : mTk I N q e) : ∀ n i x (b : Int32), i + n = oL.getD j 0 → x = nI i → b = bI ((I 95 5 = 1 ∧ e - q = oL.getD j 0) ∧ isP I q j i) → RR sc mX12_is 4 0 0 (rI (bI (isW I q e j)) (XW I L tg)) 0 0 32 [(3, .int x), (2, .int b), (0, .ref 95), (1, .ref (1100 + j))] [] (XW I L tg) := by
  obtain ⟨h2, h9, h3, h4, hqe, heN⟩ := hT
  have hl : oL.getD j 0 ≤ 120 := by
    have : ∀ j, j < 16 → oL.getD j 0 ≤ 120 := by decide
    exact this j hj
  intro n
  induction n with
  | zero =>
    intro i x b hi hx hb
    have xi : x.toInt = i := by rw [hx, nI_toInt (by omega)]
    have li : (nI (oL.getD j 0)).toInt = ((oL.getD j 0 : Nat) : Int) := nI_toInt (by omega)
    refine r_iload_n (j := 0) rfl rfl dX12_is_32 ?_
    refine r_aload_n (j := 3) rfl rfl dX12_is_33 ?_
    refine w_cT0p (k_J0_length_8abf5 hj) (Nat.le_of_ble_eq_true rfl) lX12_40 miJ0_length_8abf5 msJ0_length_8abf5 hj rfl lmX12_40 (Nat.le_of_ble_eq_true rfl) (Nat.le_of_ble_eq_true rfl) (Nat.le_of_ble_eq_true rfl) dX12_is_34 ?_
    refine r_icmp_ge (tgt := 75) dX12_is_37 (by decide) (fun c37 => ?_) (fun c37 => ?_)
    · refine r_iload_n (j := 1) rfl rfl dX12_is_75 ?_
      refine w_iret rfl (by rw [hb]; exact bI_n _) (Nat.le_of_ble_eq_true rfl) (Nat.le_of_ble_eq_true rfl) dX12_is_76 ?_
      exact ⟨by rw [hb, show i = oL.getD j 0 by omega], rfl, rfl, rfl⟩
    · exfalso; rw [i_le, li, xi] at c37; omega
  | succ n ih =>
    intro i x b hi hx hb
    have xi : x.toInt = i := by rw [hx, nI_toInt (by omega)]
    have xc : x.toNatClampNeg = i := by rw [hx, nI_clamp (by omega)]
    have li : (nI (oL.getD j 0)).toInt = ((oL.getD j 0 : Nat) : Int) := nI_toInt (by omega)
    have ex : I 95 3 + x = nI (q + i) := by rw [h3, hx, nI_add]
    refine r_iload_n (j := 0) rfl rfl dX12_is_32 ?_
    refine r_aload_n (j := 3) rfl rfl dX12_is_33 ?_
    refine w_cT0p (k_J0_length_8abf5 hj) (Nat.le_of_ble_eq_true rfl) lX12_40 miJ0_length_8abf5 msJ0_length_8abf5 hj rfl lmX12_40 (Nat.le_of_ble_eq_true rfl) (Nat.le_of_ble_eq_true rfl) (Nat.le_of_ble_eq_true rfl) dX12_is_34 ?_
    refine r_icmp_ge (tgt := 75) dX12_is_37 (by decide) (fun c37 => ?_) (fun c37 => ?_)
    · exfalso; rw [i_le, li, xi] at c37; omega
    · refine r_iload_n (j := 1) rfl rfl dX12_is_40 ?_
      refine r_if_eq (tgt := 75) dX12_is_41 (by decide) (fun c41 => ?_) (fun c41 => ?_)
      · refine r_iload_n (j := 1) rfl rfl dX12_is_75 ?_
        refine w_iret rfl (by rw [hb]; exact bI_n _) (Nat.le_of_ble_eq_true rfl) (Nat.le_of_ble_eq_true rfl) dX12_is_76 ?_
        refine ⟨?_, rfl, rfl, rfl⟩
        rw [c41] at hb
        have hn := bI_0.mp hb.symm
        rw [c41]
        exact (bI_f (fun z => hn ⟨z.1, fun k hk => z.2 k (by omega)⟩)).symm
      · refine r_aload_n (j := 2) rfl rfl dX12_is_44 ?_
        refine w_getR (b := 96) fX12_16 rfl rfl dX12_is_45 ?_
        refine r_aload_n (j := 2) rfl rfl dX12_is_48 ?_
        refine w_getI fX12_7 rfl dX12_is_49 ?_
        refine r_iload_n (j := 0) rfl rfl dX12_is_52 ?_
        refine r_iadd dX12_is_53 ?_
        refine w_bald rfl (by rw [ex, vp_in_iff, nI_toInt (by omega)]; rw [hb] at c41; have := (bI_1.mp c41).1.2; omega) dX12_is_54 ?_
        refine r_aload_n (j := 3) rfl rfl dX12_is_55 ?_
        refine r_iload_n (j := 0) rfl rfl dX12_is_56 ?_
        refine w_cT1p (k_J0_charAt_5068e hj (by rw [i_le, xi]; exact Int.natCast_nonneg _) (by rw [xi]; omega)) (Nat.le_of_ble_eq_true rfl) lX12_45 miJ0_charAt_5068e msJ0_charAt_5068e hj rfl lmX12_45 (Nat.le_of_ble_eq_true rfl) (Nat.le_of_ble_eq_true rfl) (Nat.le_of_ble_eq_true rfl) dX12_is_57 ?_
        rw [ex, xc, nI_clamp (by omega)]
        refine r_icmp_ne (tgt := 67) dX12_is_60 (by decide) (fun c60 => ?_) (fun c60 => ?_)
        · refine r_iconst (v := 0) rfl dX12_is_67 ?_
          refine r_istore_n (lv' := fun z => [(2, .int z), (3, .int x), (0, .ref 95), (1, .ref (1100+j))]) dX12_is_68 rfl (Nat.le_of_ble_eq_true rfl) (fun _ => rfl) (fun x2_68 ex2_68 => ?_)
          refine r_iinc (j := 1) (lv' := fun z => [(3, .int z), (2, .int x2_68), (0, .ref 95), (1, .ref (1100+j))]) dX12_is_69 rfl (Nat.le_of_ble_eq_true rfl) (fun _ => rfl) (fun x3_69 ex3_69 => ?_)
          refine r_goto (tgt := 32) dX12_is_72 (by decide) ?_
          refine ih (i + 1) _ _ (by omega) (by rw [ex3_69, hx]; exact nI_1 _) ?_
          rw [ex2_68]
          exact (bI_f (fun z => c60 (isP_s.mp z.2).2)).symm
        · refine r_iconst (v := 1) rfl dX12_is_63 ?_
          refine r_goto (tgt := 68) dX12_is_64 (by decide) ?_
          refine r_istore_n (lv' := fun z => [(2, .int z), (3, .int x), (0, .ref 95), (1, .ref (1100+j))]) dX12_is_68 rfl (Nat.le_of_ble_eq_true rfl) (fun _ => rfl) (fun x2_68 ex2_68 => ?_)
          refine r_iinc (j := 1) (lv' := fun z => [(3, .int z), (2, .int x2_68), (0, .ref 95), (1, .ref (1100+j))]) dX12_is_69 rfl (Nat.le_of_ble_eq_true rfl) (fun _ => rfl) (fun x3_69 ex3_69 => ?_)
          refine r_goto (tgt := 32) dX12_is_72 (by decide) ?_
          refine ih (i + 1) _ _ (by omega) (by rw [ex3_69, hx]; exact nI_1 _) ?_
          rw [ex2_68]
          rw [hb] at c41
          exact (bI_t ⟨(bI_1.mp c41).1, isP_s.mpr ⟨(bI_1.mp c41).2, c60⟩⟩).symm
theorem k_X12_is {N q e j : Nat} (hj : j < 16) (hT : mTk I N q e) : Con sc mX12_is 4 0 0 [.ref 95, .ref (1100 + j)] (XW I L tg) (rI (bI (isW I q e j)) (XW I L tg)) := by
  refine Con_of (by decide) (Nat.le_of_ble_eq_true rfl) ?_
  obtain ⟨h2, h9, h3, h4, hqe, heN⟩ := id hT
  have hl : oL.getD j 0 ≤ 120 := by
    have : ∀ j, j < 16 → oL.getD j 0 ≤ 120 := by decide
    exact this j hj
  have es : I 95 4 - I 95 3 = nI (e - q) := by rw [h4, h3, pk_sub hqe]
  have eq : nI (e - q) = nI (oL.getD j 0) ↔ e - q = oL.getD j 0 := nI_ij (by omega) (by omega)
  have p0 : isP I q j 0 := fun k hk => by omega
  refine r_aload_n (j := 0) rfl rfl dX12_is_0 ?_
  refine w_getI fX12_27 rfl dX12_is_1 ?_
  refine r_iconst (v := 1) rfl dX12_is_4 ?_
  refine r_icmp_ne (tgt := 28) dX12_is_5 (by decide) (fun c5 => ?_) (fun c5 => ?_)
  · refine r_iconst (v := 0) rfl dX12_is_28 ?_
    refine r_istore_n (lv' := fun z => [(2, .int z), (0, .ref 95), (1, .ref (1100+j))]) dX12_is_29 rfl (Nat.le_of_ble_eq_true rfl) (fun _ => rfl) (fun x2_29 ex2_29 => ?_)
    refine r_iconst (v := 0) rfl dX12_is_30 ?_
    refine r_istore_n (lv' := fun z => [(3, .int z), (2, .int x2_29), (0, .ref 95), (1, .ref (1100+j))]) dX12_is_31 rfl (Nat.le_of_ble_eq_true rfl) (fun _ => rfl) (fun x3_31 ex3_31 => ?_)
    exact l_X12_is hj hT _ 0 _ _ (Nat.zero_add _) ex3_31 (by rw [ex2_29]; exact (bI_f (fun z => c5 z.1.1)).symm)
  · refine r_aload_n (j := 0) rfl rfl dX12_is_8 ?_
    refine w_getI fX12_20 rfl dX12_is_9 ?_
    refine r_aload_n (j := 0) rfl rfl dX12_is_12 ?_
    refine w_getI fX12_7 rfl dX12_is_13 ?_
    refine r_isub dX12_is_16 ?_
    refine r_aload_n (j := 1) rfl rfl dX12_is_17 ?_
    refine w_cT0p (k_J0_length_8abf5 hj) (Nat.le_of_ble_eq_true rfl) lX12_40 miJ0_length_8abf5 msJ0_length_8abf5 hj rfl lmX12_40 (Nat.le_of_ble_eq_true rfl) (Nat.le_of_ble_eq_true rfl) (Nat.le_of_ble_eq_true rfl) dX12_is_18 ?_
    rw [es]
    refine r_icmp_ne (tgt := 28) dX12_is_21 (by decide) (fun c21 => ?_) (fun c21 => ?_)
    · refine r_iconst (v := 0) rfl dX12_is_28 ?_
      refine r_istore_n (lv' := fun z => [(2, .int z), (0, .ref 95), (1, .ref (1100+j))]) dX12_is_29 rfl (Nat.le_of_ble_eq_true rfl) (fun _ => rfl) (fun x2_29 ex2_29 => ?_)
      refine r_iconst (v := 0) rfl dX12_is_30 ?_
      refine r_istore_n (lv' := fun z => [(3, .int z), (2, .int x2_29), (0, .ref 95), (1, .ref (1100+j))]) dX12_is_31 rfl (Nat.le_of_ble_eq_true rfl) (fun _ => rfl) (fun x3_31 ex3_31 => ?_)
      exact l_X12_is hj hT _ 0 _ _ (Nat.zero_add _) ex3_31 (by rw [ex2_29]; exact (bI_f (fun z => c21 (eq.mpr z.1.2))).symm)
    · refine r_iconst (v := 1) rfl dX12_is_24 ?_
      refine r_goto (tgt := 29) dX12_is_25 (by decide) ?_
      refine r_istore_n (lv' := fun z => [(2, .int z), (0, .ref 95), (1, .ref (1100+j))]) dX12_is_29 rfl (Nat.le_of_ble_eq_true rfl) (fun _ => rfl) (fun x2_29 ex2_29 => ?_)
      refine r_iconst (v := 0) rfl dX12_is_30 ?_
      refine r_istore_n (lv' := fun z => [(3, .int z), (2, .int x2_29), (0, .ref 95), (1, .ref (1100+j))]) dX12_is_31 rfl (Nat.le_of_ble_eq_true rfl) (fun _ => rfl) (fun x3_31 ex3_31 => ?_)
      exact l_X12_is hj hT _ 0 _ _ (Nat.zero_add _) ex3_31 (by rw [ex2_29]; exact (bI_t ⟨⟨c5, eq.mp c21⟩, p0⟩).symm)
end
