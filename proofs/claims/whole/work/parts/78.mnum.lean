/-! the model's reader: faults, numbers -/
section
variable {sc : Sc} {I : Is} {L : Ls} {tg : Nat}
def bdI (I : Is) (k : Int32) : Is := up (up I 95 8 k) 95 9 (I 95 3)
theorem k_X12_bad {k : Int32} : Con sc mX12_bad 0 0 0 [.ref 95, .int k] (XW I L tg) (rI 0 (XW (bdI I k) L tg)) := by
  refine Con_of (by decide) (Nat.le_of_ble_eq_true rfl) ?_
  refine r_aload_n (j := 0) rfl rfl dX12_bad_0 ?_
  refine r_iload_n (j := 1) rfl rfl dX12_bad_1 ?_
  refine w_putI fX12_3 rfl (rfl) (rfl) dX12_bad_2 (fun J2 hJ2 => ?_)
  refine r_aload_n (j := 0) rfl rfl dX12_bad_5 ?_
  refine r_aload_n (j := 0) rfl rfl dX12_bad_6 ?_
  refine w_getI fX12_7 rfl dX12_bad_7 ?_
  refine w_putI fX12_10 rfl (rfl) (rfl) dX12_bad_10 (fun J10 hJ10 => ?_)
  refine r_iconst (v := 0) rfl dX12_bad_13 ?_
  refine w_iret rfl (rfl) (Nat.le_of_ble_eq_true rfl) (Nat.le_of_ble_eq_true rfl) dX12_bad_14 ?_
  exact ⟨rfl, by unfold bdI; rw [hJ10, hJ2]; simp [up_eq, vu_eq], rfl, rfl⟩
def usF (k : Nat) : Int32 := tb0.getD (k + 3) 0
theorem k_X12_usual {k : Nat} {x : Int32} (hx : x = nI k) (hk : k < 9) : Con sc mX12_usual 0 0 0 [.int x] (XW I L tg) (rI (usF k) (XW I L tg)) := by
  refine Con_of (by decide) (Nat.le_of_ble_eq_true rfl) ?_
  have xi : x.toInt = k := by rw [hx, nI_toInt (by omega)]
  refine r_iload_n (j := 0) rfl rfl dX12_usual_0 ?_
  refine w_tab (tgtD := 72) dX12_usual_1 (by decide) (fun c1 => ?_) (fun i c1 l1 => ?_)
  · refine r_iconst (v := 0) rfl dX12_usual_72 ?_
    refine w_iret rfl (rfl) (Nat.le_of_ble_eq_true rfl) (Nat.le_of_ble_eq_true rfl) dX12_usual_73 ?_
    obtain rfl : k = 8 := (by omega); exact ⟨rfl, rfl, rfl, rfl⟩
  · rcases (show i = 0 ∨ i = 1 ∨ i = 2 ∨ i = 3 ∨ i = 4 ∨ i = 5 ∨ i = 6 ∨ i = 7 by omega) with rfl | rfl | rfl | rfl | rfl | rfl | rfl | rfl
    · refine ⟨47, 48, rfl, by decide, ?_⟩
      refine r_sipush (v := 200) rfl dX12_usual_48 ?_
      refine w_iret rfl (rfl) (Nat.le_of_ble_eq_true rfl) (Nat.le_of_ble_eq_true rfl) dX12_usual_51 ?_
      obtain rfl : k = 0 := (by omega); exact ⟨rfl, rfl, rfl, rfl⟩
    · refine ⟨51, 52, rfl, by decide, ?_⟩
      refine r_bipush (v := 100) rfl dX12_usual_52 ?_
      refine w_iret rfl (rfl) (Nat.le_of_ble_eq_true rfl) (Nat.le_of_ble_eq_true rfl) dX12_usual_54 ?_
      obtain rfl : k = 1 := (by omega); exact ⟨rfl, rfl, rfl, rfl⟩
    · refine ⟨54, 55, rfl, by decide, ?_⟩
      refine r_bipush (v := 10) rfl dX12_usual_55 ?_
      refine w_iret rfl (rfl) (Nat.le_of_ble_eq_true rfl) (Nat.le_of_ble_eq_true rfl) dX12_usual_57 ?_
      obtain rfl : k = 2 := (by omega); exact ⟨rfl, rfl, rfl, rfl⟩
    · refine ⟨57, 58, rfl, by decide, ?_⟩
      refine r_bipush (v := 6) rfl dX12_usual_58 ?_
      refine w_iret rfl (rfl) (Nat.le_of_ble_eq_true rfl) (Nat.le_of_ble_eq_true rfl) dX12_usual_60 ?_
      obtain rfl : k = 3 := (by omega); exact ⟨rfl, rfl, rfl, rfl⟩
    · refine ⟨60, 61, rfl, by decide, ?_⟩
      refine r_sipush (v := 200) rfl dX12_usual_61 ?_
      refine w_iret rfl (rfl) (Nat.le_of_ble_eq_true rfl) (Nat.le_of_ble_eq_true rfl) dX12_usual_64 ?_
      obtain rfl : k = 4 := (by omega); exact ⟨rfl, rfl, rfl, rfl⟩
    · refine ⟨64, 65, rfl, by decide, ?_⟩
      refine r_iconst (v := 2) rfl dX12_usual_65 ?_
      refine w_iret rfl (rfl) (Nat.le_of_ble_eq_true rfl) (Nat.le_of_ble_eq_true rfl) dX12_usual_66 ?_
      obtain rfl : k = 5 := (by omega); exact ⟨rfl, rfl, rfl, rfl⟩
    · refine ⟨66, 67, rfl, by decide, ?_⟩
      refine r_bipush (v := 60) rfl dX12_usual_67 ?_
      refine w_iret rfl (rfl) (Nat.le_of_ble_eq_true rfl) (Nat.le_of_ble_eq_true rfl) dX12_usual_69 ?_
      obtain rfl : k = 6 := (by omega); exact ⟨rfl, rfl, rfl, rfl⟩
    · refine ⟨69, 70, rfl, by decide, ?_⟩
      refine r_iconst (v := 5) rfl dX12_usual_70 ?_
      refine w_iret rfl (rfl) (Nat.le_of_ble_eq_true rfl) (Nat.le_of_ble_eq_true rfl) dX12_usual_71 ?_
      obtain rfl : k = 7 := (by omega); exact ⟨rfl, rfl, rfl, rfl⟩
theorem k_X12_least {k : Nat} {x : Int32} (hx : x = nI k) (hk : k < 9) : Con sc mX12_least 0 0 0 [.int x] (XW I L tg) (rI (ol3.getD (18 + 3 * k) 0) (XW I L tg)) := by
  refine Con_of (by decide) (Nat.le_of_ble_eq_true rfl) ?_
  have hc : k = 0 ∨ k = 1 ∨ k = 2 ∨ k = 3 ∨ k = 4 ∨ k = 5 ∨ k = 6 ∨ k = 7 ∨ k = 8 := by omega
  subst hx
  refine r_iload_n (j := 0) rfl rfl dX12_least_0 ?_
  refine r_if_eq (tgt := 10) dX12_least_1 (by decide) (fun c1 => ?_) (fun c1 => ?_)
  · refine r_bipush (v := 10) rfl dX12_least_10 ?_
    refine r_goto (tgt := 36) dX12_least_12 (by decide) ?_
    refine w_iret rfl (rfl) (Nat.le_of_ble_eq_true rfl) (Nat.le_of_ble_eq_true rfl) dX12_least_36 ?_
    first | (rcases hc with rfl | rfl | rfl | rfl | rfl | rfl | rfl | rfl | rfl <;> first | exact ⟨rfl, rfl, rfl, rfl⟩ | (exfalso; revert c1; decide) | (exfalso; revert c7; decide) | (exfalso; revert c17; decide) | (exfalso; revert c22; decide) | (exfalso; revert c28; decide))
  · refine r_iload_n (j := 0) rfl rfl dX12_least_4 ?_
    refine r_bipush (v := 6) rfl dX12_least_5 ?_
    refine r_icmp_ne (tgt := 15) dX12_least_7 (by decide) (fun c7 => ?_) (fun c7 => ?_)
    · refine r_iload_n (j := 0) rfl rfl dX12_least_15 ?_
      refine r_iconst (v := 2) rfl dX12_least_16 ?_
      refine r_icmp_eq (tgt := 31) dX12_least_17 (by decide) (fun c17 => ?_) (fun c17 => ?_)
      · refine r_iconst (v := 1) rfl dX12_least_31 ?_
        refine r_goto (tgt := 36) dX12_least_32 (by decide) ?_
        refine w_iret rfl (rfl) (Nat.le_of_ble_eq_true rfl) (Nat.le_of_ble_eq_true rfl) dX12_least_36 ?_
        first | (rcases hc with rfl | rfl | rfl | rfl | rfl | rfl | rfl | rfl | rfl <;> first | exact ⟨rfl, rfl, rfl, rfl⟩ | (exfalso; revert c1; decide) | (exfalso; revert c7; decide) | (exfalso; revert c17; decide) | (exfalso; revert c22; decide) | (exfalso; revert c28; decide))
      · refine r_iload_n (j := 0) rfl rfl dX12_least_20 ?_
        refine r_iconst (v := 3) rfl dX12_least_21 ?_
        refine r_icmp_eq (tgt := 31) dX12_least_22 (by decide) (fun c22 => ?_) (fun c22 => ?_)
        · refine r_iconst (v := 1) rfl dX12_least_31 ?_
          refine r_goto (tgt := 36) dX12_least_32 (by decide) ?_
          refine w_iret rfl (rfl) (Nat.le_of_ble_eq_true rfl) (Nat.le_of_ble_eq_true rfl) dX12_least_36 ?_
          first | (rcases hc with rfl | rfl | rfl | rfl | rfl | rfl | rfl | rfl | rfl <;> first | exact ⟨rfl, rfl, rfl, rfl⟩ | (exfalso; revert c1; decide) | (exfalso; revert c7; decide) | (exfalso; revert c17; decide) | (exfalso; revert c22; decide) | (exfalso; revert c28; decide))
        · refine r_iload_n (j := 0) rfl rfl dX12_least_25 ?_
          refine r_bipush (v := 7) rfl dX12_least_26 ?_
          refine r_icmp_ne (tgt := 35) dX12_least_28 (by decide) (fun c28 => ?_) (fun c28 => ?_)
          · refine r_iconst (v := 0) rfl dX12_least_35 ?_
            refine w_iret rfl (rfl) (Nat.le_of_ble_eq_true rfl) (Nat.le_of_ble_eq_true rfl) dX12_least_36 ?_
            first | (rcases hc with rfl | rfl | rfl | rfl | rfl | rfl | rfl | rfl | rfl <;> first | exact ⟨rfl, rfl, rfl, rfl⟩ | (exfalso; revert c1; decide) | (exfalso; revert c7; decide) | (exfalso; revert c17; decide) | (exfalso; revert c22; decide) | (exfalso; revert c28; decide))
          · refine r_iconst (v := 1) rfl dX12_least_31 ?_
            refine r_goto (tgt := 36) dX12_least_32 (by decide) ?_
            refine w_iret rfl (rfl) (Nat.le_of_ble_eq_true rfl) (Nat.le_of_ble_eq_true rfl) dX12_least_36 ?_
            first | (rcases hc with rfl | rfl | rfl | rfl | rfl | rfl | rfl | rfl | rfl <;> first | exact ⟨rfl, rfl, rfl, rfl⟩ | (exfalso; revert c1; decide) | (exfalso; revert c7; decide) | (exfalso; revert c17; decide) | (exfalso; revert c22; decide) | (exfalso; revert c28; decide))
    · refine r_bipush (v := 10) rfl dX12_least_10 ?_
      refine r_goto (tgt := 36) dX12_least_12 (by decide) ?_
      refine w_iret rfl (rfl) (Nat.le_of_ble_eq_true rfl) (Nat.le_of_ble_eq_true rfl) dX12_least_36 ?_
      first | (rcases hc with rfl | rfl | rfl | rfl | rfl | rfl | rfl | rfl | rfl <;> first | exact ⟨rfl, rfl, rfl, rfl⟩ | (exfalso; revert c1; decide) | (exfalso; revert c7; decide) | (exfalso; revert c17; decide) | (exfalso; revert c22; decide) | (exfalso; revert c28; decide))
theorem k_X12_greatest {k : Nat} {x : Int32} (hx : x = nI k) (hk : k < 9) : Con sc mX12_greatest 0 0 0 [.int x] (XW I L tg) (rI (ol4.getD (18 + 3 * k) 0) (XW I L tg)) := by
  refine Con_of (by decide) (Nat.le_of_ble_eq_true rfl) ?_
  have xi : x.toInt = k := by rw [hx, nI_toInt (by omega)]
  refine r_iload_n (j := 0) rfl rfl dX12_greatest_0 ?_
  refine w_tab (tgtD := 69) dX12_greatest_1 (by decide) (fun c1 => ?_) (fun i c1 l1 => ?_)
  · refine r_bipush (v := 50) rfl dX12_greatest_69 ?_
    refine w_iret rfl (rfl) (Nat.le_of_ble_eq_true rfl) (Nat.le_of_ble_eq_true rfl) dX12_greatest_71 ?_
    (rcases (show k = 7 ∨ k = 8 by omega) with rfl | rfl); exact ⟨rfl, rfl, rfl, rfl⟩; exact ⟨rfl, rfl, rfl, rfl⟩
  · rcases (show i = 0 ∨ i = 1 ∨ i = 2 ∨ i = 3 ∨ i = 4 ∨ i = 5 ∨ i = 6 by omega) with rfl | rfl | rfl | rfl | rfl | rfl | rfl
    · refine ⟨43, 44, rfl, by decide, ?_⟩
      refine r_sipush (v := 400) rfl dX12_greatest_44 ?_
      refine w_iret rfl (rfl) (Nat.le_of_ble_eq_true rfl) (Nat.le_of_ble_eq_true rfl) dX12_greatest_47 ?_
      obtain rfl : k = 0 := (by omega); exact ⟨rfl, rfl, rfl, rfl⟩
    · refine ⟨47, 48, rfl, by decide, ?_⟩
      refine r_sipush (v := 300) rfl dX12_greatest_48 ?_
      refine w_iret rfl (rfl) (Nat.le_of_ble_eq_true rfl) (Nat.le_of_ble_eq_true rfl) dX12_greatest_51 ?_
      obtain rfl : k = 1 := (by omega); exact ⟨rfl, rfl, rfl, rfl⟩
    · refine ⟨51, 52, rfl, by decide, ?_⟩
      refine r_bipush (v := 99) rfl dX12_greatest_52 ?_
      refine w_iret rfl (rfl) (Nat.le_of_ble_eq_true rfl) (Nat.le_of_ble_eq_true rfl) dX12_greatest_54 ?_
      obtain rfl : k = 2 := (by omega); exact ⟨rfl, rfl, rfl, rfl⟩
    · refine ⟨54, 55, rfl, by decide, ?_⟩
      refine r_bipush (v := 40) rfl dX12_greatest_55 ?_
      refine w_iret rfl (rfl) (Nat.le_of_ble_eq_true rfl) (Nat.le_of_ble_eq_true rfl) dX12_greatest_57 ?_
      obtain rfl : k = 3 := (by omega); exact ⟨rfl, rfl, rfl, rfl⟩
    · refine ⟨57, 58, rfl, by decide, ?_⟩
      refine r_sipush (v := 700) rfl dX12_greatest_58 ?_
      refine w_iret rfl (rfl) (Nat.le_of_ble_eq_true rfl) (Nat.le_of_ble_eq_true rfl) dX12_greatest_61 ?_
      obtain rfl : k = 4 := (by omega); exact ⟨rfl, rfl, rfl, rfl⟩
    · refine ⟨61, 62, rfl, by decide, ?_⟩
      refine r_bipush (v := 9) rfl dX12_greatest_62 ?_
      refine w_iret rfl (rfl) (Nat.le_of_ble_eq_true rfl) (Nat.le_of_ble_eq_true rfl) dX12_greatest_64 ?_
      obtain rfl : k = 5 := (by omega); exact ⟨rfl, rfl, rfl, rfl⟩
    · refine ⟨64, 65, rfl, by decide, ?_⟩
      refine r_sipush (v := 200) rfl dX12_greatest_65 ?_
      refine w_iret rfl (rfl) (Nat.le_of_ble_eq_true rfl) (Nat.le_of_ble_eq_true rfl) dX12_greatest_68 ?_
      obtain rfl : k = 6 := (by omega); exact ⟨rfl, rfl, rfl, rfl⟩
/-- the model's number of a clause -/
def mnR (I : Is) (lo hi : Int32) : Int32 := if ¬ I 95 5 = 2 then 1 else if lo.toInt ≤ (I 95 6).toInt ∧ (I 95 6).toInt ≤ hi.toInt then 0 else 2
def mnI (I : Is) (N p : Nat) (lo hi : Int32) : Is := if mnR I lo hi = 0 then scI (up I 95 7 (I 95 6)) N p else bdI I (mnR I lo hi)
theorem k_X12_number {N p : Nat} {lo hi : Int32} (hN : I 95 2 = nI N) (h9 : N ≤ 900) (hb : ∀ j, j < N → -128 ≤ (I 96 j).toInt ∧ (I 96 j).toInt ≤ 127) (hp : p ≤ N) (h4 : I 95 4 = nI p) : Con sc mX12_number 3 0 0 [.ref 95, .int lo, .int hi] (XW I L tg) (rI (bI (mnR I lo hi = 0)) (XW (mnI I N p lo hi) L tg)) := by
  refine Con_of (by decide) (Nat.le_of_ble_eq_true rfl) ?_
  have no : ∀ c : Int32, mnR I lo hi = c → ¬ c = 0 → (0 : Int32) = bI (mnR I lo hi = 0) ∧ bdI I c = mnI I N p lo hi := by
    intro c h h0
    refine ⟨(bI_f (by rw [h]; exact h0)).symm, ?_⟩
    unfold mnI
    rw [h, if_neg h0]
  refine r_aload_n (j := 0) rfl rfl dX12_number_0 ?_
  refine w_getI fX12_27 rfl dX12_number_1 ?_
  refine r_iconst (v := 2) rfl dX12_number_4 ?_
  refine r_icmp_eq (tgt := 14) dX12_number_5 (by decide) (fun c5 => ?_) (fun c5 => ?_)
  · refine r_aload_n (j := 0) rfl rfl dX12_number_14 ?_
    refine w_getI fX12_37 rfl dX12_number_15 ?_
    refine r_i2l dX12_number_18 ?_
    refine r_iload_n (j := 1) rfl rfl dX12_number_19 ?_
    refine r_i2l dX12_number_20 ?_
    refine r_iload_n (j := 2) rfl rfl dX12_number_21 ?_
    refine r_i2l dX12_number_22 ?_
    refine w_cS3p (k_X12_in) (Nat.le_of_ble_eq_true rfl) lX12_52 mtX12_in (Nat.le_of_ble_eq_true rfl) (Nat.le_of_ble_eq_true rfl) (Nat.le_of_ble_eq_true rfl) dX12_number_23 ?_
    rw [show bI ((Int32.toInt64 lo).toInt ≤ (Int32.toInt64 (I 95 6)).toInt ∧ (Int32.toInt64 (I 95 6)).toInt ≤ (Int32.toInt64 hi).toInt) = bI (lo.toInt ≤ (I 95 6).toInt ∧ (I 95 6).toInt ≤ hi.toInt) from bI_cg (by rw [Int32.toInt_toInt64, Int32.toInt_toInt64, Int32.toInt_toInt64])]
    refine r_if_ne (tgt := 35) dX12_number_26 (by decide) (fun c26 => ?_) (fun c26 => ?_)
    · refine r_aload_n (j := 0) rfl rfl dX12_number_35 ?_
      refine r_aload_n (j := 0) rfl rfl dX12_number_36 ?_
      refine w_getI fX12_37 rfl dX12_number_37 ?_
      refine w_putI fX12_56 rfl (rfl) (rfl) dX12_number_40 (fun J40 hJ40 => ?_)
      refine r_aload_n (j := 0) rfl rfl dX12_number_43 ?_
      refine w_cV0v (k_X12_scan (N := N) (p := p) (by rw [hJ40]; simp [up_eq, vu_eq, hN]) h9 (by rw [hJ40]; simpa [up_eq] using hb) hp (by rw [hJ40]; simp [up_eq, vu_eq, h4])) (Nat.le_of_ble_eq_true rfl) lX12_59 vmX12_scan rfl (Nat.le_of_ble_eq_true rfl) (Nat.le_of_ble_eq_true rfl) (Nat.le_of_ble_eq_true rfl) dX12_number_44 (fun J44 K44 hJ44 hK44 => ?_)
      subst hK44
      refine r_iconst (v := 1) rfl dX12_number_47 ?_
      refine w_iret rfl (rfl) (Nat.le_of_ble_eq_true rfl) (Nat.le_of_ble_eq_true rfl) dX12_number_48 ?_
      have e : mnR I lo hi = 0 := (by unfold mnR; rw [if_neg (by exact fun z => z c5), if_pos (bI_1.mp c26)]); exact ⟨(bI_t e).symm, by unfold mnI; rw [if_pos e, hJ44, hJ40], rfl, rfl⟩
    · refine r_aload_n (j := 0) rfl rfl dX12_number_29 ?_
      refine r_iconst (v := 2) rfl dX12_number_30 ?_
      refine w_cV1s (k_X12_bad) (Nat.le_of_ble_eq_true rfl) lX12_49 vmX12_bad rfl (Nat.le_of_ble_eq_true rfl) (Nat.le_of_ble_eq_true rfl) (Nat.le_of_ble_eq_true rfl) dX12_number_31 (fun J31 K31 hJ31 hK31 => ?_)
      subst hK31
      refine w_iret rfl (rfl) (Nat.le_of_ble_eq_true rfl) (Nat.le_of_ble_eq_true rfl) dX12_number_34 ?_
      have e : mnR I lo hi = 2 := (by unfold mnR; rw [if_neg (by exact fun z => z c5), if_neg (bI_0.mp c26)]); exact ⟨(no _ e (by decide)).1, by rw [hJ31]; exact (no _ e (by decide)).2, rfl, rfl⟩
  · refine r_aload_n (j := 0) rfl rfl dX12_number_8 ?_
    refine r_iconst (v := 1) rfl dX12_number_9 ?_
    refine w_cV1s (k_X12_bad) (Nat.le_of_ble_eq_true rfl) lX12_49 vmX12_bad rfl (Nat.le_of_ble_eq_true rfl) (Nat.le_of_ble_eq_true rfl) (Nat.le_of_ble_eq_true rfl) dX12_number_10 (fun J10 K10 hJ10 hK10 => ?_)
    subst hK10
    refine w_iret rfl (rfl) (Nat.le_of_ble_eq_true rfl) (Nat.le_of_ble_eq_true rfl) dX12_number_13 ?_
    have e : mnR I lo hi = 1 := if_pos c5; exact ⟨(no _ e (by decide)).1, by rw [hJ10]; exact (no _ e (by decide)).2, rfl, rfl⟩
end
