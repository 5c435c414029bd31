section
variable {sc : Sc} {I : Is} {L : Ls} {tg n : Nat} {x : Int32}
theorem RR_one : RR sc mL_law 30 600000 7302250 PL 151 4218 1359 [(3, .int x), (2, .ref 95), (1, .ref 0), (0, .ref 1300)] [] (XW I L tg) := by
  refine r_iconst (v := 1) rfl dL_law_1359 ?_
  exact r_iret (ty := .boolean) rfl rfl (Nat.le_of_ble_eq_true rfl) (Nat.le_of_ble_eq_true rfl) dL_law_1360 rfl
/-- THE LAW'S LOOP -/
theorem law_go (hL : sc.1 ≤ 3584) : ∀ r n : Nat, n + r = 513 → ∀ (I : Is) (L : Ls) (tg : Nat) (x : Int32), Inv n I L → x.toInt = ((7 * n : Nat) : Int) → RR sc mL_law 30 600000 7302250 PL 151 4218 18 [(3, .int x), (2, .ref 95), (1, .ref 0), (0, .ref 1300)] [] (XW I L tg) := by
  have e1 : (Int32.ofNat sc.1).toInt = (sc.1 : Int) := nI_toInt (n := sc.1) (by omega)
  have e7 : (Int32.ofNat sc.1 - 7).toInt = (sc.1 : Int) - 7 := by
    rw [i_sub (by rw [e1]; simp only [Int32.reduceToInt]; omega) (by rw [e1]; simp only [Int32.reduceToInt]; omega), e1]
    rfl
  intro r
  induction r with
  | zero =>
    intro n hr I L tg x h hx
    refine r_iload_n (j := 0) rfl rfl dL_law_18 ?_
    refine r_aload_n (j := 3) rfl rfl dL_law_19 ?_
    refine r_slen dL_law_20 ?_
    refine r_bipush (v := 7) rfl dL_law_21 ?_
    refine r_isub dL_law_23 ?_
    refine r_icmp_gt (tgt := 1359) dL_law_24 (by decide) (fun c24 => ?_) (fun c24 => ?_)
    · exact RR_one
    · exfalso; rw [i_lt] at c24; have c24 : ¬ (Int32.ofNat sc.1 - 7).toInt < x.toInt := c24; omega
  | succ r ih =>
    intro n hr I L tg x h hx
    by_cases hc : x.toInt ≤ (sc.1 : Int) - 7
    · have ad : ∀ j : Int32, 0 ≤ j.toInt → j.toInt ≤ 6 → vp_in (x + j) sc.1 := fun j j0 j6 => by
        rw [vp_in_iff, i_add (by omega) (by omega)]
        omega
      have hin : vp_in x sc.1 := by rw [vp_in_iff]; omega
      have K : ∀ J M tq, Inv (n + 1) J M → RR sc mL_law 30 600000 7302250 PL 151 4218 1353 [(3, .int x), (2, .ref 95), (1, .ref 0), (0, .ref 1300)] [] (XW J M tq) := by
        intro J M tq hI
        refine r_iinc (j := 0) (lv' := fun z => [(3, .int z), (2, .ref 95), (1, .ref 0), (0, .ref 1300)]) dL_law_1353 rfl (Nat.le_of_ble_eq_true rfl) (fun _ => rfl) (fun x3_1353 ex3_1353 => ?_)
        refine r_goto (tgt := 18) dL_law_1356 (by decide) ?_
        refine ih (n + 1) (by omega) _ _ _ _ hI ?_
        have e8 : (Int32.ofInt 7).toInt = 7 := rfl
        rw [ex3_1353, i_add (by omega) (by omega)]
        omega
      refine r_iload_n (j := 0) rfl rfl dL_law_18 ?_
      refine r_aload_n (j := 3) rfl rfl dL_law_19 ?_
      refine r_slen dL_law_20 ?_
      refine r_bipush (v := 7) rfl dL_law_21 ?_
      refine r_isub dL_law_23 ?_
      refine r_icmp_gt (tgt := 1359) dL_law_24 (by decide) (fun c24 => ?_) (fun c24 => ?_)
      · exfalso; rw [i_lt] at c24; have c24 : (Int32.ofNat sc.1 - 7).toInt < x.toInt := c24; omega
      · refine r_aload_n (j := 3) rfl rfl dL_law_27 ?_
        refine r_iload_n (j := 0) rfl rfl dL_law_28 ?_
        refine r_sld (hin) dL_law_29 ?_
        refine r_bipush (v := 63) rfl dL_law_30 ?_
        refine r_iand dL_law_32 ?_
        refine w_tab (tgtD := 1353) dL_law_33 (by decide) (fun c33 => ?_) (fun i c33 l33 => ?_)
        · exact K _ _ _ (Inv_up h)
        · match i, c33, l33 with
          | 0, c33, l33 =>
            refine ⟨171, 204, rfl, by decide, ?_⟩
            exact cs_feed h (by omega) (ad _ (by decide) (by decide)) (ad _ (by decide) (by decide)) (ad _ (by decide) (by decide)) (ad _ (by decide) (by decide)) (ad _ (by decide) (by decide)) (ad _ (by decide) (by decide)) K
          | 1, c33, l33 =>
            refine ⟨234, 267, rfl, by decide, ?_⟩
            exact cs_end h (by omega) (ad _ (by decide) (by decide)) (ad _ (by decide) (by decide)) (ad _ (by decide) (by decide)) (ad _ (by decide) (by decide)) (ad _ (by decide) (by decide)) (ad _ (by decide) (by decide)) K
          | 2, c33, l33 =>
            refine ⟨257, 290, rfl, by decide, ?_⟩
            exact cs_camp h (by omega) (ad _ (by decide) (by decide)) (ad _ (by decide) (by decide)) (ad _ (by decide) (by decide)) (ad _ (by decide) (by decide)) (ad _ (by decide) (by decide)) (ad _ (by decide) (by decide)) K
          | 3, c33, l33 =>
            refine ⟨270, 303, rfl, by decide, ?_⟩
            exact cs_fault h (by omega) (ad _ (by decide) (by decide)) (ad _ (by decide) (by decide)) (ad _ (by decide) (by decide)) (ad _ (by decide) (by decide)) (ad _ (by decide) (by decide)) (ad _ (by decide) (by decide)) K
          | 4, c33, l33 =>
            refine ⟨293, 326, rfl, by decide, ?_⟩
            exact cs_told h (by omega) (ad _ (by decide) (by decide)) (ad _ (by decide) (by decide)) (ad _ (by decide) (by decide)) (ad _ (by decide) (by decide)) (ad _ (by decide) (by decide)) (ad _ (by decide) (by decide)) K
          | 5, c33, l33 =>
            refine ⟨316, 349, rfl, by decide, ?_⟩
            exact cs_run h (by omega) (ad _ (by decide) (by decide)) (ad _ (by decide) (by decide)) (ad _ (by decide) (by decide)) (ad _ (by decide) (by decide)) (ad _ (by decide) (by decide)) (ad _ (by decide) (by decide)) K
          | 6, c33, l33 =>
            refine ⟨349, 382, rfl, by decide, ?_⟩
            exact cs_chance h (by omega) (ad _ (by decide) (by decide)) (ad _ (by decide) (by decide)) (ad _ (by decide) (by decide)) (ad _ (by decide) (by decide)) (ad _ (by decide) (by decide)) (ad _ (by decide) (by decide)) K
          | 7, c33, l33 =>
            refine ⟨372, 405, rfl, by decide, ?_⟩
            exact cs_open h (by omega) (ad _ (by decide) (by decide)) (ad _ (by decide) (by decide)) (ad _ (by decide) (by decide)) (ad _ (by decide) (by decide)) (ad _ (by decide) (by decide)) (ad _ (by decide) (by decide)) K
          | 8, c33, l33 =>
            refine ⟨395, 428, rfl, by decide, ?_⟩
            exact cs_shift h (by omega) (ad _ (by decide) (by decide)) (ad _ (by decide) (by decide)) (ad _ (by decide) (by decide)) (ad _ (by decide) (by decide)) (ad _ (by decide) (by decide)) (ad _ (by decide) (by decide)) K
          | 9, c33, l33 =>
            refine ⟨428, 461, rfl, by decide, ?_⟩
            exact cs_tunnel h (by omega) (ad _ (by decide) (by decide)) (ad _ (by decide) (by decide)) (ad _ (by decide) (by decide)) (ad _ (by decide) (by decide)) (ad _ (by decide) (by decide)) (ad _ (by decide) (by decide)) K
          | 10, c33, l33 =>
            refine ⟨461, 494, rfl, by decide, ?_⟩
            exact cs_boards h (by omega) (ad _ (by decide) (by decide)) (ad _ (by decide) (by decide)) (ad _ (by decide) (by decide)) (ad _ (by decide) (by decide)) (ad _ (by decide) (by decide)) (ad _ (by decide) (by decide)) K
          | 11, c33, l33 =>
            refine ⟨474, 507, rfl, by decide, ?_⟩
            exact cs_lies h (by omega) (ad _ (by decide) (by decide)) (ad _ (by decide) (by decide)) (ad _ (by decide) (by decide)) (ad _ (by decide) (by decide)) (ad _ (by decide) (by decide)) (ad _ (by decide) (by decide)) K
          | 12, c33, l33 =>
            refine ⟨497, 530, rfl, by decide, ?_⟩
            exact cs_carry h (by omega) (ad _ (by decide) (by decide)) (ad _ (by decide) (by decide)) (ad _ (by decide) (by decide)) (ad _ (by decide) (by decide)) (ad _ (by decide) (by decide)) (ad _ (by decide) (by decide)) K
          | 13, c33, l33 =>
            refine ⟨540, 573, rfl, by decide, ?_⟩
            exact cs_had h (by omega) (ad _ (by decide) (by decide)) (ad _ (by decide) (by decide)) (ad _ (by decide) (by decide)) (ad _ (by decide) (by decide)) (ad _ (by decide) (by decide)) (ad _ (by decide) (by decide)) K
          | 14, c33, l33 =>
            refine ⟨563, 596, rfl, by decide, ?_⟩
            exact cs_most h (by omega) (ad _ (by decide) (by decide)) (ad _ (by decide) (by decide)) (ad _ (by decide) (by decide)) (ad _ (by decide) (by decide)) (ad _ (by decide) (by decide)) (ad _ (by decide) (by decide)) K
          | 15, c33, l33 =>
            refine ⟨586, 619, rfl, by decide, ?_⟩
            exact cs_until h (by omega) (ad _ (by decide) (by decide)) (ad _ (by decide) (by decide)) (ad _ (by decide) (by decide)) (ad _ (by decide) (by decide)) (ad _ (by decide) (by decide)) (ad _ (by decide) (by decide)) K
          | 16, c33, l33 =>
            refine ⟨599, 632, rfl, by decide, ?_⟩
            exact cs_keep h (by omega) (ad _ (by decide) (by decide)) (ad _ (by decide) (by decide)) (ad _ (by decide) (by decide)) (ad _ (by decide) (by decide)) (ad _ (by decide) (by decide)) (ad _ (by decide) (by decide)) K
          | 17, c33, l33 =>
            refine ⟨622, 655, rfl, by decide, ?_⟩
            exact cs_take h (by omega) (ad _ (by decide) (by decide)) (ad _ (by decide) (by decide)) (ad _ (by decide) (by decide)) (ad _ (by decide) (by decide)) (ad _ (by decide) (by decide)) (ad _ (by decide) (by decide)) K
          | 18, c33, l33 =>
            refine ⟨645, 678, rfl, by decide, ?_⟩
            exact cs_gone h (by omega) (ad _ (by decide) (by decide)) (ad _ (by decide) (by decide)) (ad _ (by decide) (by decide)) (ad _ (by decide) (by decide)) (ad _ (by decide) (by decide)) (ad _ (by decide) (by decide)) K
          | 19, c33, l33 =>
            refine ⟨678, 711, rfl, by decide, ?_⟩
            exact cs_runners h (by omega) (ad _ (by decide) (by decide)) (ad _ (by decide) (by decide)) (ad _ (by decide) (by decide)) (ad _ (by decide) (by decide)) (ad _ (by decide) (by decide)) (ad _ (by decide) (by decide)) K
          | 20, c33, l33 =>
            refine ⟨691, 724, rfl, by decide, ?_⟩
            exact cs_wrong h (by omega) (ad _ (by decide) (by decide)) (ad _ (by decide) (by decide)) (ad _ (by decide) (by decide)) (ad _ (by decide) (by decide)) (ad _ (by decide) (by decide)) (ad _ (by decide) (by decide)) K
          | 21, c33, l33 =>
            refine ⟨704, 737, rfl, by decide, ?_⟩
            exact cs_kept h (by omega) (ad _ (by decide) (by decide)) (ad _ (by decide) (by decide)) (ad _ (by decide) (by decide)) (ad _ (by decide) (by decide)) (ad _ (by decide) (by decide)) (ad _ (by decide) (by decide)) K
          | 22, c33, l33 =>
            refine ⟨737, 770, rfl, by decide, ?_⟩
            exact cs_needed h (by omega) (ad _ (by decide) (by decide)) (ad _ (by decide) (by decide)) (ad _ (by decide) (by decide)) (ad _ (by decide) (by decide)) (ad _ (by decide) (by decide)) (ad _ (by decide) (by decide)) K
          | 23, c33, l33 =>
            refine ⟨770, 803, rfl, by decide, ?_⟩
            exact cs_second h (by omega) (ad _ (by decide) (by decide)) (ad _ (by decide) (by decide)) (ad _ (by decide) (by decide)) (ad _ (by decide) (by decide)) (ad _ (by decide) (by decide)) (ad _ (by decide) (by decide)) K
          | 24, c33, l33 =>
            refine ⟨823, 856, rfl, by decide, ?_⟩
            exact cs_drift h (by omega) (ad _ (by decide) (by decide)) (ad _ (by decide) (by decide)) (ad _ (by decide) (by decide)) (ad _ (by decide) (by decide)) (ad _ (by decide) (by decide)) (ad _ (by decide) (by decide)) K
          | 25, c33, l33 =>
            refine ⟨846, 879, rfl, by decide, ?_⟩
            exact cs_string h (by omega) (ad _ (by decide) (by decide)) (ad _ (by decide) (by decide)) (ad _ (by decide) (by decide)) (ad _ (by decide) (by decide)) (ad _ (by decide) (by decide)) (ad _ (by decide) (by decide)) K
          | 26, c33, l33 =>
            refine ⟨899, 932, rfl, by decide, ?_⟩
            exact cs_right h (by omega) (ad _ (by decide) (by decide)) (ad _ (by decide) (by decide)) (ad _ (by decide) (by decide)) (ad _ (by decide) (by decide)) (ad _ (by decide) (by decide)) (ad _ (by decide) (by decide)) K
          | 27, c33, l33 =>
            refine ⟨942, 975, rfl, by decide, ?_⟩
            exact cs_where h (by omega) (ad _ (by decide) (by decide)) (ad _ (by decide) (by decide)) (ad _ (by decide) (by decide)) (ad _ (by decide) (by decide)) (ad _ (by decide) (by decide)) (ad _ (by decide) (by decide)) K
          | 28, c33, l33 =>
            refine ⟨975, 1008, rfl, by decide, ?_⟩
            exact cs_up h (by omega) (ad _ (by decide) (by decide)) (ad _ (by decide) (by decide)) (ad _ (by decide) (by decide)) (ad _ (by decide) (by decide)) (ad _ (by decide) (by decide)) (ad _ (by decide) (by decide)) K
          | 29, c33, l33 =>
            refine ⟨1008, 1041, rfl, by decide, ?_⟩
            exact cs_join h (by omega) (ad _ (by decide) (by decide)) (ad _ (by decide) (by decide)) (ad _ (by decide) (by decide)) (ad _ (by decide) (by decide)) (ad _ (by decide) (by decide)) (ad _ (by decide) (by decide)) K
          | 30, c33, l33 =>
            refine ⟨1041, 1074, rfl, by decide, ?_⟩
            exact cs_round h (by omega) (ad _ (by decide) (by decide)) (ad _ (by decide) (by decide)) (ad _ (by decide) (by decide)) (ad _ (by decide) (by decide)) (ad _ (by decide) (by decide)) (ad _ (by decide) (by decide)) K
          | 31, c33, l33 =>
            refine ⟨1074, 1107, rfl, by decide, ?_⟩
            exact cs_morning h (by omega) (ad _ (by decide) (by decide)) (ad _ (by decide) (by decide)) (ad _ (by decide) (by decide)) (ad _ (by decide) (by decide)) (ad _ (by decide) (by decide)) (ad _ (by decide) (by decide)) K
          | 32, c33, l33 =>
            refine ⟨1087, 1120, rfl, by decide, ?_⟩
            exact cs_order h (by omega) (ad _ (by decide) (by decide)) (ad _ (by decide) (by decide)) (ad _ (by decide) (by decide)) (ad _ (by decide) (by decide)) (ad _ (by decide) (by decide)) (ad _ (by decide) (by decide)) K
          | 33, c33, l33 =>
            refine ⟨1100, 1133, rfl, by decide, ?_⟩
            exact cs_best h (by omega) (ad _ (by decide) (by decide)) (ad _ (by decide) (by decide)) (ad _ (by decide) (by decide)) (ad _ (by decide) (by decide)) (ad _ (by decide) (by decide)) (ad _ (by decide) (by decide)) K
          | 34, c33, l33 =>
            refine ⟨1123, 1156, rfl, by decide, ?_⟩
            exact cs_goes h (by omega) (ad _ (by decide) (by decide)) (ad _ (by decide) (by decide)) (ad _ (by decide) (by decide)) (ad _ (by decide) (by decide)) (ad _ (by decide) (by decide)) (ad _ (by decide) (by decide)) K
          | 35, c33, l33 =>
            refine ⟨1156, 1189, rfl, by decide, ?_⟩
            exact cs_list h (by omega) (ad _ (by decide) (by decide)) (ad _ (by decide) (by decide)) (ad _ (by decide) (by decide)) (ad _ (by decide) (by decide)) (ad _ (by decide) (by decide)) (ad _ (by decide) (by decide)) K
          | 36, c33, l33 =>
            refine ⟨1231, 1264, rfl, by decide, ?_⟩
            exact cs_listed h (by omega) (ad _ (by decide) (by decide)) (ad _ (by decide) (by decide)) (ad _ (by decide) (by decide)) (ad _ (by decide) (by decide)) (ad _ (by decide) (by decide)) (ad _ (by decide) (by decide)) K
          | 37, c33, l33 =>
            refine ⟨1254, 1287, rfl, by decide, ?_⟩
            exact cs_across h (by omega) (ad _ (by decide) (by decide)) (ad _ (by decide) (by decide)) (ad _ (by decide) (by decide)) (ad _ (by decide) (by decide)) (ad _ (by decide) (by decide)) (ad _ (by decide) (by decide)) K
          | 38, c33, l33 =>
            refine ⟨1297, 1330, rfl, by decide, ?_⟩
            exact cs_count h (by omega) (ad _ (by decide) (by decide)) (ad _ (by decide) (by decide)) (ad _ (by decide) (by decide)) (ad _ (by decide) (by decide)) (ad _ (by decide) (by decide)) (ad _ (by decide) (by decide)) K
          | j + 39, c33, l33 => exact absurd l33 (by omega)
    · skip
      refine r_iload_n (j := 0) rfl rfl dL_law_18 ?_
      refine r_aload_n (j := 3) rfl rfl dL_law_19 ?_
      refine r_slen dL_law_20 ?_
      refine r_bipush (v := 7) rfl dL_law_21 ?_
      refine r_isub dL_law_23 ?_
      refine r_icmp_gt (tgt := 1359) dL_law_24 (by decide) (fun c24 => ?_) (fun c24 => ?_)
      · exact RR_one
      · exfalso; rw [i_lt] at c24; have c24 : ¬ (Int32.ofNat sc.1 - 7).toInt < x.toInt := c24; omega
end
