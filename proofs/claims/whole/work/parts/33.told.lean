/-! told, across -/
section Told
variable {sc : Sc} {I : Is} {L : Ls} {tg : Nat}
theorem w_look2 {μ : Mu} {d mc ms k n pc : Nat} {post : Po} {lv : List (Nat × Value)} {st : List Value} {X : Hp} {x : Int32} {df a oa b ob : Int} {len tD ta tb : Nat} (hd : decode μ.2.1 pc = .ok (.lookupswitch df #[(a, oa), (b, ob)], len)) (hab : a < b) (hD : (pc : Int) + df = (tD : Int)) (hA : (pc : Int) + oa = (ta : Int)) (hB : (pc : Int) + ob = (tb : Int)) (ka : x.toInt = a → RR sc μ d mc ms post k n ta lv st X) (kb : x.toInt = b → RR sc μ d mc ms post k n tb lv st X) (kd : x.toInt ≠ a → x.toInt ≠ b → RR sc μ d mc ms post k n tD lv st X) : RR sc μ d mc ms post k n pc lv (.int x :: st) X := by
  have hp : ((#[(a, oa), (b, ob)] : Array (Int × Int)).toList.zip ((#[(a, oa), (b, ob)] : Array (Int × Int)).toList.drop 1)).all (fun (a, next) => a.1 < next.1) = true := by simpa using hab
  by_cases h1 : x.toInt = a
  · exact r_lookup hd hp (off := oa) (by simp [Op.lookupswitch.offset, h1]) hA (ka h1)
  · by_cases h2 : x.toInt = b
    · exact r_lookup hd hp (off := ob) (by simp [Op.lookupswitch.offset, h2]; omega) hB (kb h2)
    · exact r_lookup hd hp (off := df) (by simp [Op.lookupswitch.offset]; rw [if_neg (by omega), if_neg (by omega)]) hD (kd h1 h2)
theorem k_X0_ofGarden {a g : Int32} (h4 : (I 3 15).toInt ≤ 4) : Con sc mX0_ofGarden 0 0 0 [.ref 3, .int a, .int g] (XW I L tg) (rI (ogS I a g) (XW I L tg)) := by
  refine Con_of (by decide) (Nat.le_of_ble_eq_true rfl) ?_
  refine r_iload_n (j := 2) rfl rfl dX0_ofGarden_0 ?_
  refine r_if_lt (tgt := 12) dX0_ofGarden_1 (by decide) (fun c1 => ?_) (fun c1 => ?_)
  · refine r_iconst (v := (-1)) rfl dX0_ofGarden_12 ?_
    refine w_iret rfl (rfl) (Nat.le_of_ble_eq_true rfl) (Nat.le_of_ble_eq_true rfl) dX0_ofGarden_13 ?_
    exact ⟨by unfold ogS; rw [if_neg (by ((try simp only [bI_0, bI_1, lc_lt, lc_gt, lc_le, lc_ge, Classical.not_not] at *); (try simp only [i_lt, i_le, i_eq, l_lt, l_le, l_eq, Int32.toInt_toInt64, Int32.reduceToInt, Int64.reduceToInt] at *); omega))], rfl, rfl, rfl⟩
  · refine r_iload_n (j := 2) rfl rfl dX0_ofGarden_4 ?_
    refine r_aload_n (j := 0) rfl rfl dX0_ofGarden_5 ?_
    refine w_getI fX0_78 rfl dX0_ofGarden_6 ?_
    refine r_icmp_lt (tgt := 14) dX0_ofGarden_9 (by decide) (fun c9 => ?_) (fun c9 => ?_)
    · refine r_iload_n (j := 1) rfl rfl dX0_ofGarden_14 ?_
      refine w_look2 (tD := 54) (ta := 40) (tb := 47) dX0_ofGarden_15 (by decide) (by decide) (by decide) (by decide) (fun c15 => ?_) (fun c15 => ?_) (fun c15 b15 => ?_)
      · refine r_aload_n (j := 0) rfl rfl dX0_ofGarden_40 ?_
        refine w_getR (b := 13) fX0_44 rfl rfl dX0_ofGarden_41 ?_
        refine r_iload_n (j := 2) rfl rfl dX0_ofGarden_44 ?_
        refine w_iald rfl (by first | assumption | (rw [vp_in_iff]; ((try simp only [bI_0, bI_1, lc_lt, lc_gt, lc_le, lc_ge, Classical.not_not] at *); (try simp only [i_lt, i_le, i_eq, l_lt, l_le, l_eq, Int32.toInt_toInt64, Int32.reduceToInt, Int64.reduceToInt] at *); omega))) dX0_ofGarden_45 ?_
        refine w_iret rfl (rfl) (Nat.le_of_ble_eq_true rfl) (Nat.le_of_ble_eq_true rfl) dX0_ofGarden_46 ?_
        exact ⟨by unfold ogS; rw [if_pos (by ((try simp only [bI_0, bI_1, lc_lt, lc_gt, lc_le, lc_ge, Classical.not_not] at *); (try simp only [i_lt, i_le, i_eq, l_lt, l_le, l_eq, Int32.toInt_toInt64, Int32.reduceToInt, Int64.reduceToInt] at *); omega)), if_pos (by ((try simp only [bI_0, bI_1, lc_lt, lc_gt, lc_le, lc_ge, Classical.not_not] at *); (try simp only [i_lt, i_le, i_eq, l_lt, l_le, l_eq, Int32.toInt_toInt64, Int32.reduceToInt, Int64.reduceToInt] at *); omega))], rfl, rfl, rfl⟩
      · refine r_aload_n (j := 0) rfl rfl dX0_ofGarden_47 ?_
        refine w_getR (b := 14) fX0_47 rfl rfl dX0_ofGarden_48 ?_
        refine r_iload_n (j := 2) rfl rfl dX0_ofGarden_51 ?_
        refine w_iald rfl (by first | assumption | (rw [vp_in_iff]; ((try simp only [bI_0, bI_1, lc_lt, lc_gt, lc_le, lc_ge, Classical.not_not] at *); (try simp only [i_lt, i_le, i_eq, l_lt, l_le, l_eq, Int32.toInt_toInt64, Int32.reduceToInt, Int64.reduceToInt] at *); omega))) dX0_ofGarden_52 ?_
        refine w_iret rfl (rfl) (Nat.le_of_ble_eq_true rfl) (Nat.le_of_ble_eq_true rfl) dX0_ofGarden_53 ?_
        exact ⟨by unfold ogS; rw [if_pos (by ((try simp only [bI_0, bI_1, lc_lt, lc_gt, lc_le, lc_ge, Classical.not_not] at *); (try simp only [i_lt, i_le, i_eq, l_lt, l_le, l_eq, Int32.toInt_toInt64, Int32.reduceToInt, Int64.reduceToInt] at *); omega)), if_neg (by ((try simp only [bI_0, bI_1, lc_lt, lc_gt, lc_le, lc_ge, Classical.not_not] at *); (try simp only [i_lt, i_le, i_eq, l_lt, l_le, l_eq, Int32.toInt_toInt64, Int32.reduceToInt, Int64.reduceToInt] at *); omega)), if_pos (by ((try simp only [bI_0, bI_1, lc_lt, lc_gt, lc_le, lc_ge, Classical.not_not] at *); (try simp only [i_lt, i_le, i_eq, l_lt, l_le, l_eq, Int32.toInt_toInt64, Int32.reduceToInt, Int64.reduceToInt] at *); omega))], rfl, rfl, rfl⟩
      · refine r_aload_n (j := 0) rfl rfl dX0_ofGarden_54 ?_
        refine w_getR (b := 15) fX0_50 rfl rfl dX0_ofGarden_55 ?_
        refine r_iload_n (j := 2) rfl rfl dX0_ofGarden_58 ?_
        refine w_iald rfl (by first | assumption | (rw [vp_in_iff]; ((try simp only [bI_0, bI_1, lc_lt, lc_gt, lc_le, lc_ge, Classical.not_not] at *); (try simp only [i_lt, i_le, i_eq, l_lt, l_le, l_eq, Int32.toInt_toInt64, Int32.reduceToInt, Int64.reduceToInt] at *); omega))) dX0_ofGarden_59 ?_
        refine w_iret rfl (rfl) (Nat.le_of_ble_eq_true rfl) (Nat.le_of_ble_eq_true rfl) dX0_ofGarden_60 ?_
        exact ⟨by unfold ogS; rw [if_pos (by ((try simp only [bI_0, bI_1, lc_lt, lc_gt, lc_le, lc_ge, Classical.not_not] at *); (try simp only [i_lt, i_le, i_eq, l_lt, l_le, l_eq, Int32.toInt_toInt64, Int32.reduceToInt, Int64.reduceToInt] at *); omega)), if_neg (by ((try simp only [bI_0, bI_1, lc_lt, lc_gt, lc_le, lc_ge, Classical.not_not] at *); (try simp only [i_lt, i_le, i_eq, l_lt, l_le, l_eq, Int32.toInt_toInt64, Int32.reduceToInt, Int64.reduceToInt] at *); omega)), if_neg (by ((try simp only [bI_0, bI_1, lc_lt, lc_gt, lc_le, lc_ge, Classical.not_not] at *); (try simp only [i_lt, i_le, i_eq, l_lt, l_le, l_eq, Int32.toInt_toInt64, Int32.reduceToInt, Int64.reduceToInt] at *); omega))], rfl, rfl, rfl⟩
    · refine r_iconst (v := (-1)) rfl dX0_ofGarden_12 ?_
      refine w_iret rfl (rfl) (Nat.le_of_ble_eq_true rfl) (Nat.le_of_ble_eq_true rfl) dX0_ofGarden_13 ?_
      exact ⟨by unfold ogS; rw [if_neg (by ((try simp only [bI_0, bI_1, lc_lt, lc_gt, lc_le, lc_ge, Classical.not_not] at *); (try simp only [i_lt, i_le, i_eq, l_lt, l_le, l_eq, Int32.toInt_toInt64, Int32.reduceToInt, Int64.reduceToInt] at *); omega))], rfl, rfl, rfl⟩
def toS (I : Is) (w : Int32) : Int32 := if w.toInt < 0 then -1 else if w.toInt < 20 then genS I w else if w.toInt < 60 then ohS I (w / 10) (w - w / 10 * 10) else if w.toInt < 90 then ogS I (w / 10) (w - w / 10 * 10) else if w.toInt - 90 < (I 3 16).toInt then I 17 (w - 90).toNatClampNeg else -1
theorem k_X11_told {x : Int32} (h5 : (I 3 14).toInt ≤ 5) (h4 : (I 3 15).toInt ≤ 4) (l4 : (I 3 16).toInt ≤ 4) : Con sc mX11_told 1 0 0 [.ref 0, .int x] (XW I L tg) (rI (toS I x) (XW I L tg)) := by
  refine Con_of (by decide) (Nat.le_of_ble_eq_true rfl) ?_
  refine r_iload_n (j := 1) rfl rfl dX11_told_0 ?_
  refine r_if_ge (tgt := 6) dX11_told_1 (by decide) (fun c1 => ?_) (fun c1 => ?_)
  · refine r_iload_n (j := 1) rfl rfl dX11_told_6 ?_
    refine r_bipush (v := 20) rfl dX11_told_7 ?_
    refine r_icmp_ge (tgt := 21) dX11_told_9 (by decide) (fun c9 => ?_) (fun c9 => ?_)
    · refine r_iload_n (j := 1) rfl rfl dX11_told_21 ?_
      refine r_bipush (v := 60) rfl dX11_told_22 ?_
      refine r_icmp_ge (tgt := 43) dX11_told_24 (by decide) (fun c24 => ?_) (fun c24 => ?_)
      · refine r_iload_n (j := 1) rfl rfl dX11_told_43 ?_
        refine r_bipush (v := 90) rfl dX11_told_44 ?_
        refine r_icmp_ge (tgt := 65) dX11_told_46 (by decide) (fun c46 => ?_) (fun c46 => ?_)
        · have e9 : (x - 90).toInt = x.toInt - 90 := by have := (i_rng x).2; rw [i_sub] <;> (try simp only [Int32.reduceToInt]) <;> ((try simp only [bI_0, bI_1, lc_lt, lc_gt, lc_le, lc_ge, Classical.not_not] at *); (try simp only [i_lt, i_le, i_eq, l_lt, l_le, l_eq, Int32.toInt_toInt64, Int32.reduceToInt, Int64.reduceToInt] at *); omega)
          refine r_iload_n (j := 1) rfl rfl dX11_told_65 ?_
          refine r_bipush (v := 90) rfl dX11_told_66 ?_
          refine r_isub dX11_told_68 ?_
          refine r_aload_n (j := 0) rfl rfl dX11_told_69 ?_
          refine w_getR (b := 3) fX11_19 rfl rfl dX11_told_70 ?_
          refine w_getI fX11_133 rfl dX11_told_73 ?_
          refine r_icmp_ge (tgt := 94) dX11_told_76 (by decide) (fun c76 => ?_) (fun c76 => ?_)
          · refine r_iconst (v := (-1)) rfl dX11_told_94 ?_
            refine w_iret rfl (rfl) (Nat.le_of_ble_eq_true rfl) (Nat.le_of_ble_eq_true rfl) dX11_told_95 ?_
            exact ⟨by unfold toS; rw [if_neg (by ((try simp only [bI_0, bI_1, lc_lt, lc_gt, lc_le, lc_ge, Classical.not_not] at *); (try simp only [i_lt, i_le, i_eq, l_lt, l_le, l_eq, Int32.toInt_toInt64, Int32.reduceToInt, Int64.reduceToInt] at *); omega)), if_neg (by ((try simp only [bI_0, bI_1, lc_lt, lc_gt, lc_le, lc_ge, Classical.not_not] at *); (try simp only [i_lt, i_le, i_eq, l_lt, l_le, l_eq, Int32.toInt_toInt64, Int32.reduceToInt, Int64.reduceToInt] at *); omega)), if_neg (by ((try simp only [bI_0, bI_1, lc_lt, lc_gt, lc_le, lc_ge, Classical.not_not] at *); (try simp only [i_lt, i_le, i_eq, l_lt, l_le, l_eq, Int32.toInt_toInt64, Int32.reduceToInt, Int64.reduceToInt] at *); omega)), if_neg (by ((try simp only [bI_0, bI_1, lc_lt, lc_gt, lc_le, lc_ge, Classical.not_not] at *); (try simp only [i_lt, i_le, i_eq, l_lt, l_le, l_eq, Int32.toInt_toInt64, Int32.reduceToInt, Int64.reduceToInt] at *); omega))]; first | rw [if_pos (by ((try simp only [bI_0, bI_1, lc_lt, lc_gt, lc_le, lc_ge, Classical.not_not] at *); (try simp only [i_lt, i_le, i_eq, l_lt, l_le, l_eq, Int32.toInt_toInt64, Int32.reduceToInt, Int64.reduceToInt] at *); omega))] | rw [if_neg (by ((try simp only [bI_0, bI_1, lc_lt, lc_gt, lc_le, lc_ge, Classical.not_not] at *); (try simp only [i_lt, i_le, i_eq, l_lt, l_le, l_eq, Int32.toInt_toInt64, Int32.reduceToInt, Int64.reduceToInt] at *); omega))], rfl, rfl, rfl⟩
          · refine r_aload_n (j := 0) rfl rfl dX11_told_79 ?_
            refine w_getR (b := 3) fX11_19 rfl rfl dX11_told_80 ?_
            refine w_getR (b := 17) fX11_136 rfl rfl dX11_told_83 ?_
            refine r_iload_n (j := 1) rfl rfl dX11_told_86 ?_
            refine r_bipush (v := 90) rfl dX11_told_87 ?_
            refine r_isub dX11_told_89 ?_
            refine w_iald rfl (by first | assumption | (rw [vp_in_iff]; ((try simp only [bI_0, bI_1, lc_lt, lc_gt, lc_le, lc_ge, Classical.not_not] at *); (try simp only [i_lt, i_le, i_eq, l_lt, l_le, l_eq, Int32.toInt_toInt64, Int32.reduceToInt, Int64.reduceToInt] at *); omega))) dX11_told_90 ?_
            refine r_goto (tgt := 95) dX11_told_91 (by decide) ?_
            refine w_iret rfl (rfl) (Nat.le_of_ble_eq_true rfl) (Nat.le_of_ble_eq_true rfl) dX11_told_95 ?_
            exact ⟨by unfold toS; rw [if_neg (by ((try simp only [bI_0, bI_1, lc_lt, lc_gt, lc_le, lc_ge, Classical.not_not] at *); (try simp only [i_lt, i_le, i_eq, l_lt, l_le, l_eq, Int32.toInt_toInt64, Int32.reduceToInt, Int64.reduceToInt] at *); omega)), if_neg (by ((try simp only [bI_0, bI_1, lc_lt, lc_gt, lc_le, lc_ge, Classical.not_not] at *); (try simp only [i_lt, i_le, i_eq, l_lt, l_le, l_eq, Int32.toInt_toInt64, Int32.reduceToInt, Int64.reduceToInt] at *); omega)), if_neg (by ((try simp only [bI_0, bI_1, lc_lt, lc_gt, lc_le, lc_ge, Classical.not_not] at *); (try simp only [i_lt, i_le, i_eq, l_lt, l_le, l_eq, Int32.toInt_toInt64, Int32.reduceToInt, Int64.reduceToInt] at *); omega)), if_neg (by ((try simp only [bI_0, bI_1, lc_lt, lc_gt, lc_le, lc_ge, Classical.not_not] at *); (try simp only [i_lt, i_le, i_eq, l_lt, l_le, l_eq, Int32.toInt_toInt64, Int32.reduceToInt, Int64.reduceToInt] at *); omega))]; first | rw [if_pos (by ((try simp only [bI_0, bI_1, lc_lt, lc_gt, lc_le, lc_ge, Classical.not_not] at *); (try simp only [i_lt, i_le, i_eq, l_lt, l_le, l_eq, Int32.toInt_toInt64, Int32.reduceToInt, Int64.reduceToInt] at *); omega))] | rw [if_neg (by ((try simp only [bI_0, bI_1, lc_lt, lc_gt, lc_le, lc_ge, Classical.not_not] at *); (try simp only [i_lt, i_le, i_eq, l_lt, l_le, l_eq, Int32.toInt_toInt64, Int32.reduceToInt, Int64.reduceToInt] at *); omega))], rfl, rfl, rfl⟩
        · refine r_aload_n (j := 0) rfl rfl dX11_told_49 ?_
          refine w_getR (b := 3) fX11_19 rfl rfl dX11_told_50 ?_
          refine r_iload_n (j := 1) rfl rfl dX11_told_53 ?_
          refine r_bipush (v := 10) rfl dX11_told_54 ?_
          refine r_idiv (by first | assumption | decide) dX11_told_56 ?_
          refine r_iload_n (j := 1) rfl rfl dX11_told_57 ?_
          refine r_bipush (v := 10) rfl dX11_told_58 ?_
          refine r_irem (by first | assumption | decide) dX11_told_60 ?_
          refine w_cV2p (k_X0_ofGarden h4) (Nat.le_of_ble_eq_true rfl) lX11_130 vmX0_ofGarden rfl (Nat.le_of_ble_eq_true rfl) (Nat.le_of_ble_eq_true rfl) (Nat.le_of_ble_eq_true rfl) dX11_told_61 ?_
          refine w_iret rfl (rfl) (Nat.le_of_ble_eq_true rfl) (Nat.le_of_ble_eq_true rfl) dX11_told_64 ?_
          exact ⟨by unfold toS; rw [if_neg (by ((try simp only [bI_0, bI_1, lc_lt, lc_gt, lc_le, lc_ge, Classical.not_not] at *); (try simp only [i_lt, i_le, i_eq, l_lt, l_le, l_eq, Int32.toInt_toInt64, Int32.reduceToInt, Int64.reduceToInt] at *); omega)), if_neg (by ((try simp only [bI_0, bI_1, lc_lt, lc_gt, lc_le, lc_ge, Classical.not_not] at *); (try simp only [i_lt, i_le, i_eq, l_lt, l_le, l_eq, Int32.toInt_toInt64, Int32.reduceToInt, Int64.reduceToInt] at *); omega)), if_neg (by ((try simp only [bI_0, bI_1, lc_lt, lc_gt, lc_le, lc_ge, Classical.not_not] at *); (try simp only [i_lt, i_le, i_eq, l_lt, l_le, l_eq, Int32.toInt_toInt64, Int32.reduceToInt, Int64.reduceToInt] at *); omega)), if_pos (by ((try simp only [bI_0, bI_1, lc_lt, lc_gt, lc_le, lc_ge, Classical.not_not] at *); (try simp only [i_lt, i_le, i_eq, l_lt, l_le, l_eq, Int32.toInt_toInt64, Int32.reduceToInt, Int64.reduceToInt] at *); omega))], rfl, rfl, rfl⟩
      · refine r_aload_n (j := 0) rfl rfl dX11_told_27 ?_
        refine w_getR (b := 3) fX11_19 rfl rfl dX11_told_28 ?_
        refine r_iload_n (j := 1) rfl rfl dX11_told_31 ?_
        refine r_bipush (v := 10) rfl dX11_told_32 ?_
        refine r_idiv (by first | assumption | decide) dX11_told_34 ?_
        refine r_iload_n (j := 1) rfl rfl dX11_told_35 ?_
        refine r_bipush (v := 10) rfl dX11_told_36 ?_
        refine r_irem (by first | assumption | decide) dX11_told_38 ?_
        refine w_cV2p (k_X0_ofHut h5) (Nat.le_of_ble_eq_true rfl) lX11_126 vmX0_ofHut rfl (Nat.le_of_ble_eq_true rfl) (Nat.le_of_ble_eq_true rfl) (Nat.le_of_ble_eq_true rfl) dX11_told_39 ?_
        refine w_iret rfl (rfl) (Nat.le_of_ble_eq_true rfl) (Nat.le_of_ble_eq_true rfl) dX11_told_42 ?_
        exact ⟨by unfold toS; rw [if_neg (by ((try simp only [bI_0, bI_1, lc_lt, lc_gt, lc_le, lc_ge, Classical.not_not] at *); (try simp only [i_lt, i_le, i_eq, l_lt, l_le, l_eq, Int32.toInt_toInt64, Int32.reduceToInt, Int64.reduceToInt] at *); omega)), if_neg (by ((try simp only [bI_0, bI_1, lc_lt, lc_gt, lc_le, lc_ge, Classical.not_not] at *); (try simp only [i_lt, i_le, i_eq, l_lt, l_le, l_eq, Int32.toInt_toInt64, Int32.reduceToInt, Int64.reduceToInt] at *); omega)), if_pos (by ((try simp only [bI_0, bI_1, lc_lt, lc_gt, lc_le, lc_ge, Classical.not_not] at *); (try simp only [i_lt, i_le, i_eq, l_lt, l_le, l_eq, Int32.toInt_toInt64, Int32.reduceToInt, Int64.reduceToInt] at *); omega))], rfl, rfl, rfl⟩
    · refine r_aload_n (j := 0) rfl rfl dX11_told_12 ?_
      refine w_getR (b := 3) fX11_19 rfl rfl dX11_told_13 ?_
      refine r_iload_n (j := 1) rfl rfl dX11_told_16 ?_
      refine w_cV1p (k_X0_general) (Nat.le_of_ble_eq_true rfl) lX11_122 vmX0_general rfl (Nat.le_of_ble_eq_true rfl) (Nat.le_of_ble_eq_true rfl) (Nat.le_of_ble_eq_true rfl) dX11_told_17 ?_
      refine w_iret rfl (rfl) (Nat.le_of_ble_eq_true rfl) (Nat.le_of_ble_eq_true rfl) dX11_told_20 ?_
      exact ⟨by unfold toS; rw [if_neg (by ((try simp only [bI_0, bI_1, lc_lt, lc_gt, lc_le, lc_ge, Classical.not_not] at *); (try simp only [i_lt, i_le, i_eq, l_lt, l_le, l_eq, Int32.toInt_toInt64, Int32.reduceToInt, Int64.reduceToInt] at *); omega)), if_pos (by ((try simp only [bI_0, bI_1, lc_lt, lc_gt, lc_le, lc_ge, Classical.not_not] at *); (try simp only [i_lt, i_le, i_eq, l_lt, l_le, l_eq, Int32.toInt_toInt64, Int32.reduceToInt, Int64.reduceToInt] at *); omega))], rfl, rfl, rfl⟩
  · refine r_iconst (v := (-1)) rfl dX11_told_4 ?_
    refine w_iret rfl (rfl) (Nat.le_of_ble_eq_true rfl) (Nat.le_of_ble_eq_true rfl) dX11_told_5 ?_
    exact ⟨by unfold toS; rw [if_pos (by ((try simp only [bI_0, bI_1, lc_lt, lc_gt, lc_le, lc_ge, Classical.not_not] at *); (try simp only [i_lt, i_le, i_eq, l_lt, l_le, l_eq, Int32.toInt_toInt64, Int32.reduceToInt, Int64.reduceToInt] at *); omega))], rfl, rfl, rfl⟩
/-- what the guards meet from x on -/
def mtf (hx hm : Nat → Int32) (n : Nat) (x f s : Int32) : Int32 := sm (fun h => hm h * iMax 0 (iMin (x + f) (hx h + s) - iMax x (hx h - s) + 1)) n
theorem l_X0_metFrom {x f s : Int32} {N : Nat} (hN : (I 3 14).toInt = N) (h5 : N ≤ 5) : ∀ n i : Nat, i + n = N → ∀ a y : Int32, a = mtf (I 7) (I 9) i x f s → y.toInt = i → RR sc mX0_metFrom 1 0 0 (rI (mtf (I 7) (I 9) N x f s) (XW I L tg)) 0 0 6 [(5, .int y), (4, .int a), (0, .ref 3), (1, .int x), (2, .int f), (3, .int s)] [] (XW I L tg) := by
  intro n
  induction n with
  | zero =>
    intro i hi a y ea hx
    refine r_iload (j := 0) rfl dX0_metFrom_6 ?_
    refine r_aload_n (j := 2) rfl rfl dX0_metFrom_8 ?_
    refine w_getI fX0_74 rfl dX0_metFrom_9 ?_
    refine r_icmp_ge (tgt := 77) dX0_metFrom_12 (by decide) (fun c12 => ?_) (fun c12 => ?_)
    · refine r_iload (j := 1) rfl dX0_metFrom_77 ?_
      refine w_iret rfl (rfl) (Nat.le_of_ble_eq_true rfl) (Nat.le_of_ble_eq_true rfl) dX0_metFrom_79 ?_
      exact ⟨by rw [ea, show i = N by omega], rfl, rfl, rfl⟩
    · exfalso; ((try simp only [bI_0, bI_1, lc_lt, lc_gt, lc_le, lc_ge, Classical.not_not] at *); (try simp only [i_lt, i_le, i_eq, l_lt, l_le, l_eq, Int32.toInt_toInt64, Int32.reduceToInt, Int64.reduceToInt] at *); omega)
  | succ n ih =>
    intro i hi a y ea hx
    have cx := cl_of hx
    refine r_iload (j := 0) rfl dX0_metFrom_6 ?_
    refine r_aload_n (j := 2) rfl rfl dX0_metFrom_8 ?_
    refine w_getI fX0_74 rfl dX0_metFrom_9 ?_
    refine r_icmp_ge (tgt := 77) dX0_metFrom_12 (by decide) (fun c12 => ?_) (fun c12 => ?_)
    · exfalso; ((try simp only [bI_0, bI_1, lc_lt, lc_gt, lc_le, lc_ge, Classical.not_not] at *); (try simp only [i_lt, i_le, i_eq, l_lt, l_le, l_eq, Int32.toInt_toInt64, Int32.reduceToInt, Int64.reduceToInt] at *); omega)
    · refine r_iload_n (j := 3) rfl rfl dX0_metFrom_15 ?_
      refine r_aload_n (j := 2) rfl rfl dX0_metFrom_16 ?_
      refine w_getR (b := 7) fX0_26 rfl rfl dX0_metFrom_17 ?_
      refine r_iload (j := 0) rfl dX0_metFrom_20 ?_
      refine w_iald rfl (up_in hx (by omega)) dX0_metFrom_22 ?_
      refine r_iload_n (j := 5) rfl rfl dX0_metFrom_23 ?_
      refine r_isub dX0_metFrom_24 ?_
      refine r_mmax lmX0_91 (Nat.le_of_ble_eq_true rfl) (Nat.le_of_ble_eq_true rfl) (Nat.le_of_ble_eq_true rfl) (Nat.le_of_ble_eq_true rfl) dX0_metFrom_25 ?_
      refine r_istore (lv' := fun z => [(6, .int z), (5, .int y), (4, .int a), (0, .ref 3), (1, .int x), (2, .int f), (3, .int s)]) dX0_metFrom_28 (Nat.le_of_ble_eq_true rfl) (fun _ => rfl) (fun x6_28 ex6_28 => ?_)
      refine r_iload_n (j := 4) rfl rfl dX0_metFrom_30 ?_
      refine r_iload_n (j := 5) rfl rfl dX0_metFrom_31 ?_
      refine r_iadd dX0_metFrom_32 ?_
      refine r_aload_n (j := 3) rfl rfl dX0_metFrom_33 ?_
      refine w_getR (b := 7) fX0_26 rfl rfl dX0_metFrom_34 ?_
      refine r_iload (j := 1) rfl dX0_metFrom_37 ?_
      refine w_iald rfl (up_in hx (by omega)) dX0_metFrom_39 ?_
      refine r_iload_n (j := 6) rfl rfl dX0_metFrom_40 ?_
      refine r_iadd dX0_metFrom_41 ?_
      refine r_mmin lmX0_111 (Nat.le_of_ble_eq_true rfl) (Nat.le_of_ble_eq_true rfl) (Nat.le_of_ble_eq_true rfl) (Nat.le_of_ble_eq_true rfl) dX0_metFrom_42 ?_
      refine r_istore (lv' := fun z => [(7, .int z), (6, .int x6_28), (5, .int y), (4, .int a), (0, .ref 3), (1, .int x), (2, .int f), (3, .int s)]) dX0_metFrom_45 (Nat.le_of_ble_eq_true rfl) (fun _ => rfl) (fun x7_45 ex7_45 => ?_)
      refine r_iload (j := 3) rfl dX0_metFrom_47 ?_
      refine r_aload_n (j := 4) rfl rfl dX0_metFrom_49 ?_
      refine w_getR (b := 9) fX0_32 rfl rfl dX0_metFrom_50 ?_
      refine r_iload (j := 2) rfl dX0_metFrom_53 ?_
      refine w_iald rfl (up_in hx (by omega)) dX0_metFrom_55 ?_
      refine r_iconst (v := 0) rfl dX0_metFrom_56 ?_
      refine r_iload (j := 0) rfl dX0_metFrom_57 ?_
      refine r_iload (j := 1) rfl dX0_metFrom_59 ?_
      refine r_isub dX0_metFrom_61 ?_
      refine r_iconst (v := 1) rfl dX0_metFrom_62 ?_
      refine r_iadd dX0_metFrom_63 ?_
      refine r_mmax lmX0_91 (Nat.le_of_ble_eq_true rfl) (Nat.le_of_ble_eq_true rfl) (Nat.le_of_ble_eq_true rfl) (Nat.le_of_ble_eq_true rfl) dX0_metFrom_64 ?_
      refine r_imul dX0_metFrom_67 ?_
      refine r_iadd dX0_metFrom_68 ?_
      refine r_istore (lv' := fun z => [(4, .int z), (7, .int x7_45), (6, .int x6_28), (5, .int y), (0, .ref 3), (1, .int x), (2, .int f), (3, .int s)]) dX0_metFrom_69 (Nat.le_of_ble_eq_true rfl) (fun _ => rfl) (fun x4_69 ex4_69 => ?_)
      refine r_iinc (j := 3) (lv' := fun z => [(5, .int z), (4, .int x4_69), (7, .int x7_45), (6, .int x6_28), (0, .ref 3), (1, .int x), (2, .int f), (3, .int s)]) dX0_metFrom_71 rfl (Nat.le_of_ble_eq_true rfl) (fun _ => rfl) (fun x5_71 ex5_71 => ?_)
      refine r_goto (tgt := 6) dX0_metFrom_74 (by decide) ?_
      refine r_lvs [(5, .int x5_71), (4, .int x4_69), (0, .ref 3), (1, .int x), (2, .int f), (3, .int s)] [0, 1, 4, 5, 6, 7] rfl ?_
      exact ih (i + 1) (by omega) _ _ (by rw [ex4_69, ex7_45, ex6_28, cx, ea]; rfl) (by rw [ex5_71]; exact i_inc hx (by omega))
theorem k_X0_metFrom {x f s : Int32} (h0 : 0 ≤ (I 3 14).toInt) (h5 : (I 3 14).toInt ≤ 5) : Con sc mX0_metFrom 1 0 0 [.ref 3, .int x, .int f, .int s] (XW I L tg) (rI (mtf (I 7) (I 9) (nN (I 3 14)) x f s) (XW I L tg)) := by
  refine Con_of (by decide) (Nat.le_of_ble_eq_true rfl) ?_
  have hN := nN_of h0
  refine r_iconst (v := 0) rfl dX0_metFrom_0 ?_
  refine r_istore (lv' := fun z => [(4, .int z), (0, .ref 3), (1, .int x), (2, .int f), (3, .int s)]) dX0_metFrom_1 (Nat.le_of_ble_eq_true rfl) (fun _ => rfl) (fun x4_1 ex4_1 => ?_)
  refine r_iconst (v := 0) rfl dX0_metFrom_3 ?_
  refine r_istore (lv' := fun z => [(5, .int z), (4, .int x4_1), (0, .ref 3), (1, .int x), (2, .int f), (3, .int s)]) dX0_metFrom_4 (Nat.le_of_ble_eq_true rfl) (fun _ => rfl) (fun x5_4 ex5_4 => ?_)
  exact l_X0_metFrom hN (by omega) _ 0 (Nat.zero_add _) _ _ (by rw [ex4_1]; rfl) (by rw [ex5_4]; rfl)
theorem l_X0_bestCrossing {f s : Int32} {M : Nat} (h0 : 0 ≤ (I 3 14).toInt) (h5 : (I 3 14).toInt ≤ 5) (hM : (I 4 3 - f).toInt = M) (hM2 : M ≤ 1000) : ∀ n i : Nat, i + n = M + 1 → ∀ b c y : Int32, b = (amx (fun x => mtf (I 7) (I 9) (nN (I 3 14)) (nI x) f s) i).1 → c = (amx (fun x => mtf (I 7) (I 9) (nN (I 3 14)) (nI x) f s) i).2 → y.toInt = i → RR sc mX0_bestCrossing 2 0 0 (rI (amx (fun x => mtf (I 7) (I 9) (nN (I 3 14)) (nI x) f s) (M + 1)).1 (XW I L tg)) 0 0 18 [(6, .int y), (5, .int (I 4 3 - f)), (4, .int c), (3, .int b), (0, .ref 3), (1, .int f), (2, .int s)] [] (XW I L tg) := by
  intro n
  induction n with
  | zero =>
    intro i hi b c y eb ec hx
    refine r_iload (j := 0) rfl dX0_bestCrossing_18 ?_
    refine r_iload (j := 1) rfl dX0_bestCrossing_20 ?_
    refine r_icmp_gt (tgt := 55) dX0_bestCrossing_22 (by decide) (fun c22 => ?_) (fun c22 => ?_)
    · refine r_iload_n (j := 3) rfl rfl dX0_bestCrossing_55 ?_
      refine w_iret rfl (rfl) (Nat.le_of_ble_eq_true rfl) (Nat.le_of_ble_eq_true rfl) dX0_bestCrossing_56 ?_
      exact ⟨by rw [eb, show i = M + 1 by omega], rfl, rfl, rfl⟩
    · exfalso; ((try simp only [bI_0, bI_1, lc_lt, lc_gt, lc_le, lc_ge, Classical.not_not] at *); (try simp only [i_lt, i_le, i_eq, l_lt, l_le, l_eq, Int32.toInt_toInt64, Int32.reduceToInt, Int64.reduceToInt] at *); omega)
  | succ n ih =>
    intro i hi b c y eb ec hx
    obtain rfl := x_nI hx
    refine r_iload (j := 0) rfl dX0_bestCrossing_18 ?_
    refine r_iload (j := 1) rfl dX0_bestCrossing_20 ?_
    refine r_icmp_gt (tgt := 55) dX0_bestCrossing_22 (by decide) (fun c22 => ?_) (fun c22 => ?_)
    · exfalso; ((try simp only [bI_0, bI_1, lc_lt, lc_gt, lc_le, lc_ge, Classical.not_not] at *); (try simp only [i_lt, i_le, i_eq, l_lt, l_le, l_eq, Int32.toInt_toInt64, Int32.reduceToInt, Int64.reduceToInt] at *); omega)
    · refine r_aload_n (j := 4) rfl rfl dX0_bestCrossing_25 ?_
      refine r_iload (j := 0) rfl dX0_bestCrossing_26 ?_
      refine r_iload_n (j := 5) rfl rfl dX0_bestCrossing_28 ?_
      refine r_iload_n (j := 6) rfl rfl dX0_bestCrossing_29 ?_
      refine w_cV3p (k_X0_metFrom h0 h5) (Nat.le_of_ble_eq_true rfl) lX0_107 vmX0_metFrom rfl (Nat.le_of_ble_eq_true rfl) (Nat.le_of_ble_eq_true rfl) (Nat.le_of_ble_eq_true rfl) dX0_bestCrossing_30 ?_
      refine r_istore (lv' := fun z => [(7, .int z), (6, .int (nI i)), (5, .int (I 4 3 - f)), (4, .int c), (3, .int b), (0, .ref 3), (1, .int f), (2, .int s)]) dX0_bestCrossing_33 (Nat.le_of_ble_eq_true rfl) (fun _ => rfl) (fun x7_33 ex7_33 => ?_)
      refine r_iload (j := 0) rfl dX0_bestCrossing_35 ?_
      refine r_iload (j := 3) rfl dX0_bestCrossing_37 ?_
      refine r_icmp_le (tgt := 49) dX0_bestCrossing_39 (by decide) (fun c39 => ?_) (fun c39 => ?_)
      · refine r_iinc (j := 1) (lv' := fun z => [(6, .int z), (7, .int x7_33), (5, .int (I 4 3 - f)), (4, .int c), (3, .int b), (0, .ref 3), (1, .int f), (2, .int s)]) dX0_bestCrossing_49 rfl (Nat.le_of_ble_eq_true rfl) (fun _ => rfl) (fun x6_49 ex6_49 => ?_)
        refine r_goto (tgt := 18) dX0_bestCrossing_52 (by decide) ?_
        refine r_lvs [(6, .int x6_49), (5, .int (I 4 3 - f)), (4, .int c), (3, .int b), (0, .ref 3), (1, .int f), (2, .int s)] [0, 2, 3, 4, 5, 6, 7] rfl ?_
        rw [ex7_33, ec] at c39
        refine ih (i + 1) (by omega) _ _ _ (by rw [amx, if_neg (Int32.not_lt.mpr c39)]; exact eb) (by rw [amx, if_neg (Int32.not_lt.mpr c39)]; exact ec) (by rw [ex6_49]; exact i_inc hx (by omega))
      · refine r_iload (j := 1) rfl dX0_bestCrossing_42 ?_
        refine r_istore_n (lv' := fun z => [(3, .int z), (7, .int x7_33), (6, .int (nI i)), (5, .int (I 4 3 - f)), (4, .int c), (0, .ref 3), (1, .int f), (2, .int s)]) dX0_bestCrossing_44 rfl (Nat.le_of_ble_eq_true rfl) (fun _ => rfl) (fun x3_44 ex3_44 => ?_)
        refine r_iload (j := 1) rfl dX0_bestCrossing_45 ?_
        refine r_istore (lv' := fun z => [(4, .int z), (3, .int x3_44), (7, .int x7_33), (6, .int (nI i)), (5, .int (I 4 3 - f)), (0, .ref 3), (1, .int f), (2, .int s)]) dX0_bestCrossing_47 (Nat.le_of_ble_eq_true rfl) (fun _ => rfl) (fun x4_47 ex4_47 => ?_)
        refine r_iinc (j := 3) (lv' := fun z => [(6, .int z), (4, .int x4_47), (3, .int x3_44), (7, .int x7_33), (5, .int (I 4 3 - f)), (0, .ref 3), (1, .int f), (2, .int s)]) dX0_bestCrossing_49 rfl (Nat.le_of_ble_eq_true rfl) (fun _ => rfl) (fun x6_49 ex6_49 => ?_)
        refine r_goto (tgt := 18) dX0_bestCrossing_52 (by decide) ?_
        refine r_lvs [(6, .int x6_49), (5, .int (I 4 3 - f)), (4, .int x4_47), (3, .int x3_44), (0, .ref 3), (1, .int f), (2, .int s)] [0, 4, 1, 2, 5, 6, 7] rfl ?_
        rw [ex7_33, ec] at c39
        refine ih (i + 1) (by omega) _ _ _ (by rw [amx, if_pos (Int32.not_le.mp c39)]; exact ex3_44) (by rw [amx, if_pos (Int32.not_le.mp c39), ex4_47, ex7_33]) (by rw [ex6_49]; exact i_inc hx (by omega))
theorem k_X0_bestCrossing {f s : Int32} {M : Nat} (h0 : 0 ≤ (I 3 14).toInt) (h5 : (I 3 14).toInt ≤ 5) (hM : (I 4 3 - f).toInt = M) (hM2 : M ≤ 1000) : Con sc mX0_bestCrossing 2 0 0 [.ref 3, .int f, .int s] (XW I L tg) (rI (amx (fun x => mtf (I 7) (I 9) (nN (I 3 14)) (nI x) f s) (M + 1)).1 (XW I L tg)) := by
  refine Con_of (by decide) (Nat.le_of_ble_eq_true rfl) ?_
  refine r_iconst (v := 0) rfl dX0_bestCrossing_0 ?_
  refine r_istore_n (lv' := fun z => [(3, .int z), (0, .ref 3), (1, .int f), (2, .int s)]) dX0_bestCrossing_1 rfl (Nat.le_of_ble_eq_true rfl) (fun _ => rfl) (fun x3_1 ex3_1 => ?_)
  refine r_iconst (v := (-1)) rfl dX0_bestCrossing_2 ?_
  refine r_istore (lv' := fun z => [(4, .int z), (3, .int x3_1), (0, .ref 3), (1, .int f), (2, .int s)]) dX0_bestCrossing_3 (Nat.le_of_ble_eq_true rfl) (fun _ => rfl) (fun x4_3 ex4_3 => ?_)
  refine r_aload_n (j := 2) rfl rfl dX0_bestCrossing_5 ?_
  refine w_getR (b := 4) fX0_15 rfl rfl dX0_bestCrossing_6 ?_
  refine r_iconst (v := 3) rfl dX0_bestCrossing_9 ?_
  refine w_iald rfl (by first | assumption | (rw [vp_in_iff]; ((try simp only [bI_0, bI_1, lc_lt, lc_gt, lc_le, lc_ge, Classical.not_not] at *); (try simp only [i_lt, i_le, i_eq, l_lt, l_le, l_eq, Int32.toInt_toInt64, Int32.reduceToInt, Int64.reduceToInt] at *); omega))) dX0_bestCrossing_10 ?_
  refine r_iload_n (j := 3) rfl rfl dX0_bestCrossing_11 ?_
  refine r_isub dX0_bestCrossing_12 ?_
  refine r_istore (lv' := fun z => [(5, .int z), (4, .int x4_3), (3, .int x3_1), (0, .ref 3), (1, .int f), (2, .int s)]) dX0_bestCrossing_13 (Nat.le_of_ble_eq_true rfl) (fun _ => rfl) (fun x5_13 ex5_13 => ?_)
  refine r_iconst (v := 0) rfl dX0_bestCrossing_15 ?_
  refine r_istore (lv' := fun z => [(6, .int z), (5, .int x5_13), (4, .int x4_3), (3, .int x3_1), (0, .ref 3), (1, .int f), (2, .int s)]) dX0_bestCrossing_16 (Nat.le_of_ble_eq_true rfl) (fun _ => rfl) (fun x6_16 ex6_16 => ?_)
  replace ex5_13 : x5_13 = I 4 3 - f := ex5_13
  subst ex5_13
  exact l_X0_bestCrossing h0 h5 hM hM2 _ 0 (Nat.zero_add _) _ _ _ (by rw [ex3_1]; rfl) (by rw [ex4_3]; rfl) (by rw [ex6_16]; rfl)
def acC (I : Is) (f s w : Int32) : Prop := (0 ≤ f.toInt ∧ f.toInt ≤ (I 4 3).toInt) ∧ (0 ≤ s.toInt ∧ s.toInt ≤ 200) ∧ 0 ≤ w.toInt ∧ w.toInt ≤ 1
end Told
