/-! the component's camp -/
section
variable {sc : Sc} {I : Is} {L : Ls}
def sI (v : Int32) (X : Hp) : Po := (false, fun r Y => r = some (.int v) ∧ Y = X)
/-- all begins anew -/
def cz (I : Is) : Is := up (up (sclr (upr (up (up (clI I) 46 10 0) 55 10 0) 69 (fillr (I 69) 5 0))) 84 9 0) 92 3 0
theorem l_X11_camp2 {x1 x3 : Int32} (hx : x3 = 2) : RR sc mX11_camp 5 0 0 (sI (I 3 17) (XW (up (up (sclr (upr I 69 (fillr (I 69) 5 0))) 84 9 0) 92 3 0) L 3)) 0 0 53 [(3, .int x3), (1, .int x1), (0, .ref 0)] [] (XW I L 3) := by
  subst hx
  refine r_iload_n (j := 0) rfl rfl dX11_camp_53 ?_
  refine r_iconst (v := 2) rfl dX11_camp_54 ?_
  refine r_icmp_ge (tgt := 74) dX11_camp_55 (by decide) (fun c55 => ?_) (fun c55 => ?_)
  · refine r_aload_n (j := 2) rfl rfl dX11_camp_74 ?_
    refine w_getR (b := 68) fX11_56 rfl rfl dX11_camp_75 ?_
    refine w_cV0v (k_X2_clear) (Nat.le_of_ble_eq_true rfl) lX11_107 vmX2_clear rfl (Nat.le_of_ble_eq_true rfl) (Nat.le_of_ble_eq_true rfl) (Nat.le_of_ble_eq_true rfl) dX11_camp_78 (fun J78 K78 hJ78 hK78 => ?_)
    subst hK78
    refine r_aload_n (j := 2) rfl rfl dX11_camp_81 ?_
    refine w_getR (b := 75) fX11_70 rfl rfl dX11_camp_82 ?_
    refine w_cV0v (k_X9_clear) (Nat.le_of_ble_eq_true rfl) lX11_108 vmX9_clear rfl (Nat.le_of_ble_eq_true rfl) (Nat.le_of_ble_eq_true rfl) (Nat.le_of_ble_eq_true rfl) dX11_camp_85 (fun J85 K85 hJ85 hK85 => ?_)
    subst hK85
    refine r_aload_n (j := 2) rfl rfl dX11_camp_88 ?_
    refine w_getR (b := 84) fX11_77 rfl rfl dX11_camp_89 ?_
    refine w_cV0v (k_X7_forgetRow) (Nat.le_of_ble_eq_true rfl) lX11_109 vmX7_forgetRow rfl (Nat.le_of_ble_eq_true rfl) (Nat.le_of_ble_eq_true rfl) (Nat.le_of_ble_eq_true rfl) dX11_camp_92 (fun J92 K92 hJ92 hK92 => ?_)
    subst hK92
    refine r_aload_n (j := 2) rfl rfl dX11_camp_95 ?_
    refine w_getR (b := 92) fX11_84 rfl rfl dX11_camp_96 ?_
    refine w_cV0v (k_X6_clear) (Nat.le_of_ble_eq_true rfl) lX11_112 vmX6_clear rfl (Nat.le_of_ble_eq_true rfl) (Nat.le_of_ble_eq_true rfl) (Nat.le_of_ble_eq_true rfl) dX11_camp_99 (fun J99 K99 hJ99 hK99 => ?_)
    subst hK99
    refine r_aload_n (j := 2) rfl rfl dX11_camp_102 ?_
    refine w_getR (b := 3) fX11_19 rfl rfl dX11_camp_103 ?_
    refine w_getI fX11_113 rfl dX11_camp_106 ?_
    refine r_iret rfl rfl (Nat.zero_le _) (Nat.zero_le _) dX11_camp_109 ⟨?_, ?_⟩
    · rw [hJ99, hJ92, hJ85, hJ78]
      simp [sclr, up_eq, upr_eq]
    · rw [hJ99, hJ92, hJ85, hJ78]
  · exact absurd (by decide : (2 : Int32) ≤ 2) c55
theorem l_X11_camp1 {x1 x3 : Int32} (hx : x3 = 1) : RR sc mX11_camp 5 0 0 (sI (I 3 17) (XW (up (up (sclr (upr (up I 55 10 0) 69 (fillr (I 69) 5 0))) 84 9 0) 92 3 0) L 3)) 0 0 53 [(3, .int x3), (1, .int x1), (0, .ref 0)] [] (XW I L 3) := by
  subst hx
  refine r_iload_n (j := 0) rfl rfl dX11_camp_53 ?_
  refine r_iconst (v := 2) rfl dX11_camp_54 ?_
  refine r_icmp_ge (tgt := 74) dX11_camp_55 (by decide) (fun c55 => ?_) (fun c55 => ?_)
  · exact absurd c55 (by decide)
  · refine r_aload_n (j := 2) rfl rfl dX11_camp_58 ?_
    refine w_getR (b := 45) fX11_42 rfl rfl dX11_camp_59 ?_
    refine r_iload_n (j := 0) rfl rfl dX11_camp_62 ?_
    refine w_aald (b := 55) rfl (by rw [vp_in_iff]; decide) (rfl) dX11_camp_63 ?_
    refine r_iconst (v := 0) rfl dX11_camp_64 ?_
    refine w_putI fX11_103 rfl (rfl) (rfl) dX11_camp_65 (fun J65 hJ65 => ?_)
    refine r_iinc (j := 0) (lv' := fun z => [(3, .int z), (1, .int x1), (0, .ref 0)]) dX11_camp_68 rfl (Nat.le_of_ble_eq_true rfl) (fun _ => rfl) (fun x3_68 ex3_68 => ?_)
    refine r_goto (tgt := 53) dX11_camp_71 (by decide) ?_
    have q := l_X11_camp2 (sc := sc) (I := J65) (L := L) (x1 := x1) (x3 := x3_68) (by rw [ex3_68]; decide)
    have e1 : J65 3 = I 3 := by rw [hJ65]; simp [up_eq]
    have e2 : J65 69 = I 69 := by rw [hJ65]; simp [up_eq]
    rw [e1, e2] at q
    rw [hJ65] at q ⊢
    exact q
theorem l_X11_camp0 {x1 x3 : Int32} (hx : x3 = 0) : RR sc mX11_camp 5 0 0 (sI (I 3 17) (XW (up (up (sclr (upr (up (up I 46 10 0) 55 10 0) 69 (fillr (I 69) 5 0))) 84 9 0) 92 3 0) L 3)) 0 0 53 [(3, .int x3), (1, .int x1), (0, .ref 0)] [] (XW I L 3) := by
  subst hx
  refine r_iload_n (j := 0) rfl rfl dX11_camp_53 ?_
  refine r_iconst (v := 2) rfl dX11_camp_54 ?_
  refine r_icmp_ge (tgt := 74) dX11_camp_55 (by decide) (fun c55 => ?_) (fun c55 => ?_)
  · exact absurd c55 (by decide)
  · refine r_aload_n (j := 2) rfl rfl dX11_camp_58 ?_
    refine w_getR (b := 45) fX11_42 rfl rfl dX11_camp_59 ?_
    refine r_iload_n (j := 0) rfl rfl dX11_camp_62 ?_
    refine w_aald (b := 46) rfl (by rw [vp_in_iff]; decide) (rfl) dX11_camp_63 ?_
    refine r_iconst (v := 0) rfl dX11_camp_64 ?_
    refine w_putI fX11_103 rfl (rfl) (rfl) dX11_camp_65 (fun J65 hJ65 => ?_)
    refine r_iinc (j := 0) (lv' := fun z => [(3, .int z), (1, .int x1), (0, .ref 0)]) dX11_camp_68 rfl (Nat.le_of_ble_eq_true rfl) (fun _ => rfl) (fun x3_68 ex3_68 => ?_)
    refine r_goto (tgt := 53) dX11_camp_71 (by decide) ?_
    have q := l_X11_camp1 (sc := sc) (I := J65) (L := L) (x1 := x1) (x3 := x3_68) (by rw [ex3_68]; decide)
    have e1 : J65 3 = I 3 := by rw [hJ65]; simp [up_eq]
    have e2 : J65 69 = I 69 := by rw [hJ65]; simp [up_eq]
    rw [e1, e2] at q
    rw [hJ65] at q ⊢
    exact q
/-- what camp answers, what it leaves -/
def cmI (J : Is) : Is := fun b => up J 1 1 0 (swp b)
theorem k_X11_camp_t {tg N : Nat} (hN : I 1 1 = nI N) (h9 : N ≤ 900) (hb : ∀ j, j < N → 0 ≤ (I 2 j).toInt) (hr : ¬ (cM N 901 (rc0 I) L).1 = 0) : Con sc mX11_camp 5 0 0 [.ref 0] (XW I L tg) (sI ((cM N 901 (rc0 I) L).2.1 18 17) (XW (cz (cmI (cM N 901 (rc0 I) L).2.1)) (fun b => (cM N 901 (rc0 I) L).2.2 (swp b)) 3)) := by
  refine Con_of (by decide) (Nat.le_of_ble_eq_true rfl) ?_
  refine r_aload_n (j := 0) rfl rfl dX11_camp_0 ?_
  refine w_getR (b := 33) fX11_31 rfl rfl dX11_camp_1 ?_
  refine r_aload_n (j := 0) rfl rfl dX11_camp_4 ?_
  refine w_getR (b := 18) fX11_23 rfl rfl dX11_camp_5 ?_
  refine w_cV1s (k_X8_readCamp hN h9 hb) (Nat.le_of_ble_eq_true rfl) lX11_96 vmX8_readCamp rfl (Nat.le_of_ble_eq_true rfl) (Nat.le_of_ble_eq_true rfl) (Nat.le_of_ble_eq_true rfl) dX11_camp_8 (fun J8 K8 hJ8 hK8 => ?_)
  subst hK8
  refine r_istore_n (lv' := fun z => [(1, .int z), (0, .ref 0)]) dX11_camp_11 rfl (Nat.le_of_ble_eq_true rfl) (fun _ => rfl) (fun x1_11 ex1_11 => ?_)
  refine r_aload_n (j := 1) rfl rfl dX11_camp_12 ?_
  refine w_getR (b := 1) fX11_10 rfl rfl dX11_camp_13 ?_
  refine r_iconst (v := 0) rfl dX11_camp_16 ?_
  refine w_putI fX11_88 rfl (rfl) (rfl) dX11_camp_17 (fun J17 hJ17 => ?_)
  refine r_iload_n (j := 0) rfl rfl dX11_camp_20 ?_
  refine r_if_ne (tgt := 26) dX11_camp_21 (by decide) (fun c21 => ?_) (fun c21 => ?_)
  · generalize (cM N 901 (rc0 I) L).2.2 = M at *
    rw [← hJ8]
    clear hJ8
    refine r_aload_n (j := 1) rfl rfl dX11_camp_26 ?_
    refine w_getR (b := 3) fX11_19 rfl rfl dX11_camp_27 ?_
    refine w_astore_n (lv' := [(2, .ref 3), (1, .int x1_11), (0, .ref 0)]) dX11_camp_30 rfl (Nat.le_of_ble_eq_true rfl) rfl ?_
    refine r_aload_n (j := 2) rfl rfl dX11_camp_31 ?_
    refine r_aload_n (j := 2) rfl rfl dX11_camp_32 ?_
    refine w_getR (b := 18) fX11_23 rfl rfl dX11_camp_33 ?_
    refine r_putR fX11_19 rfl (SHW_lt (show SHW 0 = (11, 0) from rfl) (by omega)) (fun h => absurd h Bool.false_ne_true) (show 18 < NW by decide) (fun _ => rfl) (fun _ => rfl) dX11_camp_36 ?_
    refine r_aload_n (j := 2) rfl rfl dX11_camp_39 ?_
    refine r_aload_n (j := 0) rfl rfl dX11_camp_40 ?_
    refine r_putR fX11_23 rfl (SHW_lt (show SHW 0 = (11, 0) from rfl) (by omega)) (fun h => absurd h Bool.false_ne_true) (show 3 < NW by decide) (fun _ => rfl) (fun _ => rfl) dX11_camp_41 ?_
    refine r_lvs [(1, .int x1_11), (0, .ref 0)] [1, 2] rfl ?_
    refine r_ren ?_ rfl rfl rfl ?_
    · intro a f b hb'
      have hb' : up (up (PWf 18) 0 2 (some 18)) 0 3 (some 3) a f = some b := hb'
      by_cases a0 : a = 0
      · subst a0
        rw [up_s] at hb'
        by_cases f3 : f = 3
        · rw [f3, vu_s] at hb'; cases hb'; decide
        · rw [vu_n _ _ f3, up_s] at hb'
          by_cases f2 : f = 2
          · rw [f2, vu_s] at hb'; cases hb'; decide
          · rw [vu_n _ _ f2] at hb'; exact PWf_lt (by decide) _ _ _ hb'
      · rw [up_n _ _ _ a0, up_n _ _ _ a0] at hb'; exact PWf_lt (by decide) _ _ _ hb'
    · show RR sc mX11_camp 5 0 0 _ 0 0 44 [(1, .int x1_11), (0, .ref 0)] [] (NW, SHW, fun b => J17 (swp b), fun b => M (swp b), sw2 (up (up (PWf 18) 0 2 (some 18)) 0 3 (some 3)))
      rw [sw_now]
      generalize hJ : (fun b => J17 (swp b)) = J
      generalize (fun b => M (swp b)) = M'
      refine r_aload_n (j := 1) rfl rfl dX11_camp_44 ?_
      refine w_getR (b := 36) fX11_38 rfl rfl dX11_camp_45 ?_
      refine w_cV0v (k_X3_clear) (Nat.le_of_ble_eq_true rfl) lX11_100 vmX3_clear rfl (Nat.le_of_ble_eq_true rfl) (Nat.le_of_ble_eq_true rfl) (Nat.le_of_ble_eq_true rfl) dX11_camp_48 (fun J48 K48 hJ48 hK48 => ?_)
      subst hK48
      refine r_iconst (v := 0) rfl dX11_camp_51 ?_
      refine r_istore_n (lv' := fun z => [(3, .int z), (1, .int x1_11), (0, .ref 0)]) dX11_camp_52 rfl (Nat.le_of_ble_eq_true rfl) (fun _ => rfl) (fun x3_52 ex3_52 => ?_)
      have q := l_X11_camp0 (sc := sc) (I := J48) (L := K48) (x1 := x1_11) (x3 := x3_52) ex3_52
      have e1 : J48 3 17 = J8 18 17 := by rw [hJ48, ← hJ, hJ17]; simp [clI, up_eq, upr_eq, swp]
      have e2 : J48 69 = J 69 := by rw [hJ48]; simp [clI, up_eq, upr_eq]
      have e3 : cmI J8 = J := by rw [← hJ, hJ17]; rfl
      rw [e1, e2, hJ48] at q
      rw [hJ48, e3]
      exact q
  · exact absurd (by rw [← ex1_11]; exact c21) hr
theorem k_X11_camp_f {tg N : Nat} (hN : I 1 1 = nI N) (h9 : N ≤ 900) (hb : ∀ j, j < N → 0 ≤ (I 2 j).toInt) (hr : (cM N 901 (rc0 I) L).1 = 0) : Con sc mX11_camp 5 0 0 [.ref 0] (XW I L tg) (sI (-1) (XW (up (cM N 901 (rc0 I) L).2.1 1 1 0) (cM N 901 (rc0 I) L).2.2 18)) := by
  refine Con_of (by decide) (Nat.le_of_ble_eq_true rfl) ?_
  refine r_aload_n (j := 0) rfl rfl dX11_camp_0 ?_
  refine w_getR (b := 33) fX11_31 rfl rfl dX11_camp_1 ?_
  refine r_aload_n (j := 0) rfl rfl dX11_camp_4 ?_
  refine w_getR (b := 18) fX11_23 rfl rfl dX11_camp_5 ?_
  refine w_cV1s (k_X8_readCamp hN h9 hb) (Nat.le_of_ble_eq_true rfl) lX11_96 vmX8_readCamp rfl (Nat.le_of_ble_eq_true rfl) (Nat.le_of_ble_eq_true rfl) (Nat.le_of_ble_eq_true rfl) dX11_camp_8 (fun J8 K8 hJ8 hK8 => ?_)
  subst hK8
  refine r_istore_n (lv' := fun z => [(1, .int z), (0, .ref 0)]) dX11_camp_11 rfl (Nat.le_of_ble_eq_true rfl) (fun _ => rfl) (fun x1_11 ex1_11 => ?_)
  refine r_aload_n (j := 1) rfl rfl dX11_camp_12 ?_
  refine w_getR (b := 1) fX11_10 rfl rfl dX11_camp_13 ?_
  refine r_iconst (v := 0) rfl dX11_camp_16 ?_
  refine w_putI fX11_88 rfl (rfl) (rfl) dX11_camp_17 (fun J17 hJ17 => ?_)
  refine r_iload_n (j := 0) rfl rfl dX11_camp_20 ?_
  refine r_if_ne (tgt := 26) dX11_camp_21 (by decide) (fun c21 => ?_) (fun c21 => ?_)
  · exact absurd hr (by rw [← ex1_11]; exact c21)
  · refine r_iconst (v := (-1)) rfl dX11_camp_24 ?_
    exact r_iret rfl rfl (Nat.zero_le _) (Nat.zero_le _) dX11_camp_25 ⟨rfl, by rw [hJ17, hJ8]⟩
end
