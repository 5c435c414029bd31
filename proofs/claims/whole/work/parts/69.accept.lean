/-! the component's reader: what a TOKEN does to a clause -/
section
variable {sc : Sc} {I : Is} {L : Ls}
def stO (k : Int32) : Int32 := if k = 5 then 12 else k - 6 + 3
theorem k_X8_settingOf {tg : Nat} {k : Int32} : Con sc mX8_settingOf 0 0 0 [.int k] (XW I L tg) (rI (stO k) (XW I L tg)) := by
  refine Con_of (by decide) (Nat.le_of_ble_eq_true rfl) ?_
  refine r_iload_n (j := 0) rfl rfl dX8_settingOf_0 ?_
  refine r_iconst (v := 5) rfl dX8_settingOf_1 ?_
  refine r_icmp_ne (tgt := 10) dX8_settingOf_2 (by decide) (fun c2 => ?_) (fun c2 => ?_)
  · refine r_iload_n (j := 0) rfl rfl dX8_settingOf_10 ?_
    refine r_bipush (v := 6) rfl dX8_settingOf_11 ?_
    refine r_isub dX8_settingOf_13 ?_
    refine r_iconst (v := 3) rfl dX8_settingOf_14 ?_
    refine r_iadd dX8_settingOf_15 ?_
    refine w_iret rfl (rfl) (Nat.le_of_ble_eq_true rfl) (Nat.le_of_ble_eq_true rfl) dX8_settingOf_16 ?_
    exact ⟨by unfold stO; rw [if_neg c2], rfl, rfl, rfl⟩
  · refine r_bipush (v := 12) rfl dX8_settingOf_5 ?_
    refine r_goto (tgt := 16) dX8_settingOf_7 (by decide) ?_
    refine w_iret rfl (rfl) (Nat.le_of_ble_eq_true rfl) (Nat.le_of_ble_eq_true rfl) dX8_settingOf_16 ?_
    exact ⟨by unfold stO; rw [if_pos c2], rfl, rfl, rfl⟩
abbrev rmC (I : Is) (f : Int32) : Prop := (f = 0 → (I 18 14).toInt < 5) ∧ (f = 1 → (I 18 15).toInt < 4) ∧ (f = 4 → (I 18 16).toInt < 4)
theorem k_X8_hasRoom : Con sc mX8_hasRoom 0 0 0 [.ref 33] (XW I L 18) (rI (bI (rmC I (I 33 12))) (XW I L 18)) := by
  refine Con_of (by decide) (Nat.le_of_ble_eq_true rfl) ?_
  have hk : ∀ x : Int32, (x = 0 ↔ x.toInt = 0) ∧ (x = 1 ↔ x.toInt = 1) ∧ (x = 4 ↔ x.toInt = 4) := fun x => ⟨Int32.toInt_inj.symm, Int32.toInt_inj.symm, Int32.toInt_inj.symm⟩
  obtain ⟨h0, h1, h4⟩ := hk (I 33 12)
  refine r_aload_n (j := 0) rfl rfl dX8_hasRoom_0 ?_
  refine w_getI fX8_71 rfl dX8_hasRoom_1 ?_
  refine w_tab (tgtD := 91) dX8_hasRoom_4 (by decide) (fun c4 => ?_) (fun i c4 l4 => ?_)
  · refine r_iconst (v := 1) rfl dX8_hasRoom_91 ?_
    refine w_iret rfl (rfl) (Nat.le_of_ble_eq_true rfl) (Nat.le_of_ble_eq_true rfl) dX8_hasRoom_92 ?_
    exact ⟨(bI_t (by unfold rmC; rw [h0, h1, h4]; ((try simp only [bI_0, bI_1, lc_lt, lc_gt, lc_le, lc_ge, Classical.not_not] at *); (try simp only [i_lt, i_le, i_eq, l_lt, l_le, l_eq, Int32.toInt_toInt64, Int32.reduceToInt, Int64.reduceToInt] at *); omega))).symm, rfl, rfl, rfl⟩
  · rcases (show i = 0 ∨ i = 1 ∨ i = 2 ∨ i = 3 ∨ i = 4 by omega) with rfl | rfl | rfl | rfl | rfl
    · refine ⟨36, 40, rfl, by decide, ?_⟩
      refine r_aload_n (j := 0) rfl rfl dX8_hasRoom_40 ?_
      refine w_getR (b := 18) fX8_30 rfl rfl dX8_hasRoom_41 ?_
      refine w_getI fX8_144 rfl dX8_hasRoom_44 ?_
      refine r_iconst (v := 5) rfl dX8_hasRoom_47 ?_
      refine r_icmp_ge (tgt := 55) dX8_hasRoom_48 (by decide) (fun c48 => ?_) (fun c48 => ?_)
      · refine r_iconst (v := 0) rfl dX8_hasRoom_55 ?_
        refine w_iret rfl (rfl) (Nat.le_of_ble_eq_true rfl) (Nat.le_of_ble_eq_true rfl) dX8_hasRoom_56 ?_
        exact ⟨by first | exact (bI_t (by unfold rmC; rw [h0, h1, h4]; ((try simp only [bI_0, bI_1, lc_lt, lc_gt, lc_le, lc_ge, Classical.not_not] at *); (try simp only [i_lt, i_le, i_eq, l_lt, l_le, l_eq, Int32.toInt_toInt64, Int32.reduceToInt, Int64.reduceToInt] at *); omega))).symm | exact (bI_f (by unfold rmC; rw [h0, h1, h4]; ((try simp only [bI_0, bI_1, lc_lt, lc_gt, lc_le, lc_ge, Classical.not_not] at *); (try simp only [i_lt, i_le, i_eq, l_lt, l_le, l_eq, Int32.toInt_toInt64, Int32.reduceToInt, Int64.reduceToInt] at *); omega))).symm, rfl, rfl, rfl⟩
      · refine r_iconst (v := 1) rfl dX8_hasRoom_51 ?_
        refine r_goto (tgt := 56) dX8_hasRoom_52 (by decide) ?_
        refine w_iret rfl (rfl) (Nat.le_of_ble_eq_true rfl) (Nat.le_of_ble_eq_true rfl) dX8_hasRoom_56 ?_
        exact ⟨by first | exact (bI_t (by unfold rmC; rw [h0, h1, h4]; ((try simp only [bI_0, bI_1, lc_lt, lc_gt, lc_le, lc_ge, Classical.not_not] at *); (try simp only [i_lt, i_le, i_eq, l_lt, l_le, l_eq, Int32.toInt_toInt64, Int32.reduceToInt, Int64.reduceToInt] at *); omega))).symm | exact (bI_f (by unfold rmC; rw [h0, h1, h4]; ((try simp only [bI_0, bI_1, lc_lt, lc_gt, lc_le, lc_ge, Classical.not_not] at *); (try simp only [i_lt, i_le, i_eq, l_lt, l_le, l_eq, Int32.toInt_toInt64, Int32.reduceToInt, Int64.reduceToInt] at *); omega))).symm, rfl, rfl, rfl⟩
    · refine ⟨53, 57, rfl, by decide, ?_⟩
      refine r_aload_n (j := 0) rfl rfl dX8_hasRoom_57 ?_
      refine w_getR (b := 18) fX8_30 rfl rfl dX8_hasRoom_58 ?_
      refine w_getI fX8_147 rfl dX8_hasRoom_61 ?_
      refine r_iconst (v := 4) rfl dX8_hasRoom_64 ?_
      refine r_icmp_ge (tgt := 72) dX8_hasRoom_65 (by decide) (fun c65 => ?_) (fun c65 => ?_)
      · refine r_iconst (v := 0) rfl dX8_hasRoom_72 ?_
        refine w_iret rfl (rfl) (Nat.le_of_ble_eq_true rfl) (Nat.le_of_ble_eq_true rfl) dX8_hasRoom_73 ?_
        exact ⟨by first | exact (bI_t (by unfold rmC; rw [h0, h1, h4]; ((try simp only [bI_0, bI_1, lc_lt, lc_gt, lc_le, lc_ge, Classical.not_not] at *); (try simp only [i_lt, i_le, i_eq, l_lt, l_le, l_eq, Int32.toInt_toInt64, Int32.reduceToInt, Int64.reduceToInt] at *); omega))).symm | exact (bI_f (by unfold rmC; rw [h0, h1, h4]; ((try simp only [bI_0, bI_1, lc_lt, lc_gt, lc_le, lc_ge, Classical.not_not] at *); (try simp only [i_lt, i_le, i_eq, l_lt, l_le, l_eq, Int32.toInt_toInt64, Int32.reduceToInt, Int64.reduceToInt] at *); omega))).symm, rfl, rfl, rfl⟩
      · refine r_iconst (v := 1) rfl dX8_hasRoom_68 ?_
        refine r_goto (tgt := 73) dX8_hasRoom_69 (by decide) ?_
        refine w_iret rfl (rfl) (Nat.le_of_ble_eq_true rfl) (Nat.le_of_ble_eq_true rfl) dX8_hasRoom_73 ?_
        exact ⟨by first | exact (bI_t (by unfold rmC; rw [h0, h1, h4]; ((try simp only [bI_0, bI_1, lc_lt, lc_gt, lc_le, lc_ge, Classical.not_not] at *); (try simp only [i_lt, i_le, i_eq, l_lt, l_le, l_eq, Int32.toInt_toInt64, Int32.reduceToInt, Int64.reduceToInt] at *); omega))).symm | exact (bI_f (by unfold rmC; rw [h0, h1, h4]; ((try simp only [bI_0, bI_1, lc_lt, lc_gt, lc_le, lc_ge, Classical.not_not] at *); (try simp only [i_lt, i_le, i_eq, l_lt, l_le, l_eq, Int32.toInt_toInt64, Int32.reduceToInt, Int64.reduceToInt] at *); omega))).symm, rfl, rfl, rfl⟩
    · refine ⟨87, 91, rfl, by decide, ?_⟩
      refine r_iconst (v := 1) rfl dX8_hasRoom_91 ?_
      refine w_iret rfl (rfl) (Nat.le_of_ble_eq_true rfl) (Nat.le_of_ble_eq_true rfl) dX8_hasRoom_92 ?_
      exact ⟨(bI_t (by unfold rmC; rw [h0, h1, h4]; ((try simp only [bI_0, bI_1, lc_lt, lc_gt, lc_le, lc_ge, Classical.not_not] at *); (try simp only [i_lt, i_le, i_eq, l_lt, l_le, l_eq, Int32.toInt_toInt64, Int32.reduceToInt, Int64.reduceToInt] at *); omega))).symm, rfl, rfl, rfl⟩
    · refine ⟨87, 91, rfl, by decide, ?_⟩
      refine r_iconst (v := 1) rfl dX8_hasRoom_91 ?_
      refine w_iret rfl (rfl) (Nat.le_of_ble_eq_true rfl) (Nat.le_of_ble_eq_true rfl) dX8_hasRoom_92 ?_
      exact ⟨(bI_t (by unfold rmC; rw [h0, h1, h4]; ((try simp only [bI_0, bI_1, lc_lt, lc_gt, lc_le, lc_ge, Classical.not_not] at *); (try simp only [i_lt, i_le, i_eq, l_lt, l_le, l_eq, Int32.toInt_toInt64, Int32.reduceToInt, Int64.reduceToInt] at *); omega))).symm, rfl, rfl, rfl⟩
    · refine ⟨70, 74, rfl, by decide, ?_⟩
      refine r_aload_n (j := 0) rfl rfl dX8_hasRoom_74 ?_
      refine w_getR (b := 18) fX8_30 rfl rfl dX8_hasRoom_75 ?_
      refine w_getI fX8_150 rfl dX8_hasRoom_78 ?_
      refine r_iconst (v := 4) rfl dX8_hasRoom_81 ?_
      refine r_icmp_ge (tgt := 89) dX8_hasRoom_82 (by decide) (fun c82 => ?_) (fun c82 => ?_)
      · refine r_iconst (v := 0) rfl dX8_hasRoom_89 ?_
        refine w_iret rfl (rfl) (Nat.le_of_ble_eq_true rfl) (Nat.le_of_ble_eq_true rfl) dX8_hasRoom_90 ?_
        exact ⟨by first | exact (bI_t (by unfold rmC; rw [h0, h1, h4]; ((try simp only [bI_0, bI_1, lc_lt, lc_gt, lc_le, lc_ge, Classical.not_not] at *); (try simp only [i_lt, i_le, i_eq, l_lt, l_le, l_eq, Int32.toInt_toInt64, Int32.reduceToInt, Int64.reduceToInt] at *); omega))).symm | exact (bI_f (by unfold rmC; rw [h0, h1, h4]; ((try simp only [bI_0, bI_1, lc_lt, lc_gt, lc_le, lc_ge, Classical.not_not] at *); (try simp only [i_lt, i_le, i_eq, l_lt, l_le, l_eq, Int32.toInt_toInt64, Int32.reduceToInt, Int64.reduceToInt] at *); omega))).symm, rfl, rfl, rfl⟩
      · refine r_iconst (v := 1) rfl dX8_hasRoom_85 ?_
        refine r_goto (tgt := 90) dX8_hasRoom_86 (by decide) ?_
        refine w_iret rfl (rfl) (Nat.le_of_ble_eq_true rfl) (Nat.le_of_ble_eq_true rfl) dX8_hasRoom_90 ?_
        exact ⟨by first | exact (bI_t (by unfold rmC; rw [h0, h1, h4]; ((try simp only [bI_0, bI_1, lc_lt, lc_gt, lc_le, lc_ge, Classical.not_not] at *); (try simp only [i_lt, i_le, i_eq, l_lt, l_le, l_eq, Int32.toInt_toInt64, Int32.reduceToInt, Int64.reduceToInt] at *); omega))).symm | exact (bI_f (by unfold rmC; rw [h0, h1, h4]; ((try simp only [bI_0, bI_1, lc_lt, lc_gt, lc_le, lc_ge, Classical.not_not] at *); (try simp only [i_lt, i_le, i_eq, l_lt, l_le, l_eq, Int32.toInt_toInt64, Int32.reduceToInt, Int64.reduceToInt] at *); omega))).symm, rfl, rfl, rfl⟩
/-- a keyword -/
def kwF (I : Is) (L : Ls) : Int32 := if I 33 7 = 1 then ixN (L 34) (L 33 9) 15 0 else -1
def akR (I : Is) (f : Int32) : Int32 := if f = -1 then 1 else if 5 ≤ f.toInt ∧ ¬ I 20 (stO f).toNatClampNeg = 0 then 3 else if rmC I f then 0 else 4
def akI (I : Is) (f : Int32) : Is := if f = -1 then I else up (up I 33 12 f) 33 11 1
theorem kwF_r : kwF I L = -1 ∨ ∃ k, k < 15 ∧ kwF I L = nI k ∧ L 34 k = L 33 9 ∧ I 33 7 = 1 := by
  unfold kwF
  split
  · rename_i h
    rcases ixN_r (L 34) (L 33 9) 15 0 with h | ⟨j, h1, h2, h3, h4⟩
    · exact Or.inl h
    · exact Or.inr ⟨j, by omega, h3, h4, h⟩
  · exact Or.inl rfl
theorem stO_r {f : Int32} (h5 : 5 ≤ f.toInt) (h : f.toInt < 15) : 0 ≤ (stO f).toInt ∧ (stO f).toInt < 14 := by
  unfold stO
  split
  · decide
  · rename_i h0
    have : ¬ f.toInt = 5 := fun z => h0 (Int32.toInt_inj.mp (by rw [z]; rfl))
    have e1 : (f - 6).toInt = f.toInt - 6 := i_sub (b := 6) (by simp only [Int32.reduceToInt]; omega) (by simp only [Int32.reduceToInt]; omega)
    have e2 : (f - 6 + 3).toInt = f.toInt - 6 + 3 := by rw [i_add] <;> rw [e1] <;> simp only [Int32.reduceToInt] <;> omega
    rw [e2]
    omega
theorem k_X8_acceptKeyword : Con sc mX8_acceptKeyword 1 0 0 [.ref 33] (XW I L 18) (rI (akR I (kwF I L)) (XW (akI I (kwF I L)) L 18)) := by
  refine Con_of (by decide) (Nat.le_of_ble_eq_true rfl) ?_
  have go : ∀ x : Int32, x = kwF I L → RR sc mX8_acceptKeyword 1 0 0 (rI (akR I (kwF I L)) (XW (akI I (kwF I L)) L 18)) 0 0 29 [(1, .int x), (0, .ref 33)] [] (XW I L 18) := by
    intro x ex
    rw [← ex]
    have hr := kwF_r (I := I) (L := L)
    rw [← ex] at hr
    have hx : ¬ x = -1 → 0 ≤ x.toInt ∧ x.toInt < 15 := by
      intro h
      rcases hr with z | ⟨k, hk, z, _⟩
      · exact absurd z h
      · rw [z, nI_toInt (by omega)]; omega
    clear hr ex
    refine r_iload_n (j := 0) rfl rfl dX8_acceptKeyword_29 ?_
    refine r_iconst (v := (-1)) rfl dX8_acceptKeyword_30 ?_
    refine r_icmp_ne (tgt := 36) dX8_acceptKeyword_31 (by decide) (fun c31 => ?_) (fun c31 => ?_)
    · refine r_aload_n (j := 1) rfl rfl dX8_acceptKeyword_36 ?_
      refine r_iload_n (j := 0) rfl rfl dX8_acceptKeyword_37 ?_
      refine w_putI fX8_71 rfl (rfl) (rfl) dX8_acceptKeyword_38 (fun J38 hJ38 => ?_)
      refine r_aload_n (j := 1) rfl rfl dX8_acceptKeyword_41 ?_
      refine r_iconst (v := 1) rfl dX8_acceptKeyword_42 ?_
      refine w_putI fX8_68 rfl (rfl) (rfl) dX8_acceptKeyword_43 (fun J43 hJ43 => ?_)
      obtain ⟨x0, x15⟩ := hx c31
      have k12 : J43 33 12 = x := by rw [hJ43, hJ38]; simp [up_eq, vu_eq]
      have k20 : J43 20 = I 20 := by rw [hJ43, hJ38]; simp [up_eq]
      have k18 : J43 18 = I 18 := by rw [hJ43, hJ38]; simp [up_eq]
      have eJ : akI I x = J43 := by unfold akI; rw [if_neg c31, hJ43, hJ38]
      have er : akR I x = if 5 ≤ x.toInt ∧ ¬ I 20 (stO x).toNatClampNeg = 0 then 3 else if rmC I x then 0 else 4 := by unfold akR; rw [if_neg c31]
      have em : rmC J43 (J43 33 12) ↔ rmC I x := by unfold rmC; rw [k12, k18]
      have lst : ¬ (5 ≤ x.toInt ∧ ¬ I 20 (stO x).toNatClampNeg = 0) → RR sc mX8_acceptKeyword 1 0 0 (rI (akR I x) (XW (akI I x) L 18)) 0 0 73 [(1, .int x), (0, .ref 33)] [] (XW J43 L 18) := by
        intro hn
        rw [eJ, er, if_neg hn]
        refine r_aload_n (j := 1) rfl rfl dX8_acceptKeyword_73 ?_
        refine w_cV0p (k_X8_hasRoom) (Nat.le_of_ble_eq_true rfl) lX8_140 vmX8_hasRoom rfl (Nat.le_of_ble_eq_true rfl) (Nat.le_of_ble_eq_true rfl) (Nat.le_of_ble_eq_true rfl) dX8_acceptKeyword_74 ?_
        rw [bI_cg em]
        refine r_if_eq (tgt := 84) dX8_acceptKeyword_77 (by decide) (fun c77 => ?_) (fun c77 => ?_)
        · refine r_iconst (v := 4) rfl dX8_acceptKeyword_84 ?_
          refine w_iret rfl (rfl) (Nat.le_of_ble_eq_true rfl) (Nat.le_of_ble_eq_true rfl) dX8_acceptKeyword_85 ?_
          exact ⟨by rw [if_neg (bI_0.mp c77)], rfl, rfl, rfl⟩
        · refine r_iconst (v := 0) rfl dX8_acceptKeyword_80 ?_
          refine r_goto (tgt := 85) dX8_acceptKeyword_81 (by decide) ?_
          refine w_iret rfl (rfl) (Nat.le_of_ble_eq_true rfl) (Nat.le_of_ble_eq_true rfl) dX8_acceptKeyword_85 ?_
          exact ⟨by rw [if_pos (bI_1.mp c77)], rfl, rfl, rfl⟩
      rw [eJ] at lst ⊢
      refine r_aload_n (j := 1) rfl rfl dX8_acceptKeyword_46 ?_
      refine w_getI fX8_71 rfl dX8_acceptKeyword_47 ?_
      refine r_iconst (v := 5) rfl dX8_acceptKeyword_50 ?_
      refine r_icmp_lt (tgt := 73) dX8_acceptKeyword_51 (by decide) (fun c51 => ?_) (fun c51 => ?_)
      · rw [k12] at c51; exact lst (by have c51 : x < 5 := c51; ((try simp only [bI_0, bI_1, lc_lt, lc_gt, lc_le, lc_ge, Classical.not_not] at *); (try simp only [i_lt, i_le, i_eq, l_lt, l_le, l_eq, Int32.toInt_toInt64, Int32.reduceToInt, Int64.reduceToInt] at *); omega))
      · refine r_aload_n (j := 1) rfl rfl dX8_acceptKeyword_54 ?_
        refine w_getR (b := 18) fX8_30 rfl rfl dX8_acceptKeyword_55 ?_
        refine r_aload_n (j := 1) rfl rfl dX8_acceptKeyword_58 ?_
        refine w_getI fX8_71 rfl dX8_acceptKeyword_59 ?_
        refine w_cS1p (k_X8_settingOf) (Nat.le_of_ble_eq_true rfl) lX8_134 mtX8_settingOf (Nat.le_of_ble_eq_true rfl) (Nat.le_of_ble_eq_true rfl) (Nat.le_of_ble_eq_true rfl) dX8_acceptKeyword_62 ?_
        refine w_cV1p (k_X0_wasSet (by rw [k12]; rw [k12] at c51; exact (stO_r (by ((try simp only [bI_0, bI_1, lc_lt, lc_gt, lc_le, lc_ge, Classical.not_not] at *); (try simp only [i_lt, i_le, i_eq, l_lt, l_le, l_eq, Int32.toInt_toInt64, Int32.reduceToInt, Int64.reduceToInt] at *); omega)) x15).1) (by rw [k12]; rw [k12] at c51; exact (stO_r (by ((try simp only [bI_0, bI_1, lc_lt, lc_gt, lc_le, lc_ge, Classical.not_not] at *); (try simp only [i_lt, i_le, i_eq, l_lt, l_le, l_eq, Int32.toInt_toInt64, Int32.reduceToInt, Int64.reduceToInt] at *); omega)) x15).2)) (Nat.le_of_ble_eq_true rfl) lX8_137 vmX0_wasSet rfl (Nat.le_of_ble_eq_true rfl) (Nat.le_of_ble_eq_true rfl) (Nat.le_of_ble_eq_true rfl) dX8_acceptKeyword_65 ?_
        rw [k12, k20]; rw [k12] at c51
        refine r_if_eq (tgt := 73) dX8_acceptKeyword_68 (by decide) (fun c68 => ?_) (fun c68 => ?_)
        · exact lst (fun z => bI_0.mp c68 z.2)
        · refine r_iconst (v := 3) rfl dX8_acceptKeyword_71 ?_
          refine w_iret rfl (rfl) (Nat.le_of_ble_eq_true rfl) (Nat.le_of_ble_eq_true rfl) dX8_acceptKeyword_72 ?_
          exact ⟨by rw [er, if_pos ⟨by ((try simp only [bI_0, bI_1, lc_lt, lc_gt, lc_le, lc_ge, Classical.not_not] at *); (try simp only [i_lt, i_le, i_eq, l_lt, l_le, l_eq, Int32.toInt_toInt64, Int32.reduceToInt, Int64.reduceToInt] at *); omega), bI_1.mp c68⟩], rfl, rfl, rfl⟩
    · refine r_iconst (v := 1) rfl dX8_acceptKeyword_34 ?_
      refine w_iret rfl (rfl) (Nat.le_of_ble_eq_true rfl) (Nat.le_of_ble_eq_true rfl) dX8_acceptKeyword_35 ?_
      exact ⟨by unfold akR; rw [if_pos c31], by unfold akI; rw [if_pos c31], rfl, rfl⟩
  refine r_aload_n (j := 0) rfl rfl dX8_acceptKeyword_0 ?_
  refine w_getI fX8_80 rfl dX8_acceptKeyword_1 ?_
  refine r_iconst (v := 1) rfl dX8_acceptKeyword_4 ?_
  refine r_icmp_ne (tgt := 27) dX8_acceptKeyword_5 (by decide) (fun c5 => ?_) (fun c5 => ?_)
  · refine r_iconst (v := (-1)) rfl dX8_acceptKeyword_27 ?_
    refine r_istore_n (lv' := fun z => [(1, .int z), (0, .ref 33)]) dX8_acceptKeyword_28 rfl (Nat.le_of_ble_eq_true rfl) (fun _ => rfl) (fun x1_28 ex1_28 => ?_)
    exact go _ (by rw [ex1_28]; unfold kwF; rw [if_neg c5])
  · refine r_aload_n (j := 0) rfl rfl dX8_acceptKeyword_8 ?_
    refine w_getR (b := 34) fX8_15 rfl rfl dX8_acceptKeyword_9 ?_
    refine r_aload_n (j := 0) rfl rfl dX8_acceptKeyword_12 ?_
    refine w_getR (b := 34) fX8_15 rfl rfl dX8_acceptKeyword_13 ?_
    refine w_alen53 rfl dX8_acceptKeyword_16 ?_
    refine r_aload_n (j := 0) rfl rfl dX8_acceptKeyword_17 ?_
    refine w_getL fX8_108 rfl dX8_acceptKeyword_18 ?_
    refine w_cS3p (k_X0_indexOf (N := 15) (M := 15) rfl (by decide) rfl (by decide)) (Nat.le_of_ble_eq_true rfl) lX8_130 mtX0_indexOf (Nat.le_of_ble_eq_true rfl) (Nat.le_of_ble_eq_true rfl) (Nat.le_of_ble_eq_true rfl) dX8_acceptKeyword_21 ?_
    refine r_goto (tgt := 28) dX8_acceptKeyword_24 (by decide) ?_
    refine r_istore_n (lv' := fun z => [(1, .int z), (0, .ref 33)]) dX8_acceptKeyword_28 rfl (Nat.le_of_ble_eq_true rfl) (fun _ => rfl) (fun x1_28 ex1_28 => ?_)
    exact go _ (by rw [ex1_28]; unfold kwF; rw [if_pos c5])
/-- a name -/
def ahR (I : Is) (L : Ls) (f : Int32) : Int32 := if f = -1 then 5 else if I 33 12 = 2 then (if I 25 f.toNatClampNeg = -1 then 0 else 3) else if I 33 11 = 2 then 0 else if f = I 33 14 ∨ ¬ I 26 (I 33 14 * 5 + f).toNatClampNeg = -1 then 3 else 0
def ahJ (I : Is) (f : Int32) : Is := if f = -1 then I else if I 33 12 = 2 ∨ I 33 11 = 2 then up I 33 14 f else up I 33 15 f
theorem k_X8_acceptHutName {H : Nat} (hH : I 18 14 = nI H) (h5 : H ≤ 5) (hf : ¬ I 33 12 = 2 → ¬ I 33 11 = 2 → 0 ≤ (I 33 14).toInt ∧ (I 33 14).toInt < 5) : Con sc mX8_acceptHutName 1 0 0 [.ref 33] (XW I L 18) (rI (ahR I L (ixN (L 21) (L 33 9) H 0)) (XW (ahJ I (ixN (L 21) (L 33 9) H 0)) L 18)) := by
  refine Con_of (by decide) (Nat.le_of_ble_eq_true rfl) ?_
  have hx : ¬ ixN (L 21) (L 33 9) H 0 = -1 → 0 ≤ (ixN (L 21) (L 33 9) H 0).toInt ∧ (ixN (L 21) (L 33 9) H 0).toInt < 5 := by
    intro h
    rcases ixN_r (L 21) (L 33 9) H 0 with z | ⟨j, h1, h2, h3, h4⟩
    · exact absurd z h
    · rw [h3, nI_toInt (by omega)]; omega
  refine r_aload_n (j := 0) rfl rfl dX8_acceptHutName_0 ?_
  refine w_getR (b := 18) fX8_30 rfl rfl dX8_acceptHutName_1 ?_
  refine w_getR (b := 21) fX8_153 rfl rfl dX8_acceptHutName_4 ?_
  refine r_aload_n (j := 0) rfl rfl dX8_acceptHutName_7 ?_
  refine w_getR (b := 18) fX8_30 rfl rfl dX8_acceptHutName_8 ?_
  refine w_getI fX8_144 rfl dX8_acceptHutName_11 ?_
  refine r_aload_n (j := 0) rfl rfl dX8_acceptHutName_14 ?_
  refine w_getL fX8_108 rfl dX8_acceptHutName_15 ?_
  refine w_cS3p (k_X0_indexOf (N := H) (M := 5) rfl (by decide) (by rw [hH, nI_toInt (by omega)]) h5) (Nat.le_of_ble_eq_true rfl) lX8_130 mtX0_indexOf (Nat.le_of_ble_eq_true rfl) (Nat.le_of_ble_eq_true rfl) (Nat.le_of_ble_eq_true rfl) dX8_acceptHutName_18 ?_
  refine r_istore_n (lv' := fun z => [(1, .int z), (0, .ref 33)]) dX8_acceptHutName_21 rfl (Nat.le_of_ble_eq_true rfl) (fun _ => rfl) (fun x1_21 ex1_21 => ?_)
  rw [← ex1_21] at hx ⊢; clear ex1_21
  refine r_iload_n (j := 0) rfl rfl dX8_acceptHutName_22 ?_
  refine r_iconst (v := (-1)) rfl dX8_acceptHutName_23 ?_
  refine r_icmp_ne (tgt := 29) dX8_acceptHutName_24 (by decide) (fun c24 => ?_) (fun c24 => ?_)
  · refine r_aload_n (j := 1) rfl rfl dX8_acceptHutName_29 ?_
    refine w_getI fX8_71 rfl dX8_acceptHutName_30 ?_
    refine r_iconst (v := 2) rfl dX8_acceptHutName_33 ?_
    refine r_icmp_ne (tgt := 61) dX8_acceptHutName_34 (by decide) (fun c34 => ?_) (fun c34 => ?_)
    · refine r_aload_n (j := 1) rfl rfl dX8_acceptHutName_61 ?_
      refine w_getI fX8_68 rfl dX8_acceptHutName_62 ?_
      refine r_iconst (v := 2) rfl dX8_acceptHutName_65 ?_
      refine r_icmp_ne (tgt := 76) dX8_acceptHutName_66 (by decide) (fun c66 => ?_) (fun c66 => ?_)
      · refine r_aload_n (j := 1) rfl rfl dX8_acceptHutName_76 ?_
        refine r_iload_n (j := 0) rfl rfl dX8_acceptHutName_77 ?_
        refine w_putI fX8_178 rfl (rfl) (rfl) dX8_acceptHutName_78 (fun J78 hJ78 => ?_)
        obtain ⟨z0, z5⟩ := hx c24; obtain ⟨f0, f5⟩ := hf c34 c66; have g14 : J78 33 14 = I 33 14 := (by rw [hJ78]; simp [up_eq, vu_eq]); have g26 : J78 26 = I 26 := (by rw [hJ78]; simp [up_eq]); have eJ : J78 = ahJ I x1_21 := (by unfold ahJ; rw [if_neg c24, if_neg (by rintro (z | z); exact c34 z; exact c66 z), hJ78])
        refine r_iload_n (j := 0) rfl rfl dX8_acceptHutName_81 ?_
        refine r_aload_n (j := 1) rfl rfl dX8_acceptHutName_82 ?_
        refine w_getI fX8_172 rfl dX8_acceptHutName_83 ?_
        refine r_icmp_eq (tgt := 104) dX8_acceptHutName_86 (by decide) (fun c86 => ?_) (fun c86 => ?_)
        · refine r_iconst (v := 3) rfl dX8_acceptHutName_104 ?_
          refine r_goto (tgt := 109) dX8_acceptHutName_105 (by decide) ?_
          refine w_iret rfl (rfl) (Nat.le_of_ble_eq_true rfl) (Nat.le_of_ble_eq_true rfl) dX8_acceptHutName_109 ?_
          exact ⟨by unfold ahR; rw [if_neg c24, if_neg c34, if_neg c66, if_pos (Or.inl (by rw [← g14]; exact c86))], eJ, rfl, rfl⟩
        · refine r_aload_n (j := 1) rfl rfl dX8_acceptHutName_89 ?_
          refine w_getR (b := 18) fX8_30 rfl rfl dX8_acceptHutName_90 ?_
          refine r_aload_n (j := 1) rfl rfl dX8_acceptHutName_93 ?_
          refine w_getI fX8_172 rfl dX8_acceptHutName_94 ?_
          refine r_iload_n (j := 0) rfl rfl dX8_acceptHutName_97 ?_
          refine w_cV2p (k_X0_hasRun18 (by rw [g14]; exact f0) (by rw [g14]; exact f5) z0 z5) (Nat.le_of_ble_eq_true rfl) lX8_181 vmX0_hasRun rfl (Nat.le_of_ble_eq_true rfl) (Nat.le_of_ble_eq_true rfl) (Nat.le_of_ble_eq_true rfl) dX8_acceptHutName_98 ?_
          rw [g14, g26]
          refine r_if_eq (tgt := 108) dX8_acceptHutName_101 (by decide) (fun c101 => ?_) (fun c101 => ?_)
          · refine r_iconst (v := 0) rfl dX8_acceptHutName_108 ?_
            refine w_iret rfl (rfl) (Nat.le_of_ble_eq_true rfl) (Nat.le_of_ble_eq_true rfl) dX8_acceptHutName_109 ?_
            exact ⟨by unfold ahR; rw [if_neg c24, if_neg c34, if_neg c66, if_neg (by rintro (z | z); exact c86 (by rw [g14]; exact z); exact bI_0.mp c101 z)], eJ, rfl, rfl⟩
          · refine r_iconst (v := 3) rfl dX8_acceptHutName_104 ?_
            refine r_goto (tgt := 109) dX8_acceptHutName_105 (by decide) ?_
            refine w_iret rfl (rfl) (Nat.le_of_ble_eq_true rfl) (Nat.le_of_ble_eq_true rfl) dX8_acceptHutName_109 ?_
            exact ⟨by unfold ahR; rw [if_neg c24, if_neg c34, if_neg c66, if_pos (Or.inr (bI_1.mp c101))], eJ, rfl, rfl⟩
      · refine r_aload_n (j := 1) rfl rfl dX8_acceptHutName_69 ?_
        refine r_iload_n (j := 0) rfl rfl dX8_acceptHutName_70 ?_
        refine w_putI fX8_172 rfl (rfl) (rfl) dX8_acceptHutName_71 (fun J71 hJ71 => ?_)
        refine r_iconst (v := 0) rfl dX8_acceptHutName_74 ?_
        refine w_iret rfl (rfl) (Nat.le_of_ble_eq_true rfl) (Nat.le_of_ble_eq_true rfl) dX8_acceptHutName_75 ?_
        exact ⟨by unfold ahR; rw [if_neg c24, if_neg c34, if_pos c66], by unfold ahJ; rw [if_neg c24, if_pos (Or.inr c66), hJ71], rfl, rfl⟩
    · refine r_aload_n (j := 1) rfl rfl dX8_acceptHutName_37 ?_
      refine r_iload_n (j := 0) rfl rfl dX8_acceptHutName_38 ?_
      refine w_putI fX8_172 rfl (rfl) (rfl) dX8_acceptHutName_39 (fun J39 hJ39 => ?_)
      refine r_aload_n (j := 1) rfl rfl dX8_acceptHutName_42 ?_
      refine w_getR (b := 18) fX8_30 rfl rfl dX8_acceptHutName_43 ?_
      refine w_getR (b := 25) fX8_175 rfl rfl dX8_acceptHutName_46 ?_
      refine r_iload_n (j := 0) rfl rfl dX8_acceptHutName_49 ?_
      refine w_iald rfl (by obtain ⟨z0, z5⟩ := hx c24; rw [vp_in_iff]; ((try simp only [bI_0, bI_1, lc_lt, lc_gt, lc_le, lc_ge, Classical.not_not] at *); (try simp only [i_lt, i_le, i_eq, l_lt, l_le, l_eq, Int32.toInt_toInt64, Int32.reduceToInt, Int64.reduceToInt] at *); omega)) dX8_acceptHutName_50 ?_
      have g25 : J39 25 = I 25 := (by rw [hJ39]; simp [up_eq]); rw [g25]
      refine r_iconst (v := (-1)) rfl dX8_acceptHutName_51 ?_
      refine r_icmp_ne (tgt := 59) dX8_acceptHutName_52 (by decide) (fun c52 => ?_) (fun c52 => ?_)
      · refine r_iconst (v := 3) rfl dX8_acceptHutName_59 ?_
        refine w_iret rfl (rfl) (Nat.le_of_ble_eq_true rfl) (Nat.le_of_ble_eq_true rfl) dX8_acceptHutName_60 ?_
        exact ⟨by unfold ahR; rw [if_neg c24, if_pos c34, if_neg c52], by unfold ahJ; rw [if_neg c24, if_pos (Or.inl c34), hJ39], rfl, rfl⟩
      · refine r_iconst (v := 0) rfl dX8_acceptHutName_55 ?_
        refine r_goto (tgt := 60) dX8_acceptHutName_56 (by decide) ?_
        refine w_iret rfl (rfl) (Nat.le_of_ble_eq_true rfl) (Nat.le_of_ble_eq_true rfl) dX8_acceptHutName_60 ?_
        exact ⟨by unfold ahR; rw [if_neg c24, if_pos c34, if_pos c52], by unfold ahJ; rw [if_neg c24, if_pos (Or.inl c34), hJ39], rfl, rfl⟩
  · refine r_iconst (v := 5) rfl dX8_acceptHutName_27 ?_
    refine w_iret rfl (rfl) (Nat.le_of_ble_eq_true rfl) (Nat.le_of_ble_eq_true rfl) dX8_acceptHutName_28 ?_
    exact ⟨by unfold ahR; rw [if_pos c24], by unfold ahJ; rw [if_pos c24], rfl, rfl⟩
theorem k_X8_acceptNewName {tg a M N : Nat} {b : Int32} (ha : SHW a = (53, M)) (ha3 : ¬ a = 33) (hM : M ≤ 1000) (hb : b.toInt = N) (hN : N ≤ M) : Con sc mX8_acceptNewName 1 0 0 [.ref 33, .ref a, .int b] (XW I L tg) (rI (if ixN (L a) (L 33 9) N 0 = -1 then 0 else 3) (XW I (up L 33 13 (L 33 9)) tg)) := by
  refine Con_of (by decide) (Nat.le_of_ble_eq_true rfl) ?_
  refine r_aload_n (j := 0) rfl rfl dX8_acceptNewName_0 ?_
  refine r_aload_n (j := 0) rfl rfl dX8_acceptNewName_1 ?_
  refine w_getL fX8_108 rfl dX8_acceptNewName_2 ?_
  refine w_putL fX8_169 rfl (rfl) (rfl) dX8_acceptNewName_5 (fun J5 hJ5 => ?_)
  refine r_aload_n (j := 1) rfl rfl dX8_acceptNewName_8 ?_
  refine r_iload_n (j := 2) rfl rfl dX8_acceptNewName_9 ?_
  refine r_aload_n (j := 0) rfl rfl dX8_acceptNewName_10 ?_
  refine w_getL fX8_108 rfl dX8_acceptNewName_11 ?_
  refine w_cS3p (k_X0_indexOf (N := N) ha hM hb hN) (Nat.le_of_ble_eq_true rfl) lX8_130 mtX0_indexOf (Nat.le_of_ble_eq_true rfl) (Nat.le_of_ble_eq_true rfl) (Nat.le_of_ble_eq_true rfl) dX8_acceptNewName_14 ?_
  have e1 : J5 a = L a := (by rw [hJ5]; simp [up_eq, ha3]); have e2 : J5 33 9 = L 33 9 := (by rw [hJ5]; simp [up_eq, vu_eq]); rw [e1, e2]
  refine r_iconst (v := (-1)) rfl dX8_acceptNewName_17 ?_
  refine r_icmp_ne (tgt := 25) dX8_acceptNewName_18 (by decide) (fun c18 => ?_) (fun c18 => ?_)
  · refine r_iconst (v := 3) rfl dX8_acceptNewName_25 ?_
    refine w_iret rfl (rfl) (Nat.le_of_ble_eq_true rfl) (Nat.le_of_ble_eq_true rfl) dX8_acceptNewName_26 ?_
    exact ⟨by rw [if_neg c18], rfl, hJ5, rfl⟩
  · refine r_iconst (v := 0) rfl dX8_acceptNewName_21 ?_
    refine r_goto (tgt := 26) dX8_acceptNewName_22 (by decide) ?_
    refine w_iret rfl (rfl) (Nat.le_of_ble_eq_true rfl) (Nat.le_of_ble_eq_true rfl) dX8_acceptNewName_26 ?_
    exact ⟨by rw [if_pos c18], rfl, hJ5, rfl⟩
end
