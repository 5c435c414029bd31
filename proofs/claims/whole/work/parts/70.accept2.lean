/-! the component's reader: names, numbers, the end of a clause -/
section
variable {sc : Sc} {I : Is} {L : Ls}
def anF (I : Is) (L : Ls) (H G K : Nat) : Int32 × Is × Ls :=
  if ¬ I 33 7 = 1 then (1, I, L)
  else if I 33 12 = 0 then (if ixN (L 21) (L 33 9) H 0 = -1 then 0 else 3, up I 33 11 (I 33 11 + 1), up L 33 13 (L 33 9))
  else if I 33 12 = 1 then (if ixN (L 27) (L 33 9) G 0 = -1 then 0 else 3, up I 33 11 (I 33 11 + 1), up L 33 13 (L 33 9))
  else if I 33 12 = 4 then (if ixN (L 31) (L 33 9) K 0 = -1 then 0 else 3, up I 33 11 (I 33 11 + 1), up L 33 13 (L 33 9))
  else (ahR (up I 33 11 (I 33 11 + 1)) L (ixN (L 21) (L 33 9) H 0), ahJ (up I 33 11 (I 33 11 + 1)) (ixN (L 21) (L 33 9) H 0), L)
theorem anF_n {H G K : Nat} (h : ¬ I 33 7 = 1) : anF I L H G K = (1, I, L) := if_pos h
theorem anF_0 {H G K : Nat} (h : I 33 7 = 1) (h0 : I 33 12 = 0) : anF I L H G K = (if ixN (L 21) (L 33 9) H 0 = -1 then 0 else 3, up I 33 11 (I 33 11 + 1), up L 33 13 (L 33 9)) := by unfold anF; rw [h, h0]; rfl
theorem anF_1 {H G K : Nat} (h : I 33 7 = 1) (h0 : I 33 12 = 1) : anF I L H G K = (if ixN (L 27) (L 33 9) G 0 = -1 then 0 else 3, up I 33 11 (I 33 11 + 1), up L 33 13 (L 33 9)) := by unfold anF; rw [h, h0]; rfl
theorem anF_4 {H G K : Nat} (h : I 33 7 = 1) (h0 : I 33 12 = 4) : anF I L H G K = (if ixN (L 31) (L 33 9) K 0 = -1 then 0 else 3, up I 33 11 (I 33 11 + 1), up L 33 13 (L 33 9)) := by unfold anF; rw [h, h0]; rfl
theorem anF_h {H G K : Nat} (h : I 33 7 = 1) (h0 : ¬ I 33 12 = 0) (h1 : ¬ I 33 12 = 1) (h4 : ¬ I 33 12 = 4) : anF I L H G K = (ahR (up I 33 11 (I 33 11 + 1)) L (ixN (L 21) (L 33 9) H 0), ahJ (up I 33 11 (I 33 11 + 1)) (ixN (L 21) (L 33 9) H 0), L) := by unfold anF; simp only [h, h0, h1, h4, not_true_eq_false, if_false]
/-- the bounds of the camp that is read -/
def cBd (I : Is) (H G K : Nat) : Prop := I 18 14 = nI H ∧ H ≤ 5 ∧ I 18 15 = nI G ∧ G ≤ 4 ∧ I 18 16 = nI K ∧ K ≤ 4
theorem k_X8_acceptName {H G K : Nat} (hB : cBd I H G K) (hf : I 33 7 = 1 → ¬ I 33 12 = 2 → ¬ I 33 11 + 1 = 2 → 0 ≤ (I 33 14).toInt ∧ (I 33 14).toInt < 5) : Con sc mX8_acceptName 2 0 0 [.ref 33] (XW I L 18) (rI (anF I L H G K).1 (XW (anF I L H G K).2.1 (anF I L H G K).2.2 18)) := by
  refine Con_of (by decide) (Nat.le_of_ble_eq_true rfl) ?_
  obtain ⟨hH, h5, hG, h4, hK, h4'⟩ := hB
  have hk : ∀ x : Int32, (x = 0 ↔ x.toInt = 0) ∧ (x = 1 ↔ x.toInt = 1) ∧ (x = 4 ↔ x.toInt = 4) := fun x => ⟨Int32.toInt_inj.symm, Int32.toInt_inj.symm, Int32.toInt_inj.symm⟩
  obtain ⟨w0, w1, w4⟩ := hk (I 33 12)
  have sH : (I 18 14).toInt = H := by rw [hH, nI_toInt (by omega)]
  have sG : (I 18 15).toInt = G := by rw [hG, nI_toInt (by omega)]
  have sK : (I 18 16).toInt = K := by rw [hK, nI_toInt (by omega)]
  refine r_aload_n (j := 0) rfl rfl dX8_acceptName_0 ?_
  refine w_getI fX8_80 rfl dX8_acceptName_1 ?_
  refine r_iconst (v := 1) rfl dX8_acceptName_4 ?_
  refine r_icmp_eq (tgt := 10) dX8_acceptName_5 (by decide) (fun c5 => ?_) (fun c5 => ?_)
  · refine r_aload_n (j := 0) rfl rfl dX8_acceptName_10 ?_
    refine r_dup rfl dX8_acceptName_11 ?_
    refine w_getI fX8_68 rfl dX8_acceptName_12 ?_
    refine r_iconst (v := 1) rfl dX8_acceptName_15 ?_
    refine r_iadd dX8_acceptName_16 ?_
    refine w_putI fX8_68 rfl (rfl) (rfl) dX8_acceptName_17 (fun J17 hJ17 => ?_)
    have q12 : J17 33 12 = I 33 12 := (by rw [hJ17]; simp [up_eq, vu_eq]); have q18 : J17 18 = I 18 := (by rw [hJ17]; simp [up_eq])
    refine r_aload_n (j := 0) rfl rfl dX8_acceptName_20 ?_
    refine w_getI fX8_71 rfl dX8_acceptName_21 ?_
    rw [q12]
    refine w_tab (tgtD := 117) dX8_acceptName_24 (by decide) (fun c24 => ?_) (fun i c24 l24 => ?_)
    · refine r_aload_n (j := 0) rfl rfl dX8_acceptName_117 ?_
      refine w_cV0s (k_X8_acceptHutName (H := H) (by rw [q18]; exact hH) h5 (by rw [q12]; intro z1 z2; have e : J17 33 14 = I 33 14 := (by rw [hJ17]; simp [up_eq, vu_eq]); rw [e]; exact hf c5 z1 (by intro z; apply z2; rw [hJ17]; simp [up_eq, vu_eq, z]))) (Nat.le_of_ble_eq_true rfl) lX8_166 vmX8_acceptHutName rfl (Nat.le_of_ble_eq_true rfl) (Nat.le_of_ble_eq_true rfl) (Nat.le_of_ble_eq_true rfl) dX8_acceptName_118 (fun J118 K118 hJ118 hK118 => ?_)
      subst hK118
      refine w_iret rfl (rfl) (Nat.le_of_ble_eq_true rfl) (Nat.le_of_ble_eq_true rfl) dX8_acceptName_121 ?_
      rw [anF_h c5 (by rw [w0]; ((try simp only [bI_0, bI_1, lc_lt, lc_gt, lc_le, lc_ge, Classical.not_not] at *); (try simp only [i_lt, i_le, i_eq, l_lt, l_le, l_eq, Int32.toInt_toInt64, Int32.reduceToInt, Int64.reduceToInt] at *); omega)) (by rw [w1]; ((try simp only [bI_0, bI_1, lc_lt, lc_gt, lc_le, lc_ge, Classical.not_not] at *); (try simp only [i_lt, i_le, i_eq, l_lt, l_le, l_eq, Int32.toInt_toInt64, Int32.reduceToInt, Int64.reduceToInt] at *); omega)) (by rw [w4]; ((try simp only [bI_0, bI_1, lc_lt, lc_gt, lc_le, lc_ge, Classical.not_not] at *); (try simp only [i_lt, i_le, i_eq, l_lt, l_le, l_eq, Int32.toInt_toInt64, Int32.reduceToInt, Int64.reduceToInt] at *); omega))]; exact ⟨by rw [hJ17], by rw [hJ118, hJ17], rfl, rfl⟩
    · rcases (show i = 0 ∨ i = 1 ∨ i = 2 ∨ i = 3 ∨ i = 4 by omega) with rfl | rfl | rfl | rfl | rfl
      · refine ⟨36, 60, rfl, by decide, ?_⟩
        refine r_aload_n (j := 0) rfl rfl dX8_acceptName_60 ?_
        refine r_aload_n (j := 0) rfl rfl dX8_acceptName_61 ?_
        refine w_getR (b := 18) fX8_30 rfl rfl dX8_acceptName_62 ?_
        refine w_getR (b := 21) fX8_153 rfl rfl dX8_acceptName_65 ?_
        refine r_aload_n (j := 0) rfl rfl dX8_acceptName_68 ?_
        refine w_getR (b := 18) fX8_30 rfl rfl dX8_acceptName_69 ?_
        refine w_getI fX8_144 rfl dX8_acceptName_72 ?_
        refine w_cV2s (k_X8_acceptNewName (N := H) (M := 5) rfl (by decide) (by decide) (by rw [q18]; exact sH) h5) (Nat.le_of_ble_eq_true rfl) lX8_156 vmX8_acceptNewName rfl (Nat.le_of_ble_eq_true rfl) (Nat.le_of_ble_eq_true rfl) (Nat.le_of_ble_eq_true rfl) dX8_acceptName_75 (fun J75 K75 hJ75 hK75 => ?_)
        subst hK75
        refine w_iret rfl (rfl) (Nat.le_of_ble_eq_true rfl) (Nat.le_of_ble_eq_true rfl) dX8_acceptName_78 ?_
        rw [anF_0 c5 (w0.mpr (by ((try simp only [bI_0, bI_1, lc_lt, lc_gt, lc_le, lc_ge, Classical.not_not] at *); (try simp only [i_lt, i_le, i_eq, l_lt, l_le, l_eq, Int32.toInt_toInt64, Int32.reduceToInt, Int64.reduceToInt] at *); omega)))]; exact ⟨rfl, by rw [hJ75, hJ17], rfl, rfl⟩
      · refine ⟨55, 79, rfl, by decide, ?_⟩
        refine r_aload_n (j := 0) rfl rfl dX8_acceptName_79 ?_
        refine r_aload_n (j := 0) rfl rfl dX8_acceptName_80 ?_
        refine w_getR (b := 18) fX8_30 rfl rfl dX8_acceptName_81 ?_
        refine w_getR (b := 27) fX8_160 rfl rfl dX8_acceptName_84 ?_
        refine r_aload_n (j := 0) rfl rfl dX8_acceptName_87 ?_
        refine w_getR (b := 18) fX8_30 rfl rfl dX8_acceptName_88 ?_
        refine w_getI fX8_147 rfl dX8_acceptName_91 ?_
        refine w_cV2s (k_X8_acceptNewName (N := G) (M := 4) rfl (by decide) (by decide) (by rw [q18]; exact sG) h4) (Nat.le_of_ble_eq_true rfl) lX8_156 vmX8_acceptNewName rfl (Nat.le_of_ble_eq_true rfl) (Nat.le_of_ble_eq_true rfl) (Nat.le_of_ble_eq_true rfl) dX8_acceptName_94 (fun J94 K94 hJ94 hK94 => ?_)
        subst hK94
        refine w_iret rfl (rfl) (Nat.le_of_ble_eq_true rfl) (Nat.le_of_ble_eq_true rfl) dX8_acceptName_97 ?_
        rw [anF_1 c5 (w1.mpr (by ((try simp only [bI_0, bI_1, lc_lt, lc_gt, lc_le, lc_ge, Classical.not_not] at *); (try simp only [i_lt, i_le, i_eq, l_lt, l_le, l_eq, Int32.toInt_toInt64, Int32.reduceToInt, Int64.reduceToInt] at *); omega)))]; exact ⟨rfl, by rw [hJ94, hJ17], rfl, rfl⟩
      · refine ⟨93, 117, rfl, by decide, ?_⟩
        refine r_aload_n (j := 0) rfl rfl dX8_acceptName_117 ?_
        refine w_cV0s (k_X8_acceptHutName (H := H) (by rw [q18]; exact hH) h5 (by rw [q12]; intro z1 z2; have e : J17 33 14 = I 33 14 := (by rw [hJ17]; simp [up_eq, vu_eq]); rw [e]; exact hf c5 z1 (by intro z; apply z2; rw [hJ17]; simp [up_eq, vu_eq, z]))) (Nat.le_of_ble_eq_true rfl) lX8_166 vmX8_acceptHutName rfl (Nat.le_of_ble_eq_true rfl) (Nat.le_of_ble_eq_true rfl) (Nat.le_of_ble_eq_true rfl) dX8_acceptName_118 (fun J118 K118 hJ118 hK118 => ?_)
        subst hK118
        refine w_iret rfl (rfl) (Nat.le_of_ble_eq_true rfl) (Nat.le_of_ble_eq_true rfl) dX8_acceptName_121 ?_
        rw [anF_h c5 (by rw [w0]; ((try simp only [bI_0, bI_1, lc_lt, lc_gt, lc_le, lc_ge, Classical.not_not] at *); (try simp only [i_lt, i_le, i_eq, l_lt, l_le, l_eq, Int32.toInt_toInt64, Int32.reduceToInt, Int64.reduceToInt] at *); omega)) (by rw [w1]; ((try simp only [bI_0, bI_1, lc_lt, lc_gt, lc_le, lc_ge, Classical.not_not] at *); (try simp only [i_lt, i_le, i_eq, l_lt, l_le, l_eq, Int32.toInt_toInt64, Int32.reduceToInt, Int64.reduceToInt] at *); omega)) (by rw [w4]; ((try simp only [bI_0, bI_1, lc_lt, lc_gt, lc_le, lc_ge, Classical.not_not] at *); (try simp only [i_lt, i_le, i_eq, l_lt, l_le, l_eq, Int32.toInt_toInt64, Int32.reduceToInt, Int64.reduceToInt] at *); omega))]; exact ⟨by rw [hJ17], by rw [hJ118, hJ17], rfl, rfl⟩
      · refine ⟨93, 117, rfl, by decide, ?_⟩
        refine r_aload_n (j := 0) rfl rfl dX8_acceptName_117 ?_
        refine w_cV0s (k_X8_acceptHutName (H := H) (by rw [q18]; exact hH) h5 (by rw [q12]; intro z1 z2; have e : J17 33 14 = I 33 14 := (by rw [hJ17]; simp [up_eq, vu_eq]); rw [e]; exact hf c5 z1 (by intro z; apply z2; rw [hJ17]; simp [up_eq, vu_eq, z]))) (Nat.le_of_ble_eq_true rfl) lX8_166 vmX8_acceptHutName rfl (Nat.le_of_ble_eq_true rfl) (Nat.le_of_ble_eq_true rfl) (Nat.le_of_ble_eq_true rfl) dX8_acceptName_118 (fun J118 K118 hJ118 hK118 => ?_)
        subst hK118
        refine w_iret rfl (rfl) (Nat.le_of_ble_eq_true rfl) (Nat.le_of_ble_eq_true rfl) dX8_acceptName_121 ?_
        rw [anF_h c5 (by rw [w0]; ((try simp only [bI_0, bI_1, lc_lt, lc_gt, lc_le, lc_ge, Classical.not_not] at *); (try simp only [i_lt, i_le, i_eq, l_lt, l_le, l_eq, Int32.toInt_toInt64, Int32.reduceToInt, Int64.reduceToInt] at *); omega)) (by rw [w1]; ((try simp only [bI_0, bI_1, lc_lt, lc_gt, lc_le, lc_ge, Classical.not_not] at *); (try simp only [i_lt, i_le, i_eq, l_lt, l_le, l_eq, Int32.toInt_toInt64, Int32.reduceToInt, Int64.reduceToInt] at *); omega)) (by rw [w4]; ((try simp only [bI_0, bI_1, lc_lt, lc_gt, lc_le, lc_ge, Classical.not_not] at *); (try simp only [i_lt, i_le, i_eq, l_lt, l_le, l_eq, Int32.toInt_toInt64, Int32.reduceToInt, Int64.reduceToInt] at *); omega))]; exact ⟨by rw [hJ17], by rw [hJ118, hJ17], rfl, rfl⟩
      · refine ⟨74, 98, rfl, by decide, ?_⟩
        refine r_aload_n (j := 0) rfl rfl dX8_acceptName_98 ?_
        refine r_aload_n (j := 0) rfl rfl dX8_acceptName_99 ?_
        refine w_getR (b := 18) fX8_30 rfl rfl dX8_acceptName_100 ?_
        refine w_getR (b := 31) fX8_163 rfl rfl dX8_acceptName_103 ?_
        refine r_aload_n (j := 0) rfl rfl dX8_acceptName_106 ?_
        refine w_getR (b := 18) fX8_30 rfl rfl dX8_acceptName_107 ?_
        refine w_getI fX8_150 rfl dX8_acceptName_110 ?_
        refine w_cV2s (k_X8_acceptNewName (N := K) (M := 4) rfl (by decide) (by decide) (by rw [q18]; exact sK) h4') (Nat.le_of_ble_eq_true rfl) lX8_156 vmX8_acceptNewName rfl (Nat.le_of_ble_eq_true rfl) (Nat.le_of_ble_eq_true rfl) (Nat.le_of_ble_eq_true rfl) dX8_acceptName_113 (fun J113 K113 hJ113 hK113 => ?_)
        subst hK113
        refine w_iret rfl (rfl) (Nat.le_of_ble_eq_true rfl) (Nat.le_of_ble_eq_true rfl) dX8_acceptName_116 ?_
        rw [anF_4 c5 (w4.mpr (by ((try simp only [bI_0, bI_1, lc_lt, lc_gt, lc_le, lc_ge, Classical.not_not] at *); (try simp only [i_lt, i_le, i_eq, l_lt, l_le, l_eq, Int32.toInt_toInt64, Int32.reduceToInt, Int64.reduceToInt] at *); omega)))]; exact ⟨rfl, by rw [hJ113, hJ17], rfl, rfl⟩
  · refine r_iconst (v := 1) rfl dX8_acceptName_8 ?_
    refine w_iret rfl (rfl) (Nat.le_of_ble_eq_true rfl) (Nat.le_of_ble_eq_true rfl) dX8_acceptName_9 ?_
    rw [anF_n c5]; exact ⟨rfl, rfl, rfl, rfl⟩
/-- how many names and numbers a clause has -/
def wdN (k : Nat) : Nat := if k = 3 then 2 else if k < 5 then 1 else 0
def nmN (k : Nat) : Nat := if k < 2 then 3 else if k = 5 then 2 else 1
/-- the bounds of its numbers, three places a keyword -/
def ol3 : List Int32 := [0, 1, 1, 0, 0, 0, 0, 0, 0, 0, 0, 0, 0, 0, 0, 0, 0, 0, 10, 0, 0, 0, 0, 0, 1, 0, 0, 1, 0, 0, 0, 0, 0, 0, 0, 0, 10, 0, 0, 1, 0, 0, 0, 0, 0]
def ol4 : List Int32 := [400, 300, 40, 400, 999, 9999, 99, 0, 0, 60, 0, 0, 99, 0, 0, 20, 20, 0, 400, 0, 0, 300, 0, 0, 99, 0, 0, 40, 0, 0, 700, 0, 0, 9, 0, 0, 200, 0, 0, 50, 0, 0, 50, 0, 0]
def bfN (k : Nat) : Nat := (tb7.getD k 0).toNatClampNeg
theorem tb_bf0 : ∀ k, k < 15 → ∀ i, i < 3 → i < nmN k → tb7.getD k 0 + nI i = nI (bfN k + i) ∧ bfN k + i < 20 ∧ tb3.getD (bfN k + i) 0 = ol3.getD (k * 3 + i) 0 ∧ tb4.getD (bfN k + i) 0 = ol4.getD (k * 3 + i) 0 := by decide +kernel
theorem nm_3 (k : Nat) : nmN k ≤ 3 := by unfold nmN; split; exact Nat.le_refl _; split <;> decide
/-- a number of a clause -/
def amR (I : Is) (k i : Nat) : Int32 := if ¬ I 33 7 = 2 then 1 else if (I 33 10).toInt < (ol3.getD (k * 3 + i) 0).toInt ∨ (ol4.getD (k * 3 + i) 0).toInt < (I 33 10).toInt then 2 else 0
def amI (I : Is) (k i : Nat) : Is := if amR I k i = 0 then up (up I 35 i (I 33 10)) 33 11 (I 33 11 + 1) else I
theorem k_X8_acceptNumber {k i : Nat} {x : Int32} (hk : I 33 12 = nI k) (h15 : k < 15) (hx : x = nI i) (hn : i < nmN k) : Con sc mX8_acceptNumber 0 0 0 [.ref 33, .int x] (XW I L 18) (rI (amR I k i) (XW (amI I k i) L 18)) := by
  refine Con_of (by decide) (Nat.le_of_ble_eq_true rfl) ?_
  have h3 : i < 3 := Nat.lt_of_lt_of_le hn (nm_3 k)
  obtain ⟨e3, hlt, f3, f4⟩ := tb_bf0 k h15 i h3 hn
  have xi : x.toInt = i := by rw [hx, nI_toInt (by omega)]
  have ki : (I 33 12).toInt = k := by rw [hk, nI_toInt (by omega)]
  have kc : (I 33 12).toNatClampNeg = k := by rw [hk, nI_clamp (by omega)]
  have yes : ∀ c : Int32, amR I k i = c → ¬ c = 0 → amI I k i = I := by intro c h h1; unfold amI; rw [h, if_neg h1]
  refine r_aload_n (j := 0) rfl rfl dX8_acceptNumber_0 ?_
  refine w_getI fX8_80 rfl dX8_acceptNumber_1 ?_
  refine r_iconst (v := 2) rfl dX8_acceptNumber_4 ?_
  refine r_icmp_ne (tgt := 21) dX8_acceptNumber_5 (by decide) (fun c5 => ?_) (fun c5 => ?_)
  · refine r_iconst (v := 1) rfl dX8_acceptNumber_21 ?_
    refine w_iret rfl (rfl) (Nat.le_of_ble_eq_true rfl) (Nat.le_of_ble_eq_true rfl) dX8_acceptNumber_22 ?_
    have e : amR I k i = 1 := if_pos c5; exact ⟨e.symm, (yes _ e (by decide)).symm, rfl, rfl⟩
  · refine r_iload_n (j := 1) rfl rfl dX8_acceptNumber_8 ?_
    refine r_if_lt (tgt := 21) dX8_acceptNumber_9 (by decide) (fun c9 => ?_) (fun c9 => ?_)
    · exfalso; ((try simp only [bI_0, bI_1, lc_lt, lc_gt, lc_le, lc_ge, Classical.not_not] at *); (try simp only [i_lt, i_le, i_eq, l_lt, l_le, l_eq, Int32.toInt_toInt64, Int32.reduceToInt, Int64.reduceToInt] at *); omega)
    · refine r_iload_n (j := 1) rfl rfl dX8_acceptNumber_12 ?_
      refine r_aload_n (j := 0) rfl rfl dX8_acceptNumber_13 ?_
      refine w_getR (b := 35) fX8_19 rfl rfl dX8_acceptNumber_14 ?_
      refine w_alen50 rfl dX8_acceptNumber_17 ?_
      refine r_icmp_lt (tgt := 23) dX8_acceptNumber_18 (by decide) (fun c18 => ?_) (fun c18 => ?_)
      · refine r_gets (v := .ref 1007) (by decide +kernel) fsX8_185 dX8_acceptNumber_23 ?_
        refine r_aload_n (j := 0) rfl rfl dX8_acceptNumber_26 ?_
        refine w_getI fX8_71 rfl dX8_acceptNumber_27 ?_
        refine r_tld (t := tb7) oT_7 (up_in ki (show _ < 15 from h15)) dX8_acceptNumber_30 ?_
        rw [kc]
        refine r_iload_n (j := 1) rfl rfl dX8_acceptNumber_31 ?_
        refine r_iadd dX8_acceptNumber_32 ?_
        refine r_istore_n (lv' := fun z => [(2, .int z), (0, .ref 33), (1, .int x)]) dX8_acceptNumber_33 rfl (Nat.le_of_ble_eq_true rfl) (fun _ => rfl) (fun x2_33 ex2_33 => ?_)
        rw [hx, e3] at ex2_33
        have bi : x2_33.toInt = ((bfN k + i : Nat) : Int) := by rw [ex2_33, nI_toInt (by omega)]
        have bc : x2_33.toNatClampNeg = bfN k + i := by rw [ex2_33, nI_clamp (by omega)]
        refine r_aload_n (j := 1) rfl rfl dX8_acceptNumber_34 ?_
        refine w_getI fX8_112 rfl dX8_acceptNumber_35 ?_
        refine r_gets (v := .ref 1003) (by decide +kernel) fsX8_188 dX8_acceptNumber_38 ?_
        refine r_iload_n (j := 0) rfl rfl dX8_acceptNumber_41 ?_
        refine r_tld (t := tb3) oT_3 (up_in bi (show _ < 20 by omega)) dX8_acceptNumber_42 ?_
        rw [bc, f3]
        refine r_icmp_lt (tgt := 58) dX8_acceptNumber_43 (by decide) (fun c43 => ?_) (fun c43 => ?_)
        · refine r_iconst (v := 2) rfl dX8_acceptNumber_58 ?_
          refine w_iret rfl (rfl) (Nat.le_of_ble_eq_true rfl) (Nat.le_of_ble_eq_true rfl) dX8_acceptNumber_59 ?_
          have e : amR I k i = 2 := (by unfold amR; rw [if_neg (by exact fun z => z c5), if_pos (Or.inl (i_lt.mp c43))]); exact ⟨e.symm, (yes _ e (by decide)).symm, rfl, rfl⟩
        · refine r_aload_n (j := 1) rfl rfl dX8_acceptNumber_46 ?_
          refine w_getI fX8_112 rfl dX8_acceptNumber_47 ?_
          refine r_gets (v := .ref 1004) (by decide +kernel) fsX8_191 dX8_acceptNumber_50 ?_
          refine r_iload_n (j := 0) rfl rfl dX8_acceptNumber_53 ?_
          refine r_tld (t := tb4) oT_4 (up_in bi (show _ < 20 by omega)) dX8_acceptNumber_54 ?_
          rw [bc, f4]
          refine r_icmp_le (tgt := 60) dX8_acceptNumber_55 (by decide) (fun c55 => ?_) (fun c55 => ?_)
          · refine r_aload_n (j := 1) rfl rfl dX8_acceptNumber_60 ?_
            refine w_getR (b := 35) fX8_19 rfl rfl dX8_acceptNumber_61 ?_
            refine r_iload_n (j := 2) rfl rfl dX8_acceptNumber_64 ?_
            refine r_aload_n (j := 1) rfl rfl dX8_acceptNumber_65 ?_
            refine w_getI fX8_112 rfl dX8_acceptNumber_66 ?_
            refine w_iast rfl (by first | assumption | (rw [vp_in_iff]; ((try simp only [bI_0, bI_1, lc_lt, lc_gt, lc_le, lc_ge, Classical.not_not] at *); (try simp only [i_lt, i_le, i_eq, l_lt, l_le, l_eq, Int32.toInt_toInt64, Int32.reduceToInt, Int64.reduceToInt] at *); omega))) dX8_acceptNumber_69 (fun J69 hJ69 => ?_)
            refine r_aload_n (j := 1) rfl rfl dX8_acceptNumber_70 ?_
            refine r_dup rfl dX8_acceptNumber_71 ?_
            refine w_getI fX8_68 rfl dX8_acceptNumber_72 ?_
            refine r_iconst (v := 1) rfl dX8_acceptNumber_75 ?_
            refine r_iadd dX8_acceptNumber_76 ?_
            refine w_putI fX8_68 rfl (rfl) (rfl) dX8_acceptNumber_77 (fun J77 hJ77 => ?_)
            refine r_iconst (v := 0) rfl dX8_acceptNumber_80 ?_
            refine w_iret rfl (rfl) (Nat.le_of_ble_eq_true rfl) (Nat.le_of_ble_eq_true rfl) dX8_acceptNumber_81 ?_
            have e : amR I k i = 0 := by unfold amR; rw [if_neg (by exact fun z => z c5), if_neg (by rintro (z | z); exact c43 (i_lt.mpr z); have := i_le.mp c55; omega)]
            have g1 : J69 33 11 = I 33 11 := by rw [hJ69]; simp [up_eq]
            exact ⟨e.symm, by unfold amI; rw [if_pos e, hJ77, g1, hJ69, hx, nI_clamp (by omega)], rfl, rfl⟩
          · refine r_iconst (v := 2) rfl dX8_acceptNumber_58 ?_
            refine w_iret rfl (rfl) (Nat.le_of_ble_eq_true rfl) (Nat.le_of_ble_eq_true rfl) dX8_acceptNumber_59 ?_
            have e : amR I k i = 2 := (by unfold amR; rw [if_neg (by exact fun z => z c5), if_pos (Or.inr (by have := mt i_le.mpr c55; omega))]); exact ⟨e.symm, (yes _ e (by decide)).symm, rfl, rfl⟩
      · exfalso; (have c18 : ¬ x < (3 : Int32) := c18); ((try simp only [bI_0, bI_1, lc_lt, lc_gt, lc_le, lc_ge, Classical.not_not] at *); (try simp only [i_lt, i_le, i_eq, l_lt, l_le, l_eq, Int32.toInt_toInt64, Int32.reduceToInt, Int64.reduceToInt] at *); omega)
end
