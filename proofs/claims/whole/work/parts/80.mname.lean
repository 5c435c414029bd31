/-! the model's reader: names -/
section
variable {sc : Sc} {I : Is} {L : Ls} {tg : Nat}
/-- a token of the model stands: length, where it begins, where it ends -/
def mTk (I : Is) (N q e : Nat) : Prop := I 95 2 = nI N ∧ N ≤ 900 ∧ I 95 3 = nI q ∧ I 95 4 = nI e ∧ q ≤ e ∧ e ≤ N
theorem l_X12_name {N q e : Nat} (hT : mTk I N q e) : ∀ n p w x, p + n = e → q ≤ p → x = nI p → RR sc mX12_name 1 0 0 (rL (nmW (mtp I) n p w) (XW I L tg)) 0 0 7 [(3, .int x), (1, .long w), (0, .ref 95)] [] (XW I L tg) := by
  obtain ⟨h2, h9, h3, h4, hqe, heN⟩ := hT
  have hei : (I 95 4).toInt = e := by rw [h4, nI_toInt (by omega)]
  intro n
  induction n with
  | zero =>
    intro p w x hp hq hx
    have xi : x.toInt = p := by rw [hx, nI_toInt (by omega)]
    refine r_iload_n (j := 0) rfl rfl dX12_name_7 ?_
    refine r_aload_n (j := 2) rfl rfl dX12_name_8 ?_
    refine w_getI fX12_20 rfl dX12_name_9 ?_
    refine r_icmp_ge (tgt := 35) dX12_name_12 (by decide) (fun c12 => ?_) (fun c12 => ?_)
    · refine r_lload_n (j := 1) rfl rfl dX12_name_35 ?_
      refine w_lret rfl (Nat.le_of_ble_eq_true rfl) (Nat.le_of_ble_eq_true rfl) dX12_name_36 ?_
      exact ⟨rfl, rfl, rfl, rfl⟩
    · exfalso; ((try simp only [bI_0, bI_1, lc_lt, lc_gt, lc_le, lc_ge, Classical.not_not] at *); (try simp only [i_lt, i_le, i_eq, l_lt, l_le, l_eq, Int32.toInt_toInt64, Int32.reduceToInt, Int64.reduceToInt] at *); omega)
  | succ n ih =>
    intro p w x hp hq hx
    have xi : x.toInt = p := by rw [hx, nI_toInt (by omega)]
    refine r_iload_n (j := 0) rfl rfl dX12_name_7 ?_
    refine r_aload_n (j := 2) rfl rfl dX12_name_8 ?_
    refine w_getI fX12_20 rfl dX12_name_9 ?_
    refine r_icmp_ge (tgt := 35) dX12_name_12 (by decide) (fun c12 => ?_) (fun c12 => ?_)
    · exfalso; ((try simp only [bI_0, bI_1, lc_lt, lc_gt, lc_le, lc_ge, Classical.not_not] at *); (try simp only [i_lt, i_le, i_eq, l_lt, l_le, l_eq, Int32.toInt_toInt64, Int32.reduceToInt, Int64.reduceToInt] at *); omega)
    · refine r_lload_n (j := 1) rfl rfl dX12_name_15 ?_
      refine r_iconst (v := 5) rfl dX12_name_16 ?_
      refine r_lshl dX12_name_17 ?_
      refine r_aload_n (j := 2) rfl rfl dX12_name_18 ?_
      refine r_iload_n (j := 0) rfl rfl dX12_name_19 ?_
      refine w_cV1p (k_X12_byteAt h2 h9 hx (by omega)) (Nat.le_of_ble_eq_true rfl) lX12_23 vmX12_byteAt rfl (Nat.le_of_ble_eq_true rfl) (Nat.le_of_ble_eq_true rfl) (Nat.le_of_ble_eq_true rfl) dX12_name_20 ?_
      rw [if_pos (by omega)]
      refine r_bipush (v := 96) rfl dX12_name_23 ?_
      refine r_isub dX12_name_25 ?_
      refine r_i2l dX12_name_26 ?_
      refine r_lor dX12_name_27 ?_
      refine r_lstore_n (lv' := fun z => [(1, .long z), (3, .int x), (0, .ref 95)]) dX12_name_28 rfl (Nat.le_of_ble_eq_true rfl) (fun _ => rfl) (fun x1_28 ex1_28 => ?_)
      refine r_iinc (j := 1) (lv' := fun z => [(3, .int z), (1, .long x1_28), (0, .ref 95)]) dX12_name_29 rfl (Nat.le_of_ble_eq_true rfl) (fun _ => rfl) (fun x3_29 ex3_29 => ?_)
      refine r_goto (tgt := 7) dX12_name_32 (by decide) ?_
      rw [nmW, ← ex1_28]; exact ih (p + 1) x1_28 _ (by omega) (by omega) (by rw [ex3_29, hx]; exact nI_1 _)
theorem k_X12_name {N q e : Nat} (hT : mTk I N q e) : Con sc mX12_name 1 0 0 [.ref 95] (XW I L tg) (rL (nmW (mtp I) (e - q) q 0) (XW I L tg)) := by
  refine Con_of (by decide) (Nat.le_of_ble_eq_true rfl) ?_
  refine r_lconst (v := 0) rfl dX12_name_0 ?_
  refine r_lstore_n (lv' := fun z => [(1, .long z), (0, .ref 95)]) dX12_name_1 rfl (Nat.le_of_ble_eq_true rfl) (fun _ => rfl) (fun x1_1 ex1_1 => ?_)
  refine r_aload_n (j := 1) rfl rfl dX12_name_2 ?_
  refine w_getI fX12_7 rfl dX12_name_3 ?_
  refine r_istore_n (lv' := fun z => [(3, .int z), (1, .long x1_1), (0, .ref 95)]) dX12_name_6 rfl (Nat.le_of_ble_eq_true rfl) (fun _ => rfl) (fun x3_6 ex3_6 => ?_)
  rw [ex1_1]; exact l_X12_name hT (e - q) q 0 _ (by have := hT.2.2.2.2.1; omega) (Nat.le_refl _) (by rw [ex3_6]; exact hT.2.2.1)
theorem l_X12_find {a M N q e K : Nat} {b : Int32} (hT : mTk I N q e) (ha : SHW a = (53, M)) (hM : M ≤ 1000) (hb : b.toInt = K) (hK : K ≤ M) : ∀ n i : Nat, i + n = K → ∀ x : Int32, x = nI i → RR sc mX12_find 2 0 0 (rI (ixN (L a) (nmW (mtp I) (e - q) q 0) n i) (XW I L tg)) 0 0 2 [(3, .int x), (0, .ref 95), (1, .ref a), (2, .int b)] [] (XW I L tg) := by
  intro n
  induction n with
  | zero =>
    intro i hi x ex
    have hx : x.toInt = i := by rw [ex, nI_toInt (by omega)]
    refine r_iload_n (j := 0) rfl rfl dX12_find_2 ?_
    refine r_iload_n (j := 3) rfl rfl dX12_find_3 ?_
    refine r_icmp_ge (tgt := 26) dX12_find_4 (by decide) (fun c4 => ?_) (fun c4 => ?_)
    · refine r_iconst (v := (-1)) rfl dX12_find_26 ?_
      refine w_iret rfl (rfl) (Nat.le_of_ble_eq_true rfl) (Nat.le_of_ble_eq_true rfl) dX12_find_27 ?_
      exact ⟨rfl, rfl, rfl, rfl⟩
    · exfalso; ((try simp only [bI_0, bI_1, lc_lt, lc_gt, lc_le, lc_ge, Classical.not_not] at *); (try simp only [i_lt, i_le, i_eq, l_lt, l_le, l_eq, Int32.toInt_toInt64, Int32.reduceToInt, Int64.reduceToInt] at *); omega)
  | succ n ih =>
    intro i hi x ex
    have hx : x.toInt = i := by rw [ex, nI_toInt (by omega)]
    have hc : x.toNatClampNeg = i := by rw [ex, nI_clamp (by omega)]
    refine r_iload_n (j := 0) rfl rfl dX12_find_2 ?_
    refine r_iload_n (j := 3) rfl rfl dX12_find_3 ?_
    refine r_icmp_ge (tgt := 26) dX12_find_4 (by decide) (fun c4 => ?_) (fun c4 => ?_)
    · exfalso; ((try simp only [bI_0, bI_1, lc_lt, lc_gt, lc_le, lc_ge, Classical.not_not] at *); (try simp only [i_lt, i_le, i_eq, l_lt, l_le, l_eq, Int32.toInt_toInt64, Int32.reduceToInt, Int64.reduceToInt] at *); omega)
    · refine r_aload_n (j := 2) rfl rfl dX12_find_7 ?_
      refine r_iload_n (j := 0) rfl rfl dX12_find_8 ?_
      refine w_lald ha (up_in hx (by omega)) dX12_find_9 ?_
      refine r_aload_n (j := 1) rfl rfl dX12_find_10 ?_
      refine w_cV0l (k_X12_name hT) (Nat.le_of_ble_eq_true rfl) lX12_63 vmX12_name rfl (Nat.le_of_ble_eq_true rfl) (Nat.le_of_ble_eq_true rfl) (Nat.le_of_ble_eq_true rfl) dX12_find_11 ?_
      refine r_lcmp dX12_find_14 ?_
      refine r_if_ne (tgt := 20) dX12_find_15 (by decide) (fun c15 => ?_) (fun c15 => ?_)
      · refine r_iinc (j := 0) (lv' := fun z => [(3, .int z), (0, .ref 95), (1, .ref a), (2, .int b)]) dX12_find_20 rfl (Nat.le_of_ble_eq_true rfl) (fun _ => rfl) (fun x3_20 ex3_20 => ?_)
        refine r_goto (tgt := 2) dX12_find_23 (by decide) ?_
        rw [hc, lc_eq] at c15
        rw [ixN, if_neg c15]
        exact ih (i + 1) (by omega) _ (by rw [ex3_20, ex]; exact nI_1 _)
      · refine r_iload_n (j := 0) rfl rfl dX12_find_18 ?_
        refine w_iret rfl (rfl) (Nat.le_of_ble_eq_true rfl) (Nat.le_of_ble_eq_true rfl) dX12_find_19 ?_
        rw [hc, lc_eq] at c15; exact ⟨by rw [ixN, if_pos c15]; exact ex, rfl, rfl, rfl⟩
theorem k_X12_find {a M N q e K : Nat} {b : Int32} (hT : mTk I N q e) (ha : SHW a = (53, M)) (hM : M ≤ 1000) (hb : b.toInt = K) (hK : K ≤ M) : Con sc mX12_find 2 0 0 [.ref 95, .ref a, .int b] (XW I L tg) (rI (ixN (L a) (nmW (mtp I) (e - q) q 0) K 0) (XW I L tg)) := by
  refine Con_of (by decide) (Nat.le_of_ble_eq_true rfl) ?_
  refine r_iconst (v := 0) rfl dX12_find_0 ?_
  refine r_istore_n (lv' := fun z => [(3, .int z), (0, .ref 95), (1, .ref a), (2, .int b)]) dX12_find_1 rfl (Nat.le_of_ble_eq_true rfl) (fun _ => rfl) (fun x3_1 ex3_1 => ?_)
  exact l_X12_find hT ha hM hb hK K 0 (Nat.zero_add _) _ ex3_1
/-- a new name -/
def mfR (I : Is) (L : Ls) (a K : Nat) (w : Int64) : Int32 := if ¬ I 95 5 = 1 then 1 else if ixN (L a) w K 0 = -1 then 0 else 3
def mfI (I : Is) (N e : Nat) (r : Int32) : Is := if r = 0 then scI I N e else bdI I r
def mfL (L : Ls) (a K : Nat) (w : Int64) (r : Int32) : Ls := if r = 0 then up L a K w else L
theorem k_X12_fresh {a M N q e K : Nat} {b : Int32} (hT : mTk I N q e) (hbt : ∀ j, j < N → -128 ≤ (I 96 j).toInt ∧ (I 96 j).toInt ≤ 127) (ha : SHW a = (53, M)) (hM : M ≤ 1000) (hb : b = nI K) (hK : K < M) : Con sc mX12_fresh 3 0 0 [.ref 95, .ref a, .int b] (XW I L tg) (rI (bI (mfR I L a K (nmW (mtp I) (e - q) q 0) = 0)) (XW (mfI I N e (mfR I L a K (nmW (mtp I) (e - q) q 0))) (mfL L a K (nmW (mtp I) (e - q) q 0) (mfR I L a K (nmW (mtp I) (e - q) q 0))) tg)) := by
  refine Con_of (by decide) (Nat.le_of_ble_eq_true rfl) ?_
  have bi : b.toInt = K := by rw [hb, nI_toInt (by omega)]
  have bc : b.toNatClampNeg = K := by rw [hb, nI_clamp (by omega)]
  obtain ⟨h2, h9, h3, h4, hqe, heN⟩ := id hT
  generalize hw : nmW (mtp I) (e - q) q 0 = w at *
  refine r_aload_n (j := 0) rfl rfl dX12_fresh_0 ?_
  refine w_getI fX12_27 rfl dX12_fresh_1 ?_
  refine r_iconst (v := 1) rfl dX12_fresh_4 ?_
  refine r_icmp_eq (tgt := 14) dX12_fresh_5 (by decide) (fun c5 => ?_) (fun c5 => ?_)
  · refine r_aload_n (j := 0) rfl rfl dX12_fresh_14 ?_
    refine r_aload_n (j := 1) rfl rfl dX12_fresh_15 ?_
    refine r_iload_n (j := 2) rfl rfl dX12_fresh_16 ?_
    refine w_cV2p ((by have z := k_X12_find (sc := sc) (L := L) (tg := tg) hT ha hM bi (Nat.le_of_lt hK); rw [hw] at z; exact z : Con sc mX12_find 2 0 0 [.ref 95, .ref a, .int b] (XW I L tg) (rI (ixN (L a) w K 0) (XW I L tg)))) (Nat.le_of_ble_eq_true rfl) lX12_67 vmX12_find rfl (Nat.le_of_ble_eq_true rfl) (Nat.le_of_ble_eq_true rfl) (Nat.le_of_ble_eq_true rfl) dX12_fresh_17 ?_
    refine r_iconst (v := (-1)) rfl dX12_fresh_20 ?_
    refine r_icmp_eq (tgt := 30) dX12_fresh_21 (by decide) (fun c21 => ?_) (fun c21 => ?_)
    · refine r_aload_n (j := 1) rfl rfl dX12_fresh_30 ?_
      refine r_iload_n (j := 2) rfl rfl dX12_fresh_31 ?_
      refine r_aload_n (j := 0) rfl rfl dX12_fresh_32 ?_
      refine w_cV0l ((by have z := k_X12_name (sc := sc) (L := L) (tg := tg) hT; rw [hw] at z; exact z : Con sc mX12_name 1 0 0 [.ref 95] (XW I L tg) (rL w (XW I L tg)))) (Nat.le_of_ble_eq_true rfl) lX12_63 vmX12_name rfl (Nat.le_of_ble_eq_true rfl) (Nat.le_of_ble_eq_true rfl) (Nat.le_of_ble_eq_true rfl) dX12_fresh_33 ?_
      refine w_last ha (up_in bi hK) dX12_fresh_36 (fun J36 hJ36 => ?_)
      refine r_aload_n (j := 0) rfl rfl dX12_fresh_37 ?_
      refine w_cV0v (k_X12_scan (N := N) (p := e) h2 h9 hbt heN h4) (Nat.le_of_ble_eq_true rfl) lX12_59 vmX12_scan rfl (Nat.le_of_ble_eq_true rfl) (Nat.le_of_ble_eq_true rfl) (Nat.le_of_ble_eq_true rfl) dX12_fresh_38 (fun J38 K38 hJ38 hK38 => ?_)
      subst hK38
      refine r_iconst (v := 1) rfl dX12_fresh_41 ?_
      refine w_iret rfl (rfl) (Nat.le_of_ble_eq_true rfl) (Nat.le_of_ble_eq_true rfl) dX12_fresh_42 ?_
      have r0 : mfR I L a K w = 0 := (by unfold mfR; rw [if_neg (by exact fun z => z c5), if_pos c21]); rw [r0]; exact ⟨rfl, by rw [hJ38]; rfl, by rw [hJ36, bc]; rfl, rfl⟩
    · refine r_aload_n (j := 0) rfl rfl dX12_fresh_24 ?_
      refine r_iconst (v := 3) rfl dX12_fresh_25 ?_
      refine w_cV1s (k_X12_bad) (Nat.le_of_ble_eq_true rfl) lX12_49 vmX12_bad rfl (Nat.le_of_ble_eq_true rfl) (Nat.le_of_ble_eq_true rfl) (Nat.le_of_ble_eq_true rfl) dX12_fresh_26 (fun J26 K26 hJ26 hK26 => ?_)
      subst hK26
      refine w_iret rfl (rfl) (Nat.le_of_ble_eq_true rfl) (Nat.le_of_ble_eq_true rfl) dX12_fresh_29 ?_
      have r0 : mfR I K26 a K w = 3 := (by unfold mfR; rw [if_neg (by exact fun z => z c5), if_neg c21]); rw [r0]; exact ⟨rfl, by rw [hJ26]; rfl, rfl, rfl⟩
  · refine r_aload_n (j := 0) rfl rfl dX12_fresh_8 ?_
    refine r_iconst (v := 1) rfl dX12_fresh_9 ?_
    refine w_cV1s (k_X12_bad) (Nat.le_of_ble_eq_true rfl) lX12_49 vmX12_bad rfl (Nat.le_of_ble_eq_true rfl) (Nat.le_of_ble_eq_true rfl) (Nat.le_of_ble_eq_true rfl) dX12_fresh_10 (fun J10 K10 hJ10 hK10 => ?_)
    subst hK10
    refine w_iret rfl (rfl) (Nat.le_of_ble_eq_true rfl) (Nat.le_of_ble_eq_true rfl) dX12_fresh_13 ?_
    have r0 : mfR I K10 a K w = 1 := if_pos c5; rw [r0]; exact ⟨rfl, by rw [hJ10]; rfl, rfl, rfl⟩
end
