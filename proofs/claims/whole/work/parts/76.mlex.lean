/-! the model's TOKENS -/
section
variable {sc : Sc} {I : Is} {L : Ls} {tg : Nat}
theorem k_X12_isSmall {c : Int32} : Con sc mX12_isSmall 0 0 0 [.int c] (XW I L tg) (rI (bI (isL c)) (XW I L tg)) := by
  refine Con_of (by decide) (Nat.le_of_ble_eq_true rfl) ?_
  refine r_iload_n (j := 0) rfl rfl dX12_isSmall_0 ?_
  refine r_bipush (v := 97) rfl dX12_isSmall_1 ?_
  refine r_icmp_lt (tgt := 16) dX12_isSmall_3 (by decide) (fun c3 => ?_) (fun c3 => ?_)
  · refine r_iconst (v := 0) rfl dX12_isSmall_16 ?_
    refine w_iret rfl (rfl) (Nat.le_of_ble_eq_true rfl) (Nat.le_of_ble_eq_true rfl) dX12_isSmall_17 ?_
    exact ⟨by first | exact (bI_t (by ((try simp only [bI_0, bI_1, lc_lt, lc_gt, lc_le, lc_ge, Classical.not_not] at *); (try simp only [i_lt, i_le, i_eq, l_lt, l_le, l_eq, Int32.toInt_toInt64, Int32.reduceToInt, Int64.reduceToInt] at *); omega))).symm | exact (bI_f (by ((try simp only [bI_0, bI_1, lc_lt, lc_gt, lc_le, lc_ge, Classical.not_not] at *); (try simp only [i_lt, i_le, i_eq, l_lt, l_le, l_eq, Int32.toInt_toInt64, Int32.reduceToInt, Int64.reduceToInt] at *); omega))).symm, rfl, rfl, rfl⟩
  · refine r_iload_n (j := 0) rfl rfl dX12_isSmall_6 ?_
    refine r_bipush (v := 122) rfl dX12_isSmall_7 ?_
    refine r_icmp_gt (tgt := 16) dX12_isSmall_9 (by decide) (fun c9 => ?_) (fun c9 => ?_)
    · refine r_iconst (v := 0) rfl dX12_isSmall_16 ?_
      refine w_iret rfl (rfl) (Nat.le_of_ble_eq_true rfl) (Nat.le_of_ble_eq_true rfl) dX12_isSmall_17 ?_
      exact ⟨by first | exact (bI_t (by ((try simp only [bI_0, bI_1, lc_lt, lc_gt, lc_le, lc_ge, Classical.not_not] at *); (try simp only [i_lt, i_le, i_eq, l_lt, l_le, l_eq, Int32.toInt_toInt64, Int32.reduceToInt, Int64.reduceToInt] at *); omega))).symm | exact (bI_f (by ((try simp only [bI_0, bI_1, lc_lt, lc_gt, lc_le, lc_ge, Classical.not_not] at *); (try simp only [i_lt, i_le, i_eq, l_lt, l_le, l_eq, Int32.toInt_toInt64, Int32.reduceToInt, Int64.reduceToInt] at *); omega))).symm, rfl, rfl, rfl⟩
    · refine r_iconst (v := 1) rfl dX12_isSmall_12 ?_
      refine r_goto (tgt := 17) dX12_isSmall_13 (by decide) ?_
      refine w_iret rfl (rfl) (Nat.le_of_ble_eq_true rfl) (Nat.le_of_ble_eq_true rfl) dX12_isSmall_17 ?_
      exact ⟨by first | exact (bI_t (by ((try simp only [bI_0, bI_1, lc_lt, lc_gt, lc_le, lc_ge, Classical.not_not] at *); (try simp only [i_lt, i_le, i_eq, l_lt, l_le, l_eq, Int32.toInt_toInt64, Int32.reduceToInt, Int64.reduceToInt] at *); omega))).symm | exact (bI_f (by ((try simp only [bI_0, bI_1, lc_lt, lc_gt, lc_le, lc_ge, Classical.not_not] at *); (try simp only [i_lt, i_le, i_eq, l_lt, l_le, l_eq, Int32.toInt_toInt64, Int32.reduceToInt, Int64.reduceToInt] at *); omega))).symm, rfl, rfl, rfl⟩
theorem k_X12_isDigit {c : Int32} : Con sc mX12_isDigit 0 0 0 [.int c] (XW I L tg) (rI (bI (isDg c)) (XW I L tg)) := by
  refine Con_of (by decide) (Nat.le_of_ble_eq_true rfl) ?_
  refine r_iload_n (j := 0) rfl rfl dX12_isDigit_0 ?_
  refine r_bipush (v := 48) rfl dX12_isDigit_1 ?_
  refine r_icmp_lt (tgt := 16) dX12_isDigit_3 (by decide) (fun c3 => ?_) (fun c3 => ?_)
  · refine r_iconst (v := 0) rfl dX12_isDigit_16 ?_
    refine w_iret rfl (rfl) (Nat.le_of_ble_eq_true rfl) (Nat.le_of_ble_eq_true rfl) dX12_isDigit_17 ?_
    exact ⟨by first | exact (bI_t (by ((try simp only [bI_0, bI_1, lc_lt, lc_gt, lc_le, lc_ge, Classical.not_not] at *); (try simp only [i_lt, i_le, i_eq, l_lt, l_le, l_eq, Int32.toInt_toInt64, Int32.reduceToInt, Int64.reduceToInt] at *); omega))).symm | exact (bI_f (by ((try simp only [bI_0, bI_1, lc_lt, lc_gt, lc_le, lc_ge, Classical.not_not] at *); (try simp only [i_lt, i_le, i_eq, l_lt, l_le, l_eq, Int32.toInt_toInt64, Int32.reduceToInt, Int64.reduceToInt] at *); omega))).symm, rfl, rfl, rfl⟩
  · refine r_iload_n (j := 0) rfl rfl dX12_isDigit_6 ?_
    refine r_bipush (v := 57) rfl dX12_isDigit_7 ?_
    refine r_icmp_gt (tgt := 16) dX12_isDigit_9 (by decide) (fun c9 => ?_) (fun c9 => ?_)
    · refine r_iconst (v := 0) rfl dX12_isDigit_16 ?_
      refine w_iret rfl (rfl) (Nat.le_of_ble_eq_true rfl) (Nat.le_of_ble_eq_true rfl) dX12_isDigit_17 ?_
      exact ⟨by first | exact (bI_t (by ((try simp only [bI_0, bI_1, lc_lt, lc_gt, lc_le, lc_ge, Classical.not_not] at *); (try simp only [i_lt, i_le, i_eq, l_lt, l_le, l_eq, Int32.toInt_toInt64, Int32.reduceToInt, Int64.reduceToInt] at *); omega))).symm | exact (bI_f (by ((try simp only [bI_0, bI_1, lc_lt, lc_gt, lc_le, lc_ge, Classical.not_not] at *); (try simp only [i_lt, i_le, i_eq, l_lt, l_le, l_eq, Int32.toInt_toInt64, Int32.reduceToInt, Int64.reduceToInt] at *); omega))).symm, rfl, rfl, rfl⟩
    · refine r_iconst (v := 1) rfl dX12_isDigit_12 ?_
      refine r_goto (tgt := 17) dX12_isDigit_13 (by decide) ?_
      refine w_iret rfl (rfl) (Nat.le_of_ble_eq_true rfl) (Nat.le_of_ble_eq_true rfl) dX12_isDigit_17 ?_
      exact ⟨by first | exact (bI_t (by ((try simp only [bI_0, bI_1, lc_lt, lc_gt, lc_le, lc_ge, Classical.not_not] at *); (try simp only [i_lt, i_le, i_eq, l_lt, l_le, l_eq, Int32.toInt_toInt64, Int32.reduceToInt, Int64.reduceToInt] at *); omega))).symm | exact (bI_f (by ((try simp only [bI_0, bI_1, lc_lt, lc_gt, lc_le, lc_ge, Classical.not_not] at *); (try simp only [i_lt, i_le, i_eq, l_lt, l_le, l_eq, Int32.toInt_toInt64, Int32.reduceToInt, Int64.reduceToInt] at *); omega))).symm, rfl, rfl, rfl⟩
/-- the model's tape, byte by byte -/
def mtp (I : Is) (j : Nat) : Int32 := I 96 j &&& 255
theorem k_X12_byteAt {N p : Nat} {x : Int32} (hN : I 95 2 = nI N) (h9 : N ≤ 900) (hx : x = nI p) (hp : p ≤ N) : Con sc mX12_byteAt 0 0 0 [.ref 95, .int x] (XW I L tg) (rI (if p < N then mtp I p else 0) (XW I L tg)) := by
  refine Con_of (by decide) (Nat.le_of_ble_eq_true rfl) ?_
  have hNi : (I 95 2).toInt = N := by rw [hN, nI_toInt (by omega)]
  have xi : x.toInt = p := by rw [hx, nI_toInt (by omega)]
  have xc : x.toNatClampNeg = p := by rw [hx, nI_clamp (by omega)]
  refine r_iload_n (j := 1) rfl rfl dX12_byteAt_0 ?_
  refine r_aload_n (j := 0) rfl rfl dX12_byteAt_1 ?_
  refine w_getI fX12_13 rfl dX12_byteAt_2 ?_
  refine r_icmp_ge (tgt := 21) dX12_byteAt_5 (by decide) (fun c5 => ?_) (fun c5 => ?_)
  · refine r_iconst (v := 0) rfl dX12_byteAt_21 ?_
    refine w_iret rfl (rfl) (Nat.le_of_ble_eq_true rfl) (Nat.le_of_ble_eq_true rfl) dX12_byteAt_22 ?_
    exact ⟨by rw [if_neg (by rw [i_le, xi, hNi] at c5; omega)], rfl, rfl, rfl⟩
  · refine r_aload_n (j := 0) rfl rfl dX12_byteAt_8 ?_
    refine w_getR (b := 96) fX12_16 rfl rfl dX12_byteAt_9 ?_
    refine r_iload_n (j := 1) rfl rfl dX12_byteAt_12 ?_
    refine w_bald rfl (up_in xi (by rw [i_le, xi, hNi] at c5; omega)) dX12_byteAt_13 ?_
    refine r_sipush (v := 255) rfl dX12_byteAt_14 ?_
    refine r_iand dX12_byteAt_17 ?_
    refine r_goto (tgt := 22) dX12_byteAt_18 (by decide) ?_
    refine w_iret rfl (rfl) (Nat.le_of_ble_eq_true rfl) (Nat.le_of_ble_eq_true rfl) dX12_byteAt_22 ?_
    exact ⟨by rw [if_pos (by rw [i_le, xi, hNi] at c5; omega), xc]; rfl, rfl, rfl, rfl⟩
theorem bt_c {x c : Int32} (h : -128 ≤ x.toInt ∧ x.toInt ≤ 127) (hc : 0 ≤ c.toInt ∧ c.toInt < 128) : x = c ↔ x &&& 255 = c := by
  have e : x &&& 255 = nI (x.toBitVec.toNat % 256) := pk_and x (m := 255) 8 (by decide)
  have hx : x.toInt = if 2 * x.toBitVec.toNat < 2 ^ 32 then (x.toBitVec.toNat : Int) else (x.toBitVec.toNat : Int) - (2 ^ 32 : Nat) := BitVec.toInt_eq_toNat_cond x.toBitVec
  have hlt := x.toBitVec.isLt
  have ei : (x &&& 255).toInt = ((x.toBitVec.toNat % 256 : Nat) : Int) := by rw [e, nI_toInt (by omega)]
  rw [← Int32.toInt_inj, ← Int32.toInt_inj, ei]
  split at hx <;> omega
theorem bt_r (x : Int32) : 0 ≤ (x &&& 255).toInt := by
  have e : x &&& 255 = nI (x.toBitVec.toNat % 256) := pk_and x (m := 255) 8 (by decide)
  rw [e, nI_toInt (by omega)]
  omega
/-- rows that differ in one cell only -/
theorem up_one {α : Type} {I J : Nat → Nat → α} {b : Nat} (h : ∀ a, a ≠ b → I a = J a) (h3 : ∀ k, I b k = J b k) : I = J := by
  funext a
  by_cases e : a = b
  · subst e; funext k; exact h3 k
  · exact h a e
/-- the model's scanner: blanks -/
theorem l_X12_scan1 {N : Nat} {post : Po} (hN : I 95 2 = nI N) (h9 : N ≤ 900) (hb : ∀ j, j < N → -128 ≤ (I 96 j).toInt ∧ (I 96 j).toInt ≤ 127) : ∀ n p, p + n = N → I 95 4 = nI p → (∀ J, J = up I 95 4 (nI (skB (mtp I) n p)) → RR sc mX12_scan 2 0 0 post 0 0 52 [(0, .ref 95)] [] (XW J L tg)) → RR sc mX12_scan 2 0 0 post 0 0 0 [(0, .ref 95)] [] (XW I L tg) := by
  intro n
  induction n generalizing I with
  | zero =>
    intro p hp h4 kk
    have hNi : (I 95 2).toInt = N := by rw [hN, nI_toInt (by omega)]
    have hpi : (I 95 4).toInt = p := by rw [h4, nI_toInt (by omega)]
    refine r_aload_n (j := 0) rfl rfl dX12_scan_0 ?_
    refine w_getI fX12_20 rfl dX12_scan_1 ?_
    refine r_aload_n (j := 0) rfl rfl dX12_scan_4 ?_
    refine w_getI fX12_13 rfl dX12_scan_5 ?_
    refine r_icmp_ge (tgt := 52) dX12_scan_8 (by decide) (fun c8 => ?_) (fun c8 => ?_)
    · exact kk _ (by rw [skB, ← h4, up_id])
    · exfalso; ((try simp only [bI_0, bI_1, lc_lt, lc_gt, lc_le, lc_ge, Classical.not_not] at *); (try simp only [i_lt, i_le, i_eq, l_lt, l_le, l_eq, Int32.toInt_toInt64, Int32.reduceToInt, Int64.reduceToInt] at *); omega)
  | succ n ih =>
    intro p hp h4 kk
    have hNi : (I 95 2).toInt = N := by rw [hN, nI_toInt (by omega)]
    have hpi : (I 95 4).toInt = p := by rw [h4, nI_toInt (by omega)]
    have hpc : (I 95 4).toNatClampNeg = p := by rw [h4, nI_clamp (by omega)]
    have b32 : I 96 p = 32 ↔ mtp I p = 32 := bt_c (hb p (by omega)) (by decide)
    have b10 : I 96 p = 10 ↔ mtp I p = 10 := bt_c (hb p (by omega)) (by decide)
    have yes : isBl (mtp I p) → RR sc mX12_scan 2 0 0 post 0 0 39 [(0, .ref 95)] [] (XW I L tg) := by
      intro hz
      refine r_aload_n (j := 0) rfl rfl dX12_scan_39 ?_
      refine r_dup rfl dX12_scan_40 ?_
      refine w_getI fX12_20 rfl dX12_scan_41 ?_
      refine r_iconst (v := 1) rfl dX12_scan_44 ?_
      refine r_iadd dX12_scan_45 ?_
      refine w_putI fX12_20 rfl (rfl) (rfl) dX12_scan_46 (fun J46 hJ46 => ?_)
      refine r_goto (tgt := 0) dX12_scan_49 (by decide) ?_
      rw [h4, nI_1] at hJ46
      have e96 : J46 96 = I 96 := by rw [hJ46, up_n _ _ _ (by decide)]
      have em : mtp J46 = mtp I := by funext j; unfold mtp; rw [e96]
      refine ih (I := J46) (by rw [hJ46, up_s, vu_n _ _ (by decide)]; exact hN) (by rw [e96]; exact hb) (p + 1) (by omega) (by rw [hJ46, up_s, vu_s]) (fun J hJ => kk J ?_)
      rw [hJ, em, hJ46, up_up, skB, if_pos hz]
    refine r_aload_n (j := 0) rfl rfl dX12_scan_0 ?_
    refine w_getI fX12_20 rfl dX12_scan_1 ?_
    refine r_aload_n (j := 0) rfl rfl dX12_scan_4 ?_
    refine w_getI fX12_13 rfl dX12_scan_5 ?_
    refine r_icmp_ge (tgt := 52) dX12_scan_8 (by decide) (fun c8 => ?_) (fun c8 => ?_)
    · exfalso; ((try simp only [bI_0, bI_1, lc_lt, lc_gt, lc_le, lc_ge, Classical.not_not] at *); (try simp only [i_lt, i_le, i_eq, l_lt, l_le, l_eq, Int32.toInt_toInt64, Int32.reduceToInt, Int64.reduceToInt] at *); omega)
    · refine r_aload_n (j := 0) rfl rfl dX12_scan_11 ?_
      refine w_getR (b := 96) fX12_16 rfl rfl dX12_scan_12 ?_
      refine r_aload_n (j := 0) rfl rfl dX12_scan_15 ?_
      refine w_getI fX12_20 rfl dX12_scan_16 ?_
      refine w_bald rfl (up_in hpi (show _ < 900 by omega)) dX12_scan_19 ?_
      rw [hpc]
      refine r_bipush (v := 32) rfl dX12_scan_20 ?_
      refine r_icmp_eq (tgt := 39) dX12_scan_22 (by decide) (fun c22 => ?_) (fun c22 => ?_)
      · exact yes (Or.inl (b32.mp c22))
      · refine r_aload_n (j := 0) rfl rfl dX12_scan_25 ?_
        refine w_getR (b := 96) fX12_16 rfl rfl dX12_scan_26 ?_
        refine r_aload_n (j := 0) rfl rfl dX12_scan_29 ?_
        refine w_getI fX12_20 rfl dX12_scan_30 ?_
        refine w_bald rfl (up_in hpi (show _ < 900 by omega)) dX12_scan_33 ?_
        rw [hpc]
        refine r_bipush (v := 10) rfl dX12_scan_34 ?_
        refine r_icmp_ne (tgt := 52) dX12_scan_36 (by decide) (fun c36 => ?_) (fun c36 => ?_)
        · exact kk _ (by rw [skB, if_neg (by rintro (z | z); exact c22 (b32.mpr z); exact c36 (b10.mpr z)), ← h4, up_id])
        · exact yes (Or.inr (b10.mp c36))
/-- letters -/
theorem l_X12_scan2 {N : Nat} {post : Po} {x : Int32} (hN : I 95 2 = nI N) (h9 : N ≤ 900) : ∀ n p w, p + n = N → I 95 4 = nI p → (∀ J, J = up I 95 4 (nI (wdE (mtp I) n p w).1) → RR sc mX12_scan 2 0 0 post 0 0 122 [(1, .int x), (0, .ref 95)] [] (XW J L tg)) → RR sc mX12_scan 2 0 0 post 0 0 95 [(1, .int x), (0, .ref 95)] [] (XW I L tg) := by
  intro n
  induction n generalizing I with
  | zero =>
    intro p w hp h4 kk
    refine r_aload_n (j := 1) rfl rfl dX12_scan_95 ?_
    refine r_aload_n (j := 1) rfl rfl dX12_scan_96 ?_
    refine w_getI fX12_20 rfl dX12_scan_97 ?_
    refine w_cV1p (k_X12_byteAt hN h9 h4 (by omega)) (Nat.le_of_ble_eq_true rfl) lX12_23 vmX12_byteAt rfl (Nat.le_of_ble_eq_true rfl) (Nat.le_of_ble_eq_true rfl) (Nat.le_of_ble_eq_true rfl) dX12_scan_100 ?_
    rw [if_neg (by omega)]
    refine w_cS1p (k_X12_isSmall) (Nat.le_of_ble_eq_true rfl) lX12_30 mtX12_isSmall (Nat.le_of_ble_eq_true rfl) (Nat.le_of_ble_eq_true rfl) (Nat.le_of_ble_eq_true rfl) dX12_scan_103 ?_
    refine r_if_eq (tgt := 122) dX12_scan_106 (by decide) (fun c106 => ?_) (fun c106 => ?_)
    · exact kk _ (by rw [wdE, ← h4, up_id])
    · exact absurd (bI_1.mp c106) (by decide)
  | succ n ih =>
    intro p w hp h4 kk
    refine r_aload_n (j := 1) rfl rfl dX12_scan_95 ?_
    refine r_aload_n (j := 1) rfl rfl dX12_scan_96 ?_
    refine w_getI fX12_20 rfl dX12_scan_97 ?_
    refine w_cV1p (k_X12_byteAt hN h9 h4 (by omega)) (Nat.le_of_ble_eq_true rfl) lX12_23 vmX12_byteAt rfl (Nat.le_of_ble_eq_true rfl) (Nat.le_of_ble_eq_true rfl) (Nat.le_of_ble_eq_true rfl) dX12_scan_100 ?_
    rw [if_pos (by omega)]
    refine w_cS1p (k_X12_isSmall) (Nat.le_of_ble_eq_true rfl) lX12_30 mtX12_isSmall (Nat.le_of_ble_eq_true rfl) (Nat.le_of_ble_eq_true rfl) (Nat.le_of_ble_eq_true rfl) dX12_scan_103 ?_
    refine r_if_eq (tgt := 122) dX12_scan_106 (by decide) (fun c106 => ?_) (fun c106 => ?_)
    · exact kk _ (by rw [wdE, if_neg (bI_0.mp c106), ← h4, up_id])
    · refine r_aload_n (j := 1) rfl rfl dX12_scan_109 ?_
      refine r_dup rfl dX12_scan_110 ?_
      refine w_getI fX12_20 rfl dX12_scan_111 ?_
      refine r_iconst (v := 1) rfl dX12_scan_114 ?_
      refine r_iadd dX12_scan_115 ?_
      refine w_putI fX12_20 rfl (rfl) (rfl) dX12_scan_116 (fun J116 hJ116 => ?_)
      refine r_goto (tgt := 95) dX12_scan_119 (by decide) ?_
      rw [h4, nI_1] at hJ116
      have e96 : J116 96 = I 96 := by rw [hJ116, up_n _ _ _ (by decide)]
      have em : mtp J116 = mtp I := by funext j; unfold mtp; rw [e96]
      refine ih (I := J116) (by rw [hJ116, up_s, vu_n _ _ (by decide)]; exact hN) (p + 1) (wlS w (mtp I p)) (by omega) (by rw [hJ116, up_s, vu_s]) (fun J hJ => kk J ?_)
      rw [hJ, em, hJ116, up_up, wdE, if_pos (bI_1.mp c106)]
/-- digits: the model's number -/
def mvE (t : Nat → Int32) (q : Nat) : Nat → Nat → Int32 → Int32
  | 0, _, v => v
  | n + 1, p, v => if isDg (t p) then mvE t q n (p + 1) (if p - q < 4 then 10 * v + t p - 48 else v) else v
theorem l_X12_scan3 {N q : Nat} {post : Po} {x : Int32} (hN : I 95 2 = nI N) (h9 : N ≤ 900) (h3 : I 95 3 = nI q) : ∀ n p w, p + n = N → q ≤ p → I 95 4 = nI p → (∀ J, J = up (up I 95 4 (nI (nmE (mtp I) n p w).1)) 95 6 (mvE (mtp I) q n p (I 95 6)) → RR sc mX12_scan 2 0 0 post 0 0 223 [(1, .int x), (0, .ref 95)] [] (XW J L tg)) → RR sc mX12_scan 2 0 0 post 0 0 160 [(1, .int x), (0, .ref 95)] [] (XW I L tg) := by
  intro n
  induction n generalizing I with
  | zero =>
    intro p w hp hq h4 kk
    refine r_aload_n (j := 1) rfl rfl dX12_scan_160 ?_
    refine r_aload_n (j := 1) rfl rfl dX12_scan_161 ?_
    refine w_getI fX12_20 rfl dX12_scan_162 ?_
    refine w_cV1p (k_X12_byteAt hN h9 h4 (by omega)) (Nat.le_of_ble_eq_true rfl) lX12_23 vmX12_byteAt rfl (Nat.le_of_ble_eq_true rfl) (Nat.le_of_ble_eq_true rfl) (Nat.le_of_ble_eq_true rfl) dX12_scan_165 ?_
    rw [if_neg (by omega)]
    refine w_cS1p (k_X12_isDigit) (Nat.le_of_ble_eq_true rfl) lX12_34 mtX12_isDigit (Nat.le_of_ble_eq_true rfl) (Nat.le_of_ble_eq_true rfl) (Nat.le_of_ble_eq_true rfl) dX12_scan_168 ?_
    refine r_if_eq (tgt := 223) dX12_scan_171 (by decide) (fun c171 => ?_) (fun c171 => ?_)
    · exact kk _ (by rw [nmE, mvE, ← h4, up_id, up_id])
    · exact absurd (bI_1.mp c171) (by decide)
  | succ n ih =>
    intro p w hp hq h4 kk
    have es : (I 95 4 - I 95 3).toInt = ((p - q : Nat) : Int) := by rw [h4, h3, pk_sub hq, nI_toInt (by omega)]
    have nxt : ∀ (J : Is) (v : Int32), isDg (mtp I p) → v = (if p - q < 4 then 10 * I 95 6 + mtp I p - 48 else I 95 6) → J = up I 95 6 v → RR sc mX12_scan 2 0 0 post 0 0 210 [(1, .int x), (0, .ref 95)] [] (XW J L tg) := by
      intro J v hd hv hJ
      have j4 : J 95 4 = nI p := by rw [hJ, up_s, vu_n _ _ (by decide)]; exact h4
      refine r_aload_n (j := 1) rfl rfl dX12_scan_210 ?_
      refine r_dup rfl dX12_scan_211 ?_
      refine w_getI fX12_20 rfl dX12_scan_212 ?_
      refine r_iconst (v := 1) rfl dX12_scan_215 ?_
      refine r_iadd dX12_scan_216 ?_
      refine w_putI fX12_20 rfl (rfl) (rfl) dX12_scan_217 (fun J217 hJ217 => ?_)
      refine r_goto (tgt := 160) dX12_scan_220 (by decide) ?_
      rw [j4, nI_1] at hJ217
      have e96 : J217 96 = I 96 := by rw [hJ217, up_n _ _ _ (by decide), hJ, up_n _ _ _ (by decide)]
      have em : mtp J217 = mtp I := by funext j; unfold mtp; rw [e96]
      refine ih (I := J217) (by rw [hJ217, hJ]; simp [up_eq, vu_eq, hN]) (by rw [hJ217, hJ]; simp [up_eq, vu_eq, h3]) (p + 1) (w * 10 + (mtp I p - 48)) (by omega) (by omega) (by rw [hJ217, up_s, vu_s]) (fun M hM => kk M ?_)
      have e6 : J217 95 6 = v := by rw [hJ217, hJ]; simp [up_eq, vu_eq]
      rw [hM, em, e6, nmE, if_pos hd, mvE, if_pos hd, ← hv, hJ217, hJ]
      refine up_one (b := 95) (fun a ha => by simp [up_eq, ha]) (fun k => ?_)
      simp only [up_eq, vu_eq, if_true]
      by_cases k6 : k = 6
      · simp [k6]
      · by_cases k4 : k = 4
        · simp [k4]
        · simp [k6, k4]
    refine r_aload_n (j := 1) rfl rfl dX12_scan_160 ?_
    refine r_aload_n (j := 1) rfl rfl dX12_scan_161 ?_
    refine w_getI fX12_20 rfl dX12_scan_162 ?_
    refine w_cV1p (k_X12_byteAt hN h9 h4 (by omega)) (Nat.le_of_ble_eq_true rfl) lX12_23 vmX12_byteAt rfl (Nat.le_of_ble_eq_true rfl) (Nat.le_of_ble_eq_true rfl) (Nat.le_of_ble_eq_true rfl) dX12_scan_165 ?_
    rw [if_pos (by omega)]
    refine w_cS1p (k_X12_isDigit) (Nat.le_of_ble_eq_true rfl) lX12_34 mtX12_isDigit (Nat.le_of_ble_eq_true rfl) (Nat.le_of_ble_eq_true rfl) (Nat.le_of_ble_eq_true rfl) dX12_scan_168 ?_
    refine r_if_eq (tgt := 223) dX12_scan_171 (by decide) (fun c171 => ?_) (fun c171 => ?_)
    · exact kk _ (by rw [nmE, mvE, if_neg (bI_0.mp c171), if_neg (bI_0.mp c171), ← h4, up_id, up_id])
    · refine r_aload_n (j := 1) rfl rfl dX12_scan_174 ?_
      refine w_getI fX12_20 rfl dX12_scan_175 ?_
      refine r_aload_n (j := 1) rfl rfl dX12_scan_178 ?_
      refine w_getI fX12_7 rfl dX12_scan_179 ?_
      refine r_isub dX12_scan_182 ?_
      refine r_iconst (v := 4) rfl dX12_scan_183 ?_
      refine r_icmp_ge (tgt := 210) dX12_scan_184 (by decide) (fun c184 => ?_) (fun c184 => ?_)
      · exact nxt _ (I 95 6) (bI_1.mp c171) (by rw [if_neg (by ((try simp only [bI_0, bI_1, lc_lt, lc_gt, lc_le, lc_ge, Classical.not_not] at *); (try simp only [i_lt, i_le, i_eq, l_lt, l_le, l_eq, Int32.toInt_toInt64, Int32.reduceToInt, Int64.reduceToInt] at *); omega))]) (up_id _ _ _).symm
      · refine r_aload_n (j := 1) rfl rfl dX12_scan_187 ?_
        refine r_bipush (v := 10) rfl dX12_scan_188 ?_
        refine r_aload_n (j := 1) rfl rfl dX12_scan_190 ?_
        refine w_getI fX12_37 rfl dX12_scan_191 ?_
        refine r_imul dX12_scan_194 ?_
        refine r_aload_n (j := 1) rfl rfl dX12_scan_195 ?_
        refine r_aload_n (j := 1) rfl rfl dX12_scan_196 ?_
        refine w_getI fX12_20 rfl dX12_scan_197 ?_
        refine w_cV1p (k_X12_byteAt hN h9 h4 (by omega)) (Nat.le_of_ble_eq_true rfl) lX12_23 vmX12_byteAt rfl (Nat.le_of_ble_eq_true rfl) (Nat.le_of_ble_eq_true rfl) (Nat.le_of_ble_eq_true rfl) dX12_scan_200 ?_
        rw [if_pos (by omega)]
        refine r_iadd dX12_scan_203 ?_
        refine r_bipush (v := 48) rfl dX12_scan_204 ?_
        refine r_isub dX12_scan_206 ?_
        refine w_putI fX12_37 rfl (rfl) (rfl) dX12_scan_207 (fun J207 hJ207 => ?_)
        exact nxt _ _ (bI_1.mp c171) (by rw [if_pos (by ((try simp only [bI_0, bI_1, lc_lt, lc_gt, lc_le, lc_ge, Classical.not_not] at *); (try simp only [i_lt, i_le, i_eq, l_lt, l_le, l_eq, Int32.toInt_toInt64, Int32.reduceToInt, Int64.reduceToInt] at *); omega))]) hJ207
end
