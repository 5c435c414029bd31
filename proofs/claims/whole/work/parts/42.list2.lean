/-! A LIST: the public face -/
section
theorem n32_w (w : Int32) : w = nI (n32 w) := n32_inj (by rw [n32_nI (n32_lt w)])
theorem andn0 {N : Nat} (hN : N ≤ 30) (w : Int32) : (w &&& (nI (2 ^ N - 1) ^^^ (-1)) = 0) ↔ (0 ≤ w.toInt ∧ w.toInt < ((2 ^ N : Nat) : Int)) := by
  have hp : (2 : Nat) ^ N ≤ 2 ^ 30 := Nat.pow_le_pow_right (by decide) hN
  have hp2 : (2 : Nat) ^ 30 = 1073741824 := by decide
  have k1 : n32 (-1) = 2 ^ 32 - 1 := by decide
  have hm : n32 (w &&& (nI (2 ^ N - 1) ^^^ (-1))) = n32 w &&& ((2 ^ N - 1) ^^^ (2 ^ 32 - 1)) := by
    rw [n32_and, n32_xor, n32_nI (by omega), k1]
  have key : w &&& (nI (2 ^ N - 1) ^^^ (-1)) = 0 ↔ n32 w < 2 ^ N := by
    constructor
    · intro h
      rw [h] at hm
      apply Nat.lt_pow_two_of_testBit
      intro j hj
      by_cases h32 : j < 32
      · have := congrArg (fun z => z.testBit j) hm
        simp only [Nat.testBit_and, Nat.testBit_xor, Nat.testBit_two_pow_sub_one] at this
        rw [show n32 0 = 0 from rfl, Nat.zero_testBit] at this
        simpa [h32, show ¬ j < N by omega] using this
      · exact Nat.testBit_lt_two_pow (Nat.lt_of_lt_of_le (n32_lt w) (Nat.pow_le_pow_right (n := 2) (by decide) (show 32 ≤ j by omega)))
    · intro h
      apply n32_inj
      rw [hm]
      apply Nat.eq_of_testBit_eq
      intro j
      rw [Nat.testBit_and, Nat.testBit_xor, Nat.testBit_two_pow_sub_one, Nat.testBit_two_pow_sub_one, show n32 0 = 0 from rfl, Nat.zero_testBit]
      by_cases hj : j < N
      · simp [hj, show j < 32 by omega]
      · have : (n32 w).testBit j = false := Nat.testBit_lt_two_pow (Nat.lt_of_lt_of_le h (Nat.pow_le_pow_right (by decide) (by omega)))
        simp [this]
  rw [key]
  constructor
  · intro h
    have e : w.toInt = n32 w := by
      conv => lhs; rw [n32_w w]
      exact nI_toInt (by omega)
    omega
  · intro ⟨h1, h2⟩
    have e := i_nI h1
    have e2 := i_cl h1
    rw [e, n32_nI (by omega)]
    omega
theorem all_n {n : Int32} {N : Nat} (en : n = nI N) (h : N ≤ 30) : ((1 : Int32) <<< (n &&& 31)) - 1 = nI (2 ^ N - 1) := by
  rw [en, g_one N (by omega), nI_pr (Nat.two_pow_pos N)]
def liC (s n w f sp t : Int32) : Prop := 0 ≤ s.toInt ∧ (1 ≤ n.toInt ∧ n.toInt ≤ 30) ∧ 0 ≤ f.toInt ∧ 0 ≤ t.toInt ∧ (0 ≤ w.toInt ∧ w.toInt < ((2 ^ nN n : Nat) : Int)) ∧ 0 ≤ sp.toInt ∧ sp.toInt < ((2 ^ nN n : Nat) : Int)
section
variable {sc : Sc} {I : Is} {L : Ls} {tg : Nat}
theorem k_X11_list_r {s n w f sp t : Int32} (hc : ¬ liC s n w f sp t) : Con sc mX11_list 3 0 0 [.ref 0, .int s, .int n, .int w, .int f, .int sp, .int t] (XW I L tg) (rI (-2) (XW I L tg)) := by
  refine Con_of (by decide) (Nat.le_of_ble_eq_true rfl) ?_
  refine r_iload_n (j := 1) rfl rfl dX11_list_0 ?_
  refine r_if_lt (tgt := 24) dX11_list_1 (by decide) (fun c1 => ?_) (fun c1 => ?_)
  · refine r_bipush (v := (-2)) rfl dX11_list_24 ?_
    refine w_iret rfl (rfl) (Nat.le_of_ble_eq_true rfl) (Nat.le_of_ble_eq_true rfl) dX11_list_26 ?_
    exact ⟨rfl, rfl, rfl, rfl⟩
  · refine r_iload_n (j := 2) rfl rfl dX11_list_4 ?_
    refine r_iconst (v := 1) rfl dX11_list_5 ?_
    refine r_bipush (v := 30) rfl dX11_list_6 ?_
    refine w_cS3p (k_X11_isWithin) (Nat.le_of_ble_eq_true rfl) lX11_166 mtX11_isWithin (Nat.le_of_ble_eq_true rfl) (Nat.le_of_ble_eq_true rfl) (Nat.le_of_ble_eq_true rfl) dX11_list_8 ?_
    refine r_if_eq (tgt := 24) dX11_list_11 (by decide) (fun c11 => ?_) (fun c11 => ?_)
    · refine r_bipush (v := (-2)) rfl dX11_list_24 ?_
      refine w_iret rfl (rfl) (Nat.le_of_ble_eq_true rfl) (Nat.le_of_ble_eq_true rfl) dX11_list_26 ?_
      exact ⟨rfl, rfl, rfl, rfl⟩
    · refine r_iload (j := 4) rfl dX11_list_14 ?_
      refine r_if_lt (tgt := 24) dX11_list_16 (by decide) (fun c16 => ?_) (fun c16 => ?_)
      · refine r_bipush (v := (-2)) rfl dX11_list_24 ?_
        refine w_iret rfl (rfl) (Nat.le_of_ble_eq_true rfl) (Nat.le_of_ble_eq_true rfl) dX11_list_26 ?_
        exact ⟨rfl, rfl, rfl, rfl⟩
      · refine r_iload (j := 6) rfl dX11_list_19 ?_
        refine r_if_ge (tgt := 27) dX11_list_21 (by decide) (fun c21 => ?_) (fun c21 => ?_)
        · refine r_iconst (v := 1) rfl dX11_list_27 ?_
          refine r_iload_n (j := 2) rfl rfl dX11_list_28 ?_
          refine r_ishl dX11_list_29 ?_
          refine r_iconst (v := 1) rfl dX11_list_30 ?_
          refine r_isub dX11_list_31 ?_
          refine r_istore (lv' := fun z => [(7, .int z), (0, .ref 0), (1, .int s), (2, .int n), (3, .int w), (4, .int f), (5, .int sp), (6, .int t)]) dX11_list_32 (Nat.le_of_ble_eq_true rfl) (fun _ => rfl) (fun x7_32 ex7_32 => ?_)
          refine r_iload_n (j := 4) rfl rfl dX11_list_34 ?_
          refine r_iload (j := 0) rfl dX11_list_35 ?_
          refine r_iconst (v := (-1)) rfl dX11_list_37 ?_
          refine r_ixor dX11_list_38 ?_
          refine r_iand dX11_list_39 ?_
          refine r_if_ne (tgt := 53) dX11_list_40 (by decide) (fun c40 => ?_) (fun c40 => ?_)
          · refine r_bipush (v := (-2)) rfl dX11_list_53 ?_
            refine w_iret rfl (rfl) (Nat.le_of_ble_eq_true rfl) (Nat.le_of_ble_eq_true rfl) dX11_list_55 ?_
            exact ⟨rfl, rfl, rfl, rfl⟩
          · refine r_iload (j := 6) rfl dX11_list_43 ?_
            refine r_iload (j := 0) rfl dX11_list_45 ?_
            refine r_iconst (v := (-1)) rfl dX11_list_47 ?_
            refine r_ixor dX11_list_48 ?_
            refine r_iand dX11_list_49 ?_
            refine r_if_eq (tgt := 56) dX11_list_50 (by decide) (fun c50 => ?_) (fun c50 => ?_)
            · exfalso
              have hn := bI_1.mp c11
              have hn : 1 ≤ n.toInt ∧ n.toInt ≤ 30 := hn
              have en : n = nI (nN n) := i_nI (by omega)
              have e30 : nN n ≤ 30 := by have := nN_of (x := n) (by omega); omega
              rw [all_n en e30] at ex7_32
              rw [ex7_32] at c40 c50
              exact hc ⟨by ((try simp only [bI_0, bI_1, lc_lt, lc_gt, lc_le, lc_ge, Classical.not_not] at *); (try simp only [i_lt, i_le, i_eq, l_lt, l_le, l_eq, Int32.toInt_toInt64, Int32.reduceToInt, Int64.reduceToInt] at *); omega), hn, by ((try simp only [bI_0, bI_1, lc_lt, lc_gt, lc_le, lc_ge, Classical.not_not] at *); (try simp only [i_lt, i_le, i_eq, l_lt, l_le, l_eq, Int32.toInt_toInt64, Int32.reduceToInt, Int64.reduceToInt] at *); omega), by ((try simp only [bI_0, bI_1, lc_lt, lc_gt, lc_le, lc_ge, Classical.not_not] at *); (try simp only [i_lt, i_le, i_eq, l_lt, l_le, l_eq, Int32.toInt_toInt64, Int32.reduceToInt, Int64.reduceToInt] at *); omega), (andn0 e30 w).mp c40, (andn0 e30 sp).mp c50⟩
            · refine r_bipush (v := (-2)) rfl dX11_list_53 ?_
              refine w_iret rfl (rfl) (Nat.le_of_ble_eq_true rfl) (Nat.le_of_ble_eq_true rfl) dX11_list_55 ?_
              exact ⟨rfl, rfl, rfl, rfl⟩
        · refine r_bipush (v := (-2)) rfl dX11_list_24 ?_
          refine w_iret rfl (rfl) (Nat.le_of_ble_eq_true rfl) (Nat.le_of_ble_eq_true rfl) dX11_list_26 ?_
          exact ⟨rfl, rfl, rfl, rfl⟩
def spk (S W : Nat) : Nat := S &&& (W ^^^ (2 ^ 32 - 1))
theorem spk_n {S W : Nat} (hS : S < 2147483648) (hW : W < 2147483648) : nI S &&& (nI W ^^^ (-1)) = nI (spk S W) := by
  have k1 : n32 (-1) = 2 ^ 32 - 1 := by decide
  have hl : spk S W ≤ S := Nat.and_le_left
  apply n32_inj
  rw [n32_and, n32_xor, n32_nI (by omega), n32_nI (by omega), n32_nI (by omega), k1]
  rfl
theorem spk_tb {S W : Nat} (hS : S < 2147483648) (j : Nat) : (spk S W).testBit j = (S.testBit j && !W.testBit j) := by
  unfold spk
  rw [Nat.testBit_and, Nat.testBit_xor, Nat.testBit_two_pow_sub_one]
  cases h : S.testBit j with
  | false => rfl
  | true =>
    have : j < 31 := low_lt h hS
    simp [show j < 32 by omega]
/-- numbers of the call, as they are -/
def liN (s n w f sp t : Int32) (N W F S T : Nat) : Prop := 0 ≤ s.toInt ∧ n = nI N ∧ w = nI W ∧ f = nI F ∧ sp = nI S ∧ t = nI T ∧ 1 ≤ N ∧ N ≤ 30 ∧ W < 2 ^ N ∧ S < 2 ^ N ∧ F < 2147483648 ∧ T < 2147483648
theorem p30 {N : Nat} (h : N ≤ 30) : 2 ^ N ≤ 1073741824 := by
  have : (2 : Nat) ^ N ≤ 2 ^ 30 := Nat.pow_le_pow_right (by decide) h
  exact this
theorem k_X11_list_n {s n w f sp t : Int32} {N W F S T : Nat} (hl : liN s n w f sp t N W F S T) (hc : cnt W 32 < F ∨ cnt (spk S W) 32 < T) : Con sc mX11_list 3 0 0 [.ref 0, .int s, .int n, .int w, .int f, .int sp, .int t] (XW I L tg) (rI (-1) (XW I L tg)) := by
  obtain ⟨hs, en, ew, ef, es, et, h1, h30, hW, hS, hF, hT⟩ := hl
  have hp := p30 h30
  have hni : n.toInt = N := by rw [en, nI_toInt (by omega)]
  have hfi : f.toInt = F := by rw [ef, nI_toInt hF]
  have hti : t.toInt = T := by rw [et, nI_toInt hT]
  have hwi : w.toInt = W := by rw [ew, nI_toInt (by omega)]
  have hsi : sp.toInt = S := by rw [es, nI_toInt (by omega)]
  have c1W := cnt_le W 32
  have c2W := cnt_le (spk S W) 32
  have s1 : spk S W ≤ S := Nat.and_le_left
  have b1 : (swr w).toInt = cnt W 32 := by rw [ew, swr_pop (by omega), nI_toInt (by omega)]
  refine Con_of (by decide) (Nat.le_of_ble_eq_true rfl) ?_
  refine r_iload_n (j := 1) rfl rfl dX11_list_0 ?_
  refine r_if_lt (tgt := 24) dX11_list_1 (by decide) (fun c1 => ?_) (fun c1 => ?_)
  · exfalso; ((try simp only [bI_0, bI_1, lc_lt, lc_gt, lc_le, lc_ge, Classical.not_not] at *); (try simp only [i_lt, i_le, i_eq, l_lt, l_le, l_eq, Int32.toInt_toInt64, Int32.reduceToInt, Int64.reduceToInt] at *); omega)
  · refine r_iload_n (j := 2) rfl rfl dX11_list_4 ?_
    refine r_iconst (v := 1) rfl dX11_list_5 ?_
    refine r_bipush (v := 30) rfl dX11_list_6 ?_
    refine w_cS3p (k_X11_isWithin) (Nat.le_of_ble_eq_true rfl) lX11_166 mtX11_isWithin (Nat.le_of_ble_eq_true rfl) (Nat.le_of_ble_eq_true rfl) (Nat.le_of_ble_eq_true rfl) dX11_list_8 ?_
    refine r_if_eq (tgt := 24) dX11_list_11 (by decide) (fun c11 => ?_) (fun c11 => ?_)
    · exact absurd ⟨by show (1 : Int) ≤ _; omega, by show _ ≤ (30 : Int); omega⟩ (bI_0.mp c11)
    · refine r_iload (j := 4) rfl dX11_list_14 ?_
      refine r_if_lt (tgt := 24) dX11_list_16 (by decide) (fun c16 => ?_) (fun c16 => ?_)
      · exfalso; ((try simp only [bI_0, bI_1, lc_lt, lc_gt, lc_le, lc_ge, Classical.not_not] at *); (try simp only [i_lt, i_le, i_eq, l_lt, l_le, l_eq, Int32.toInt_toInt64, Int32.reduceToInt, Int64.reduceToInt] at *); omega)
      · refine r_iload (j := 6) rfl dX11_list_19 ?_
        refine r_if_ge (tgt := 27) dX11_list_21 (by decide) (fun c21 => ?_) (fun c21 => ?_)
        · refine r_iconst (v := 1) rfl dX11_list_27 ?_
          refine r_iload_n (j := 2) rfl rfl dX11_list_28 ?_
          refine r_ishl dX11_list_29 ?_
          refine r_iconst (v := 1) rfl dX11_list_30 ?_
          refine r_isub dX11_list_31 ?_
          refine r_istore (lv' := fun z => [(7, .int z), (0, .ref 0), (1, .int s), (2, .int n), (3, .int w), (4, .int f), (5, .int sp), (6, .int t)]) dX11_list_32 (Nat.le_of_ble_eq_true rfl) (fun _ => rfl) (fun x7_32 ex7_32 => ?_)
          rw [all_n en h30] at ex7_32
          refine r_iload_n (j := 4) rfl rfl dX11_list_34 ?_
          refine r_iload (j := 0) rfl dX11_list_35 ?_
          refine r_iconst (v := (-1)) rfl dX11_list_37 ?_
          refine r_ixor dX11_list_38 ?_
          refine r_iand dX11_list_39 ?_
          refine r_if_ne (tgt := 53) dX11_list_40 (by decide) (fun c40 => ?_) (fun c40 => ?_)
          · rw [ex7_32] at c40; exact absurd ((andn0 h30 w).mpr (by omega)) c40
          · refine r_iload (j := 6) rfl dX11_list_43 ?_
            refine r_iload (j := 0) rfl dX11_list_45 ?_
            refine r_iconst (v := (-1)) rfl dX11_list_47 ?_
            refine r_ixor dX11_list_48 ?_
            refine r_iand dX11_list_49 ?_
            refine r_if_eq (tgt := 56) dX11_list_50 (by decide) (fun c50 => ?_) (fun c50 => ?_)
            · refine r_iload (j := 6) rfl dX11_list_56 ?_
              refine r_iload_n (j := 4) rfl rfl dX11_list_58 ?_
              refine r_iconst (v := (-1)) rfl dX11_list_59 ?_
              refine r_ixor dX11_list_60 ?_
              refine r_iand dX11_list_61 ?_
              refine r_istore (lv' := fun z => [(8, .int z), (7, .int x7_32), (0, .ref 0), (1, .int s), (2, .int n), (3, .int w), (4, .int f), (5, .int sp), (6, .int t)]) dX11_list_62 (Nat.le_of_ble_eq_true rfl) (fun _ => rfl) (fun x8_62 ex8_62 => ?_)
              rw [es, ew, spk_n (by omega) (by omega)] at ex8_62
              refine r_iload (j := 6) rfl dX11_list_64 ?_
              refine r_iload_n (j := 5) rfl rfl dX11_list_66 ?_
              refine w_cS1p (k_J6_bitCount_0f7a4) (Nat.le_of_ble_eq_true rfl) lX11_310 mtJ6_bitCount_0f7a4 (Nat.le_of_ble_eq_true rfl) (Nat.le_of_ble_eq_true rfl) (Nat.le_of_ble_eq_true rfl) dX11_list_67 ?_
              refine r_icmp_gt (tgt := 83) dX11_list_70 (by decide) (fun c70 => ?_) (fun c70 => ?_)
              · refine r_iconst (v := (-1)) rfl dX11_list_83 ?_
                refine w_iret rfl (rfl) (Nat.le_of_ble_eq_true rfl) (Nat.le_of_ble_eq_true rfl) dX11_list_84 ?_
                exact ⟨rfl, rfl, rfl, rfl⟩
              · refine r_iload (j := 8) rfl dX11_list_73 ?_
                refine r_iload (j := 0) rfl dX11_list_75 ?_
                refine w_cS1p (k_J6_bitCount_0f7a4) (Nat.le_of_ble_eq_true rfl) lX11_310 mtJ6_bitCount_0f7a4 (Nat.le_of_ble_eq_true rfl) (Nat.le_of_ble_eq_true rfl) (Nat.le_of_ble_eq_true rfl) dX11_list_77 ?_
                refine r_icmp_le (tgt := 85) dX11_list_80 (by decide) (fun c80 => ?_) (fun c80 => ?_)
                · exfalso
                  have b2 : (swr x8_62).toInt = cnt (spk S W) 32 := by rw [ex8_62, swr_pop (by omega), nI_toInt (by omega)]
                  rw [i_lt] at c70
                  rw [i_le] at c80
                  omega
                · refine r_iconst (v := (-1)) rfl dX11_list_83 ?_
                  refine w_iret rfl (rfl) (Nat.le_of_ble_eq_true rfl) (Nat.le_of_ble_eq_true rfl) dX11_list_84 ?_
                  exact ⟨rfl, rfl, rfl, rfl⟩
            · rw [ex7_32] at c50; exact absurd ((andn0 h30 sp).mpr (by omega)) c50
        · exfalso; ((try simp only [bI_0, bI_1, lc_lt, lc_gt, lc_le, lc_ge, Classical.not_not] at *); (try simp only [i_lt, i_le, i_eq, l_lt, l_le, l_eq, Int32.toInt_toInt64, Int32.reduceToInt, Int64.reduceToInt] at *); omega)
theorem dwI_self {J : Is} {q : Dw} (h1 : J 92 2 = nI q.1) (h2 : J 92 3 = nI q.2.1) (h3 : J 93 = q.2.2.2) : J = dwI J q := by
  unfold dwI
  funext a
  by_cases g1 : a = 92
  · subst g1
    funext j
    by_cases g2 : j = 2
    · subst g2; simp [up_eq, upr_eq, vu_eq, h1]
    · by_cases g3 : j = 3
      · subst g3; simp [up_eq, upr_eq, vu_eq, h2]
      · simp [up_eq, upr_eq, vu_eq, g2, g3]
  · by_cases g2 : a = 93
    · subst g2; simp [upr_eq, h3]
    · simp [up_eq, upr_eq, g1, g2]
theorem dwI_2 (I : Is) (q : Dw) : dwI I q 92 2 = nI q.1 := by simp [dwI, up_eq, upr_eq, vu_eq]
theorem dwI_3 (I : Is) (q : Dw) : dwI I q 92 3 = nI q.2.1 := by simp [dwI, up_eq, upr_eq, vu_eq]
theorem dwI_93 (I : Is) (q : Dw) : dwI I q 93 = q.2.2.2 := by simp [dwI, upr_eq]
theorem dwI_dw (I : Is) (q r : Dw) : dwI (dwI I q) r = dwI I r := by
  unfold dwI
  funext a
  by_cases g1 : a = 92
  · subst g1
    funext j
    by_cases g2 : j = 2
    · subst g2; simp [up_eq, upr_eq, vu_eq]
    · by_cases g3 : j = 3
      · subst g3; simp [up_eq, upr_eq, vu_eq]
      · simp [up_eq, upr_eq, vu_eq, g2, g3]
  · by_cases g2 : a = 93
    · subst g2; simp [upr_eq]
    · simp [up_eq, upr_eq, g1, g2]
theorem dwI_be (I : Is) (u m : Int32) (r : Dw) : dwI (up (up I 92 2 u) 92 3 m) r = dwI I r := by
  unfold dwI
  funext a
  by_cases g1 : a = 92
  · subst g1
    funext j
    by_cases g2 : j = 2
    · subst g2; simp [up_eq, upr_eq, vu_eq]
    · by_cases g3 : j = 3
      · subst g3; simp [up_eq, upr_eq, vu_eq]
      · simp [up_eq, upr_eq, vu_eq, g2, g3]
  · by_cases g2 : a = 93
    · subst g2; simp [up_eq, upr_eq]
    · simp [up_eq, upr_eq, g1, g2]
theorem up_id {α : Type} (I : Nat → Nat → α) (a k : Nat) : up I a k (I a k) = I := by
  funext b j
  by_cases h : b = a
  · subst h
    rw [up_s]
    by_cases h2 : j = k
    · subst h2; rw [vu_s]
    · rw [vu_n _ _ h2]
  · rw [up_n _ _ _ h]
theorem dwS_f {g : Nat} : ∀ n (q : Dw), dwOk g n q → (dwS g n q).2.1 = q.2.1 + n ∧ (dwS g n q).1 ≤ q.1 ∧ (0 ≤ (dwS g n q).2.2.1.toInt ∧ (dwS g n q).2.2.1.toInt < 2147483648) ∧ (∀ j, g.testBit j = false → (dwS g n q).1.testBit j = q.1.testBit j) ∧ (∀ j, (dwS g n q).1.testBit j = true → q.1.testBit j = true) ∧ cnt (dwS g n q).1 32 + n = cnt q.1 32 := by
  intro n
  induction n with
  | zero => intro q h; exact ⟨rfl, Nat.le_refl _, h.2.2.1, fun _ _ => rfl, fun _ z => z, rfl⟩
  | succ n ih =>
    intro q h
    obtain ⟨-, -, ht, hp⟩ := dwP_ok h
    obtain ⟨a1, a2, a3, a4, a5, a6⟩ := ih _ (dwN_ok h)
    rw [Nat.testBit_and, Bool.and_eq_true] at ht
    have e : (dwN g q).1 = clr q.1 (dwP g q) := rfl
    have e2 : (dwN g q).2.1 = q.2.1 + 1 := rfl
    have hc := cnt_clr ht.2 32
    rw [if_pos (by omega)] at hc
    have hl := clr_le q.1 (dwP g q)
    rw [dwS]
    rw [e] at a2 a6
    refine ⟨by omega, by omega, a3, fun j hj => ?_, fun j hj => ?_, by omega⟩
    · rw [a4 j hj, e, clr_tb]
      have : j ≠ dwP g q := fun z => by rw [z, ht.1] at hj; cases hj
      simp [this]
    · have := a5 j hj
      rw [e, clr_tb, Bool.and_eq_true] at this
      exact this.1
theorem cnt_all : ∀ N, N ≤ 30 → cnt (2 ^ N - 1) 32 = N := by decide +kernel
theorem cnt_sub {a b : Nat} (h : ∀ j, a.testBit j = true → b.testBit j = true) : ∀ n, cnt a n ≤ cnt b n := by
  intro n
  induction n with
  | zero => exact Nat.le_refl _
  | succ n ih =>
    show cnt a n + (a.testBit n).toNat ≤ cnt b n + (b.testBit n).toNat
    cases hb : a.testBit n with
    | false => simp; omega
    | true => rw [h n hb]; simp; omega
theorem and_sub {a b : Nat} (h : ∀ j, a.testBit j = true → b.testBit j = true) : a &&& b = a ∧ b &&& a = a := by
  constructor <;> (apply Nat.eq_of_testBit_eq; intro j; rw [Nat.testBit_and]; cases hb : a.testBit j with
    | false => simp
    | true => simp [h j hb])
theorem tb_all {W N : Nat} (h : W < 2 ^ N) (j : Nat) (hj : W.testBit j = true) : (2 ^ N - 1).testBit j = true := by
  rw [Nat.testBit_two_pow_sub_one]
  exact decide_eq_true (low_lt hj h)
/-- the three drawings -/
def li0 (N : Nat) (s : Int64) (r : Nat → Int32) : Dw := (2 ^ N - 1, 0, s, r)
def li1 (N W F : Nat) (s : Int64) (r : Nat → Int32) : Dw := dwS W F (li0 N s r)
def li2 (N W F S T : Nat) (s : Int64) (r : Nat → Int32) : Dw := dwS (spk S W) T (li1 N W F s r)
def li3 (N W F S T : Nat) (s : Int64) (r : Nat → Int32) : Dw := dwS (2 ^ N - 1) (N - F - T) (li2 N W F S T s r)
theorem li_ok {N W F S T : Nat} {s : Int64} {r : Nat → Int32} (h30 : N ≤ 30) (hW : W < 2 ^ N) (hS : S < 2 ^ N) (hs : 0 ≤ s.toInt ∧ s.toInt < 2147483648) (hF : F ≤ cnt W 32) (hT : T ≤ cnt (spk S W) 32) : dwOk W F (li0 N s r) ∧ dwOk (spk S W) T (li1 N W F s r) ∧ dwOk (2 ^ N - 1) (N - F - T) (li2 N W F S T s r) ∧ F + T ≤ N := by
  have hp := p30 h30
  have hp0 := Nat.two_pow_pos N
  have s1 : spk S W ≤ S := Nat.and_le_left
  have hca := cnt_all N h30
  have hcW := cnt_sub (tb_all hW) 32
  have o1 : dwOk W F (li0 N s r) := by
    refine ⟨by omega, by show 2 ^ N - 1 < _; omega, hs, by show 0 + F ≤ 30; omega, ?_⟩
    show F ≤ cnt (W &&& (2 ^ N - 1)) 32
    rw [(and_sub (tb_all hW)).1]
    exact hF
  obtain ⟨a1, a2, a3, a4, a5, a6⟩ := dwS_f F _ o1
  have a1 : (li1 N W F s r).2.1 = 0 + F := a1
  have a2 : (li1 N W F s r).1 ≤ 2 ^ N - 1 := a2
  have a6 : cnt (li1 N W F s r).1 32 + F = cnt (2 ^ N - 1) 32 := a6
  have hsub : ∀ j, (spk S W).testBit j = true → (li1 N W F s r).1.testBit j = true := by
    intro j hj
    rw [spk_tb (by omega), Bool.and_eq_true] at hj
    have := a4 j (by simpa using hj.2)
    have h2 : (li1 N W F s r).1.testBit j = (2 ^ N - 1).testBit j := this
    rw [h2]
    exact tb_all hS j hj.1
  have hcS := cnt_sub hsub 32
  have o2 : dwOk (spk S W) T (li1 N W F s r) := by
    refine ⟨by omega, by omega, a3, by omega, ?_⟩
    rw [(and_sub hsub).1]
    exact hT
  obtain ⟨b1, b2, b3, b4, b5, b6⟩ := dwS_f T _ o2
  have b1 : (li2 N W F S T s r).2.1 = (li1 N W F s r).2.1 + T := b1
  have b2 : (li2 N W F S T s r).1 ≤ (li1 N W F s r).1 := b2
  have b6 : cnt (li2 N W F S T s r).1 32 + T = cnt (li1 N W F s r).1 32 := b6
  have hsub2 : ∀ j, (li2 N W F S T s r).1.testBit j = true → (2 ^ N - 1).testBit j = true := fun j hj => a5 j (b5 j hj)
  refine ⟨o1, o2, ⟨by omega, by omega, b3, by omega, ?_⟩, by omega⟩
  rw [(and_sub hsub2).2]
  omega
theorem k_X11_list_y {s n w f sp t : Int32} {N W F S T : Nat} (hl : liN s n w f sp t N W F S T) (hcF : F ≤ cnt W 32) (hcT : T ≤ cnt (spk S W) 32) : Con sc mX11_list 3 0 0 [.ref 0, .int s, .int n, .int w, .int f, .int sp, .int t] (XW I L tg) (rI (nI N) (XW (dwI I (li3 N W F S T s.toInt64 (I 93))) (dwL L (li3 N W F S T s.toInt64 (I 93))) tg)) := by
  obtain ⟨hs, en, ew, ef, es, et, h1, h30, hW, hS, hF, hT⟩ := hl
  have hp := p30 h30
  have hs2 := (i_rng s).2
  obtain ⟨o1, o2, o3, o4⟩ := li_ok (r := I 93) h30 hW hS (s := s.toInt64) (by rw [Int32.toInt_toInt64]; omega) hcF hcT
  have hni : n.toInt = N := by rw [en, nI_toInt (by omega)]
  have hfi : f.toInt = F := by rw [ef, nI_toInt hF]
  have hti : t.toInt = T := by rw [et, nI_toInt hT]
  have hwi : w.toInt = W := by rw [ew, nI_toInt (by omega)]
  have hsi : sp.toInt = S := by rw [es, nI_toInt (by omega)]
  have c1W := cnt_le W 32
  have c2W := cnt_le (spk S W) 32
  have s1 : spk S W ≤ S := Nat.and_le_left
  have b1 : (swr w).toInt = cnt W 32 := by rw [ew, swr_pop (by omega), nI_toInt (by omega)]
  have en3 : n - f - t = nI (N - F - T) := by rw [en, ef, et, pk_sub (by omega), pk_sub (by omega)]
  refine Con_of (by decide) (Nat.le_of_ble_eq_true rfl) ?_
  refine r_iload_n (j := 1) rfl rfl dX11_list_0 ?_
  refine r_if_lt (tgt := 24) dX11_list_1 (by decide) (fun c1 => ?_) (fun c1 => ?_)
  · exfalso; ((try simp only [bI_0, bI_1, lc_lt, lc_gt, lc_le, lc_ge, Classical.not_not] at *); (try simp only [i_lt, i_le, i_eq, l_lt, l_le, l_eq, Int32.toInt_toInt64, Int32.reduceToInt, Int64.reduceToInt] at *); omega)
  · refine r_iload_n (j := 2) rfl rfl dX11_list_4 ?_
    refine r_iconst (v := 1) rfl dX11_list_5 ?_
    refine r_bipush (v := 30) rfl dX11_list_6 ?_
    refine w_cS3p (k_X11_isWithin) (Nat.le_of_ble_eq_true rfl) lX11_166 mtX11_isWithin (Nat.le_of_ble_eq_true rfl) (Nat.le_of_ble_eq_true rfl) (Nat.le_of_ble_eq_true rfl) dX11_list_8 ?_
    refine r_if_eq (tgt := 24) dX11_list_11 (by decide) (fun c11 => ?_) (fun c11 => ?_)
    · exact absurd ⟨by show (1 : Int) ≤ _; omega, by show _ ≤ (30 : Int); omega⟩ (bI_0.mp c11)
    · refine r_iload (j := 4) rfl dX11_list_14 ?_
      refine r_if_lt (tgt := 24) dX11_list_16 (by decide) (fun c16 => ?_) (fun c16 => ?_)
      · exfalso; ((try simp only [bI_0, bI_1, lc_lt, lc_gt, lc_le, lc_ge, Classical.not_not] at *); (try simp only [i_lt, i_le, i_eq, l_lt, l_le, l_eq, Int32.toInt_toInt64, Int32.reduceToInt, Int64.reduceToInt] at *); omega)
      · refine r_iload (j := 6) rfl dX11_list_19 ?_
        refine r_if_ge (tgt := 27) dX11_list_21 (by decide) (fun c21 => ?_) (fun c21 => ?_)
        · refine r_iconst (v := 1) rfl dX11_list_27 ?_
          refine r_iload_n (j := 2) rfl rfl dX11_list_28 ?_
          refine r_ishl dX11_list_29 ?_
          refine r_iconst (v := 1) rfl dX11_list_30 ?_
          refine r_isub dX11_list_31 ?_
          refine r_istore (lv' := fun z => [(7, .int z), (0, .ref 0), (1, .int s), (2, .int n), (3, .int w), (4, .int f), (5, .int sp), (6, .int t)]) dX11_list_32 (Nat.le_of_ble_eq_true rfl) (fun _ => rfl) (fun x7_32 ex7_32 => ?_)
          rw [all_n en h30] at ex7_32
          refine r_iload_n (j := 4) rfl rfl dX11_list_34 ?_
          refine r_iload (j := 0) rfl dX11_list_35 ?_
          refine r_iconst (v := (-1)) rfl dX11_list_37 ?_
          refine r_ixor dX11_list_38 ?_
          refine r_iand dX11_list_39 ?_
          refine r_if_ne (tgt := 53) dX11_list_40 (by decide) (fun c40 => ?_) (fun c40 => ?_)
          · rw [ex7_32] at c40; exact absurd ((andn0 h30 w).mpr (by omega)) c40
          · refine r_iload (j := 6) rfl dX11_list_43 ?_
            refine r_iload (j := 0) rfl dX11_list_45 ?_
            refine r_iconst (v := (-1)) rfl dX11_list_47 ?_
            refine r_ixor dX11_list_48 ?_
            refine r_iand dX11_list_49 ?_
            refine r_if_eq (tgt := 56) dX11_list_50 (by decide) (fun c50 => ?_) (fun c50 => ?_)
            · refine r_iload (j := 6) rfl dX11_list_56 ?_
              refine r_iload_n (j := 4) rfl rfl dX11_list_58 ?_
              refine r_iconst (v := (-1)) rfl dX11_list_59 ?_
              refine r_ixor dX11_list_60 ?_
              refine r_iand dX11_list_61 ?_
              refine r_istore (lv' := fun z => [(8, .int z), (7, .int x7_32), (0, .ref 0), (1, .int s), (2, .int n), (3, .int w), (4, .int f), (5, .int sp), (6, .int t)]) dX11_list_62 (Nat.le_of_ble_eq_true rfl) (fun _ => rfl) (fun x8_62 ex8_62 => ?_)
              rw [es, ew, spk_n (by omega) (by omega)] at ex8_62; have b2 : (swr x8_62).toInt = cnt (spk S W) 32 := by rw [ex8_62, swr_pop (by omega), nI_toInt (by omega)]
              refine r_iload (j := 6) rfl dX11_list_64 ?_
              refine r_iload_n (j := 5) rfl rfl dX11_list_66 ?_
              refine w_cS1p (k_J6_bitCount_0f7a4) (Nat.le_of_ble_eq_true rfl) lX11_310 mtJ6_bitCount_0f7a4 (Nat.le_of_ble_eq_true rfl) (Nat.le_of_ble_eq_true rfl) (Nat.le_of_ble_eq_true rfl) dX11_list_67 ?_
              refine r_icmp_gt (tgt := 83) dX11_list_70 (by decide) (fun c70 => ?_) (fun c70 => ?_)
              · exfalso; rw [i_lt] at c70; omega
              · refine r_iload (j := 8) rfl dX11_list_73 ?_
                refine r_iload (j := 0) rfl dX11_list_75 ?_
                refine w_cS1p (k_J6_bitCount_0f7a4) (Nat.le_of_ble_eq_true rfl) lX11_310 mtJ6_bitCount_0f7a4 (Nat.le_of_ble_eq_true rfl) (Nat.le_of_ble_eq_true rfl) (Nat.le_of_ble_eq_true rfl) dX11_list_77 ?_
                refine r_icmp_le (tgt := 85) dX11_list_80 (by decide) (fun c80 => ?_) (fun c80 => ?_)
                · refine r_aload_n (j := 2) rfl rfl dX11_list_85 ?_
                  refine w_getR (b := 92) fX11_84 rfl rfl dX11_list_86 ?_
                  refine r_iload_n (j := 3) rfl rfl dX11_list_89 ?_
                  refine r_iload (j := 1) rfl dX11_list_90 ?_
                  refine w_cV2v (k_X6_begin) (Nat.le_of_ble_eq_true rfl) lX11_315 vmX6_begin rfl (Nat.le_of_ble_eq_true rfl) (Nat.le_of_ble_eq_true rfl) (Nat.le_of_ble_eq_true rfl) dX11_list_92 (fun J92 K92 hJ92 hK92 => ?_)
                  subst hK92
                  refine r_aload_n (j := 2) rfl rfl dX11_list_95 ?_
                  refine w_getR (b := 92) fX11_84 rfl rfl dX11_list_96 ?_
                  refine r_iload_n (j := 5) rfl rfl dX11_list_99 ?_
                  refine r_iload (j := 6) rfl dX11_list_100 ?_
                  refine w_cV2v (k_X6_drawFrom (q := li0 N s.toInt64 (I 93)) ew ef (dwI_self (by rw [hJ92, ex7_32]; simp [up_eq, vu_eq, li0]) (by rw [hJ92]; simp [up_eq, vu_eq, li0]; rfl) (by rw [hJ92]; simp [up_eq, li0])) (by unfold dwL li0; rw [up_up]) o1) (Nat.le_of_ble_eq_true rfl) lX11_318 vmX6_drawFrom rfl (Nat.le_of_ble_eq_true rfl) (Nat.le_of_ble_eq_true rfl) (Nat.le_of_ble_eq_true rfl) dX11_list_102 (fun J102 K102 hJ102 hK102 => ?_)
                  subst hK102
                  refine r_aload_n (j := 2) rfl rfl dX11_list_105 ?_
                  refine w_getR (b := 92) fX11_84 rfl rfl dX11_list_106 ?_
                  refine r_iload (j := 0) rfl dX11_list_109 ?_
                  refine r_iload (j := 8) rfl dX11_list_111 ?_
                  refine w_cV2v (k_X6_drawFrom (q := li1 N W F s.toInt64 (I 93)) ex8_62 et (by rw [hJ102]; exact (dwI_dw _ _ _).symm) (up_up _ _ _ _ _).symm o2) (Nat.le_of_ble_eq_true rfl) lX11_318 vmX6_drawFrom rfl (Nat.le_of_ble_eq_true rfl) (Nat.le_of_ble_eq_true rfl) (Nat.le_of_ble_eq_true rfl) dX11_list_113 (fun J113 K113 hJ113 hK113 => ?_)
                  subst hK113
                  refine r_aload_n (j := 2) rfl rfl dX11_list_116 ?_
                  refine w_getR (b := 92) fX11_84 rfl rfl dX11_list_117 ?_
                  refine r_iload (j := 1) rfl dX11_list_120 ?_
                  refine r_iload_n (j := 4) rfl rfl dX11_list_122 ?_
                  refine r_iload (j := 6) rfl dX11_list_123 ?_
                  refine r_isub dX11_list_125 ?_
                  refine r_iload (j := 8) rfl dX11_list_126 ?_
                  refine r_isub dX11_list_128 ?_
                  refine w_cV2v (k_X6_drawFrom (q := li2 N W F S T s.toInt64 (I 93)) ex7_32 en3 (by rw [hJ113]; exact (dwI_dw _ _ _).symm) (up_up _ _ _ _ _).symm o3) (Nat.le_of_ble_eq_true rfl) lX11_318 vmX6_drawFrom rfl (Nat.le_of_ble_eq_true rfl) (Nat.le_of_ble_eq_true rfl) (Nat.le_of_ble_eq_true rfl) dX11_list_129 (fun J129 K129 hJ129 hK129 => ?_)
                  subst hK129
                  refine r_aload_n (j := 2) rfl rfl dX11_list_132 ?_
                  refine w_getR (b := 92) fX11_84 rfl rfl dX11_list_133 ?_
                  refine w_getI fX11_321 rfl dX11_list_136 ?_
                  refine w_iret rfl (rfl) (Nat.le_of_ble_eq_true rfl) (Nat.le_of_ble_eq_true rfl) dX11_list_139 ?_
                  have e3 : (li3 N W F S T s.toInt64 (I 93)).2.1 = N := by
                    have q1 := (dwS_f F _ o1).1
                    have q2 := (dwS_f T _ o2).1
                    have q3 := (dwS_f (N - F - T) _ o3).1
                    have q1 : (li1 N W F s.toInt64 (I 93)).2.1 = 0 + F := q1
                    have q2 : (li2 N W F S T s.toInt64 (I 93)).2.1 = (li1 N W F s.toInt64 (I 93)).2.1 + T := q2
                    have q3 : (li3 N W F S T s.toInt64 (I 93)).2.1 = (li2 N W F S T s.toInt64 (I 93)).2.1 + (N - F - T) := q3
                    omega
                  refine ⟨?_, ?_, ?_, rfl⟩
                  · rw [hJ129, dwI_3]
                    exact congrArg nI e3
                  · rw [hJ129, hJ113, dwI_dw, hJ102, dwI_dw, hJ92, dwI_be]
                    rfl
                  · unfold dwL
                    rw [up_up, up_up, up_up]
                    rfl
                · exfalso; rw [i_le] at c80; omega
            · rw [ex7_32] at c50; exact absurd ((andn0 h30 sp).mpr (by omega)) c50
        · exfalso; ((try simp only [bI_0, bI_1, lc_lt, lc_gt, lc_le, lc_ge, Classical.not_not] at *); (try simp only [i_lt, i_le, i_eq, l_lt, l_le, l_eq, Int32.toInt_toInt64, Int32.reduceToInt, Int64.reduceToInt] at *); omega)
theorem k_X11_listed_r {i : Int32} (hc : ¬ (0 ≤ i.toInt ∧ i.toInt ≤ (I 92 3 - 1).toInt)) : Con sc mX11_listed 1 0 0 [.ref 0, .int i] (XW I L tg) (rI (-1) (XW I L tg)) := by
  refine Con_of (by decide) (Nat.le_of_ble_eq_true rfl) ?_
  refine r_iload_n (j := 1) rfl rfl dX11_listed_0 ?_
  refine r_iconst (v := 0) rfl dX11_listed_1 ?_
  refine r_aload_n (j := 0) rfl rfl dX11_listed_2 ?_
  refine w_getR (b := 92) fX11_84 rfl rfl dX11_listed_3 ?_
  refine w_getI fX11_321 rfl dX11_listed_6 ?_
  refine r_iconst (v := 1) rfl dX11_listed_9 ?_
  refine r_isub dX11_listed_10 ?_
  refine w_cS3p (k_X11_isWithin) (Nat.le_of_ble_eq_true rfl) lX11_166 mtX11_isWithin (Nat.le_of_ble_eq_true rfl) (Nat.le_of_ble_eq_true rfl) (Nat.le_of_ble_eq_true rfl) dX11_listed_11 ?_
  refine r_if_eq (tgt := 29) dX11_listed_14 (by decide) (fun c14 => ?_) (fun c14 => ?_)
  · refine r_iconst (v := (-1)) rfl dX11_listed_29 ?_
    refine w_iret rfl (rfl) (Nat.le_of_ble_eq_true rfl) (Nat.le_of_ble_eq_true rfl) dX11_listed_30 ?_
    exact ⟨rfl, rfl, rfl, rfl⟩
  · exact absurd (bI_1.mp c14) hc
theorem k_X11_listed_y {i : Int32} {k : Nat} (hc : 0 ≤ i.toInt ∧ i.toInt ≤ (I 92 3 - 1).toInt) (ei : i.toInt = k) (h : k < 30) : Con sc mX11_listed 1 0 0 [.ref 0, .int i] (XW I L tg) (rI (I 93 k) (XW I L tg)) := by
  refine Con_of (by decide) (Nat.le_of_ble_eq_true rfl) ?_
  refine r_iload_n (j := 1) rfl rfl dX11_listed_0 ?_
  refine r_iconst (v := 0) rfl dX11_listed_1 ?_
  refine r_aload_n (j := 0) rfl rfl dX11_listed_2 ?_
  refine w_getR (b := 92) fX11_84 rfl rfl dX11_listed_3 ?_
  refine w_getI fX11_321 rfl dX11_listed_6 ?_
  refine r_iconst (v := 1) rfl dX11_listed_9 ?_
  refine r_isub dX11_listed_10 ?_
  refine w_cS3p (k_X11_isWithin) (Nat.le_of_ble_eq_true rfl) lX11_166 mtX11_isWithin (Nat.le_of_ble_eq_true rfl) (Nat.le_of_ble_eq_true rfl) (Nat.le_of_ble_eq_true rfl) dX11_listed_11 ?_
  refine r_if_eq (tgt := 29) dX11_listed_14 (by decide) (fun c14 => ?_) (fun c14 => ?_)
  · exact absurd hc (bI_0.mp c14)
  · refine r_aload_n (j := 0) rfl rfl dX11_listed_17 ?_
    refine w_getR (b := 92) fX11_84 rfl rfl dX11_listed_18 ?_
    refine w_getR (b := 93) fX11_322 rfl rfl dX11_listed_21 ?_
    refine r_iload_n (j := 1) rfl rfl dX11_listed_24 ?_
    refine w_iald rfl (up_in ei h) dX11_listed_25 ?_
    refine r_goto (tgt := 30) dX11_listed_26 (by decide) ?_
    refine w_iret rfl (rfl) (Nat.le_of_ble_eq_true rfl) (Nat.le_of_ble_eq_true rfl) dX11_listed_30 ?_
    exact ⟨by rw [cl_of ei], rfl, rfl, rfl⟩
end
end
