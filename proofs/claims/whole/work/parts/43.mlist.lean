/-! A LIST: the model's side -/
section
theorem nI_nz {t : Nat} (h0 : 0 < t) (h : t < 2147483648) : ¬ nI t = 0 := by
  rw [i_eq, nI_toInt h]
  simp
  omega
def mdP (q : Dw) : Nat := nth q.1 32 (nN (dvl (dnx q.2.2.1) (nI (cnt q.1 32)))) 0
def mdN (q : Dw) : Dw := (clr q.1 (mdP q), q.2.1 + 1, dnx q.2.2.1, va_up q.2.2.2 q.2.1 (nI (mdP q)))
def mdS : Nat → Dw → Dw
  | 0, q => q
  | n + 1, q => mdS n (mdN q)
def mdOk (n : Nat) (q : Dw) : Prop := q.1 < 2147483648 ∧ (0 ≤ q.2.2.1.toInt ∧ q.2.2.1.toInt < 2147483648) ∧ q.2.1 + n ≤ 30 ∧ n ≤ cnt q.1 32
theorem mdP_ok {n : Nat} {q : Dw} (h : mdOk (n + 1) q) : nN (dvl (dnx q.2.2.1) (nI (cnt q.1 32))) < cnt q.1 32 ∧ dvl (dnx q.2.2.1) (nI (cnt q.1 32)) = nI (nN (dvl (dnx q.2.2.1) (nI (cnt q.1 32)))) ∧ q.1.testBit (mdP q) = true ∧ mdP q < 31 := by
  obtain ⟨h2, h3, h4, h5⟩ := h
  have hd := dnx_rng h3.1 h3.2
  obtain ⟨ha, hb⟩ := dvl_rng hd.1 hd.2 (show 0 < cnt q.1 32 by omega) (by have := cnt_le q.1 32; omega)
  have ht := (nth_0 ha).2.1
  exact ⟨ha, hb, ht, low_lt (n := 31) ht (by omega)⟩
theorem mdN_ok {n : Nat} {q : Dw} (h : mdOk (n + 1) q) : mdOk n (mdN q) := by
  obtain ⟨-, -, ht, hp⟩ := mdP_ok h
  obtain ⟨h2, h3, h4, h5⟩ := h
  have hc := clr_le q.1 (mdP q)
  have hn := cnt_clr ht 32
  rw [if_pos (by omega)] at hn
  refine ⟨?_, dnx_rng h3.1 h3.2, ?_, ?_⟩
  · show clr q.1 (mdP q) < _
    omega
  · show q.2.1 + 1 + n ≤ 30
    omega
  · show n ≤ cnt (clr q.1 (mdP q)) 32
    omega
theorem mdS_le : ∀ n (q : Dw), (mdS n q).1 ≤ q.1 := by
  intro n
  induction n with
  | zero => intro q; exact Nat.le_refl _
  | succ n ih => intro q; exact Nat.le_trans (ih _) (clr_le _ _)
theorem mdS_f : ∀ n (q : Dw), mdOk n q → (mdS n q).2.1 = q.2.1 + n ∧ (0 ≤ (mdS n q).2.2.1.toInt ∧ (mdS n q).2.2.1.toInt < 2147483648) := by
  intro n
  induction n with
  | zero => intro q h; exact ⟨rfl, h.2.1⟩
  | succ n ih =>
    intro q h
    obtain ⟨a1, a2⟩ := ih _ (mdN_ok h)
    have e2 : (mdN q).2.1 = q.2.1 + 1 := rfl
    exact ⟨by rw [mdS]; omega, a2⟩
/-- both sides draw alike -/
theorem md_dw {g : Nat} : ∀ n (q : Dw), mdS n (g &&& q.1, q.2) = (g &&& (dwS g n q).1, (dwS g n q).2) := by
  intro n
  induction n with
  | zero => intro q; rfl
  | succ n ih =>
    intro q
    rw [mdS, dwS, ← ih (dwN g q)]
    have e : mdP (g &&& q.1, q.2) = dwP g q := rfl
    have : mdN (g &&& q.1, q.2) = (g &&& (dwN g q).1, (dwN g q).2) := by
      unfold mdN dwN
      rw [e, and_clr]
    rw [this]
def mwI (I : Is) (q : Dw) : Is := upr (up I 95 92 (nI q.2.1)) 150 q.2.2.2
def mwL (L : Ls) (q : Dw) : Ls := up L 95 47 q.2.2.1
theorem mwI_92 (I : Is) (q : Dw) : mwI I q 95 92 = nI q.2.1 := by simp [mwI, up_eq, upr_eq, vu_eq]
theorem mwI_150 (I : Is) (q : Dw) : mwI I q 150 = q.2.2.2 := by simp [mwI, upr_eq]
theorem mw_s (I : Is) (q : Dw) (p m u : Nat) (s : Int64) : up (up (mwI I q) 150 q.2.1 (nI p)) 95 92 (nI m) = mwI I (u, m, s, va_up q.2.2.2 q.2.1 (nI p)) := by
  unfold mwI
  funext a
  by_cases h1 : a = 95
  · subst h1
    funext j
    by_cases h2 : j = 92
    · subst h2; simp [up_eq, upr_eq, vu_eq]
    · simp [up_eq, upr_eq, vu_eq, h2]
  · by_cases h2 : a = 150
    · subst h2; simp [up_eq, upr_eq]
    · simp [up_eq, upr_eq, h1, h2]
theorem mwI_self {J : Is} {q : Dw} (h2 : J 95 92 = nI q.2.1) (h3 : J 150 = q.2.2.2) : J = mwI J q := by
  unfold mwI
  funext a
  by_cases g1 : a = 95
  · subst g1
    funext j
    by_cases g2 : j = 92
    · subst g2; simp [up_eq, upr_eq, vu_eq, h2]
    · simp [up_eq, upr_eq, vu_eq, g2]
  · by_cases g2 : a = 150
    · subst g2; simp [upr_eq, h3]
    · simp [up_eq, upr_eq, g1, g2]
theorem mwI_mw (I : Is) (q r : Dw) : mwI (mwI I q) r = mwI I r := by
  unfold mwI
  funext a
  by_cases g1 : a = 95
  · subst g1
    funext j
    by_cases g2 : j = 92
    · subst g2; simp [up_eq, upr_eq, vu_eq]
    · simp [up_eq, upr_eq, vu_eq, g2]
  · by_cases g2 : a = 150
    · subst g2; simp [upr_eq]
    · simp [up_eq, upr_eq, g1, g2]
theorem mwI_be (I : Is) (m : Int32) (r : Dw) : mwI (up I 95 92 m) r = mwI I r := by
  unfold mwI
  rw [up_up]
section
variable {sc : Sc} {I : Is} {L : Ls} {tg : Nat}
theorem l_X12_bits {s : Nat} {a : Int32} (hs : s < 2147483648) : ∀ n i : Nat, i + n = cnt s 32 → ∀ r c : Int32, r = nI (rst s i) → c.toInt = i → RR sc mX12_bits 0 0 0 (rI (nI (cnt s 32)) (XW I L tg)) 0 0 4 [(2, .int r), (1, .int c), (0, .int a)] [] (XW I L tg) := by
  have h32 := cnt_le s 32
  intro n
  induction n with
  | zero =>
    intro i hi r c er hx
    refine r_iload_n (j := 0) rfl rfl dX12_bits_4 ?_
    refine r_if_eq (tgt := 20) dX12_bits_5 (by decide) (fun c5 => ?_) (fun c5 => ?_)
    · refine r_iload_n (j := 1) rfl rfl dX12_bits_20 ?_
      refine w_iret rfl (rfl) (Nat.le_of_ble_eq_true rfl) (Nat.le_of_ble_eq_true rfl) dX12_bits_21 ?_
      exact ⟨by rw [x_nI hx, show i = cnt s 32 by omega], rfl, rfl, rfl⟩
    · exact absurd (by rw [er, show i = cnt s 32 by omega, rst_end hs]; rfl) c5
  | succ n ih =>
    intro i hi r c er hx
    have h1 := tb_pos (rst_low (s := s) (i := i) (by omega)).1
    have h2 := rst_le s i
    refine r_iload_n (j := 0) rfl rfl dX12_bits_4 ?_
    refine r_if_eq (tgt := 20) dX12_bits_5 (by decide) (fun c5 => ?_) (fun c5 => ?_)
    · rw [er] at c5; exact absurd c5 (nI_nz h1 (by omega))
    · refine r_iinc (j := 1) (lv' := fun z => [(1, .int z), (2, .int r), (0, .int a)]) dX12_bits_8 rfl (Nat.le_of_ble_eq_true rfl) (fun _ => rfl) (fun x1_8 ex1_8 => ?_)
      refine r_iload_n (j := 1) rfl rfl dX12_bits_11 ?_
      refine r_iload_n (j := 1) rfl rfl dX12_bits_12 ?_
      refine r_iconst (v := 1) rfl dX12_bits_13 ?_
      refine r_isub dX12_bits_14 ?_
      refine r_iand dX12_bits_15 ?_
      refine r_istore_n (lv' := fun z => [(2, .int z), (1, .int x1_8), (0, .int a)]) dX12_bits_16 rfl (Nat.le_of_ble_eq_true rfl) (fun _ => rfl) (fun x2_16 ex2_16 => ?_)
      refine r_goto (tgt := 4) dX12_bits_17 (by decide) ?_
      exact ih (i + 1) (by omega) _ _ (by rw [ex2_16, er]; exact rst_step hs (by omega)) (by rw [ex1_8]; exact i_inc hx (by omega))
theorem k_X12_bits {a : Int32} {s : Nat} (ea : a = nI s) (hs : s < 2147483648) : Con sc mX12_bits 0 0 0 [.int a] (XW I L tg) (rI (nI (cnt s 32)) (XW I L tg)) := by
  refine Con_of (by decide) (Nat.le_of_ble_eq_true rfl) ?_
  refine r_iconst (v := 0) rfl dX12_bits_0 ?_
  refine r_istore_n (lv' := fun z => [(1, .int z), (0, .int a)]) dX12_bits_1 rfl (Nat.le_of_ble_eq_true rfl) (fun _ => rfl) (fun x1_1 ex1_1 => ?_)
  refine r_iload_n (j := 1) rfl rfl dX12_bits_2 ?_
  refine r_istore_n (lv' := fun z => [(2, .int z), (1, .int x1_1), (0, .int a)]) dX12_bits_3 rfl (Nat.le_of_ble_eq_true rfl) (fun _ => rfl) (fun x2_3 ex2_3 => ?_)
  exact l_X12_bits hs _ 0 (Nat.zero_add _) _ _ (by rw [ex2_3]; exact ea) (by rw [ex1_1]; rfl)
theorem k_X12_draw {n : Int32} (hn : 0 < n.toInt) : Con sc mX12_draw 0 0 0 [.ref 95, .int n] (XW I L tg) (rI (dvl (dnx (L 95 47)) n) (XW I (up L 95 47 (dnx (L 95 47))) tg)) := by
  refine Con_of (by decide) (Nat.le_of_ble_eq_true rfl) ?_
  refine r_aload_n (j := 0) rfl rfl dX12_draw_0 ?_
  refine r_ldc2 kX12_411 dX12_draw_1 ?_
  refine r_aload_n (j := 0) rfl rfl dX12_draw_4 ?_
  refine w_getL fX12_248 rfl dX12_draw_5 ?_
  refine r_lmul dX12_draw_8 ?_
  refine r_ldc2 kX12_413 dX12_draw_9 ?_
  refine r_ladd dX12_draw_12 ?_
  refine r_ldc2 kX12_415 dX12_draw_13 ?_
  refine r_lrem (by first | assumption | decide) dX12_draw_16 ?_
  refine w_putL fX12_248 rfl (rfl) (rfl) dX12_draw_17 (fun J17 hJ17 => ?_)
  refine r_aload_n (j := 0) rfl rfl dX12_draw_20 ?_
  refine w_getL fX12_248 rfl dX12_draw_21 ?_
  refine r_ldc2 kX12_417 dX12_draw_24 ?_
  refine r_ldiv (by first | assumption | decide) dX12_draw_27 ?_
  refine r_iload_n (j := 1) rfl rfl dX12_draw_28 ?_
  refine r_i2l dX12_draw_29 ?_
  refine r_lrem (by ((try simp only [bI_0, bI_1, lc_lt, lc_gt, lc_le, lc_ge, Classical.not_not] at *); (try simp only [i_lt, i_le, i_eq, l_lt, l_le, l_eq, Int32.toInt_toInt64, Int32.reduceToInt, Int64.reduceToInt] at *); omega)) dX12_draw_30 ?_
  refine r_l2i dX12_draw_31 ?_
  refine w_iret rfl (rfl) (Nat.le_of_ble_eq_true rfl) (Nat.le_of_ble_eq_true rfl) dX12_draw_32 ?_
  subst hJ17; exact ⟨by rw [up_s, vu_s]; rfl, rfl, rfl, rfl⟩
theorem l_X12_dr2 {s R : Nat} {x a b : Int32} (hs : s < 2147483648) {Q : Po} {J : Is} {K : Ls}
    (KK : ∀ x5 : Int32, RR sc mX12_drawOf 1 0 0 Q 0 0 55 [(6, .int (nI R)), (5, .int x5), (4, .int x), (3, .int (nI s)), (0, .ref 95), (1, .int a), (2, .int b)] [] (XW J K tg)) : ∀ f p : Nat, p + f = 32 → ∀ kk, cnt s p + kk < cnt s 32 → nth s f kk p = R → ∀ x6 x5 : Int32, x6 = nI p → x5 = nI kk → RR sc mX12_drawOf 1 0 0 Q 0 0 24 [(6, .int x6), (5, .int x5), (4, .int x), (3, .int (nI s)), (0, .ref 95), (1, .int a), (2, .int b)] [] (XW J K tg) := by
  have h32 := cnt_le s 32
  intro f
  induction f with
  | zero => intro p hp kk hk; rw [show p = 32 by omega] at hk; omega
  | succ f ih =>
    intro p hp kk hk hR x6 x5 e6 e5
    subst e6 e5
    have hb := g_bit (s := s) (p := p) hs (by omega)
    have hz := g_bz (s := s) (p := p) hs (by omega)
    have ec : cnt s (p + 1) = cnt s p + (s.testBit p).toNat := rfl
    rw [nth] at hR
    have step : ∀ x6 x5 : Int32, (s.testBit p = true → 0 < kk) → x6 = nI (p + 1) → x5 = nI kk - ((nI s >>> (nI p &&& 31)) &&& 1) → RR sc mX12_drawOf 1 0 0 Q 0 0 24 [(6, .int x6), (5, .int x5), (4, .int x), (3, .int (nI s)), (0, .ref 95), (1, .int a), (2, .int b)] [] (XW J K tg) := by
      intro x6 x5 h0 e6 e5
      have hle : (s.testBit p).toNat ≤ kk := by
        cases h : s.testBit p with
        | false => exact Nat.zero_le _
        | true => exact h0 h
      rw [if_neg (fun z => by have := h0 z.1; omega)] at hR
      exact ih (p + 1) (by omega) (kk - (s.testBit p).toNat) (by omega) hR _ _ e6 (by rw [e5, hb, pk_sub hle])
    refine r_iload_n (j := 3) rfl rfl dX12_drawOf_24 ?_
    refine r_iload (j := 0) rfl dX12_drawOf_25 ?_
    refine r_ishr dX12_drawOf_27 ?_
    refine r_iconst (v := 1) rfl dX12_drawOf_28 ?_
    refine r_iand dX12_drawOf_29 ?_
    refine r_if_eq (tgt := 38) dX12_drawOf_30 (by decide) (fun c30 => ?_) (fun c30 => ?_)
    · refine r_iload (j := 1) rfl dX12_drawOf_38 ?_
      refine r_iload_n (j := 3) rfl rfl dX12_drawOf_40 ?_
      refine r_iload (j := 0) rfl dX12_drawOf_41 ?_
      refine r_ishr dX12_drawOf_43 ?_
      refine r_iconst (v := 1) rfl dX12_drawOf_44 ?_
      refine r_iand dX12_drawOf_45 ?_
      refine r_isub dX12_drawOf_46 ?_
      refine r_istore (lv' := fun z => [(5, .int z), (6, .int (nI p)), (4, .int x), (3, .int (nI s)), (0, .ref 95), (1, .int a), (2, .int b)]) dX12_drawOf_47 (Nat.le_of_ble_eq_true rfl) (fun _ => rfl) (fun x5_47 ex5_47 => ?_)
      refine r_iinc (j := 1) (lv' := fun z => [(6, .int z), (5, .int x5_47), (4, .int x), (3, .int (nI s)), (0, .ref 95), (1, .int a), (2, .int b)]) dX12_drawOf_49 rfl (Nat.le_of_ble_eq_true rfl) (fun _ => rfl) (fun x6_49 ex6_49 => ?_)
      refine r_goto (tgt := 24) dX12_drawOf_52 (by decide) ?_
      exact step _ _ (fun z => by rw [hz.mp c30] at z; cases z) (by rw [ex6_49]; exact nI_1 p) ex5_47
    · refine r_iload (j := 1) rfl dX12_drawOf_33 ?_
      refine r_if_le (tgt := 55) dX12_drawOf_35 (by decide) (fun c35 => ?_) (fun c35 => ?_)
      · have ht : s.testBit p = true := by
          cases h : s.testBit p with
          | true => rfl
          | false => exact absurd (hz.mpr h) c30
        have h0 : kk = 0 := by
          rw [i_le, nI_toInt (by omega)] at c35
          simp at c35
          omega
        rw [if_pos ⟨ht, h0⟩] at hR
        subst hR
        exact KK _
      · refine r_iload (j := 1) rfl dX12_drawOf_38 ?_
        refine r_iload_n (j := 3) rfl rfl dX12_drawOf_40 ?_
        refine r_iload (j := 0) rfl dX12_drawOf_41 ?_
        refine r_ishr dX12_drawOf_43 ?_
        refine r_iconst (v := 1) rfl dX12_drawOf_44 ?_
        refine r_iand dX12_drawOf_45 ?_
        refine r_isub dX12_drawOf_46 ?_
        refine r_istore (lv' := fun z => [(5, .int z), (6, .int (nI p)), (4, .int x), (3, .int (nI s)), (0, .ref 95), (1, .int a), (2, .int b)]) dX12_drawOf_47 (Nat.le_of_ble_eq_true rfl) (fun _ => rfl) (fun x5_47 ex5_47 => ?_)
        refine r_iinc (j := 1) (lv' := fun z => [(6, .int z), (5, .int x5_47), (4, .int x), (3, .int (nI s)), (0, .ref 95), (1, .int a), (2, .int b)]) dX12_drawOf_49 rfl (Nat.le_of_ble_eq_true rfl) (fun _ => rfl) (fun x6_49 ex6_49 => ?_)
        refine r_goto (tgt := 24) dX12_drawOf_52 (by decide) ?_
        exact step _ _ (fun _ => by rw [i_le, nI_toInt (by omega)] at c35; simp at c35; omega) (by rw [ex6_49]; exact nI_1 p) ex5_47
theorem l_X12_drawOf {a : Int32} {N : Nat} (hN : N < 1000) : ∀ n i : Nat, i + n = N → ∀ (q : Dw) (J : Is) (K : Ls) (lf x : Int32), J = mwI I q → K = mwL L q → mdOk n q → lf = nI q.1 → x.toInt = i → RR sc mX12_drawOf 1 0 0 (rI (nI (mdS n q).1) (XW (mwI I (mdS n q)) (mwL L (mdS n q)) tg)) 0 0 5 [(4, .int x), (3, .int lf), (0, .ref 95), (1, .int a), (2, .int (nI N))] [] (XW J K tg) := by
  have hNi : (nI N).toInt = N := nI_toInt (by omega)
  intro n
  induction n with
  | zero =>
    intro i hi q J K lf x eJ eK hq el hx
    refine r_iload (j := 0) rfl dX12_drawOf_5 ?_
    refine r_iload_n (j := 4) rfl rfl dX12_drawOf_7 ?_
    refine r_icmp_ge (tgt := 91) dX12_drawOf_8 (by decide) (fun c8 => ?_) (fun c8 => ?_)
    · refine r_iload_n (j := 1) rfl rfl dX12_drawOf_91 ?_
      refine w_iret rfl (rfl) (Nat.le_of_ble_eq_true rfl) (Nat.le_of_ble_eq_true rfl) dX12_drawOf_92 ?_
      exact ⟨el, eJ, eK, rfl⟩
    · exfalso; ((try simp only [bI_0, bI_1, lc_lt, lc_gt, lc_le, lc_ge, Classical.not_not] at *); (try simp only [i_lt, i_le, i_eq, l_lt, l_le, l_eq, Int32.toInt_toInt64, Int32.reduceToInt, Int64.reduceToInt] at *); omega)
  | succ n ih =>
    intro i hi q J K lf x eJ eK hq el hx
    obtain ⟨hd1, hd2, hd3, hd4⟩ := mdP_ok hq
    have hq2 := mdN_ok hq
    obtain ⟨g2, g3, g4, g5⟩ := hq
    have hcp := cnt_le q.1 32
    have k0 : K 95 47 = q.2.2.1 := by rw [eK]; simp [mwL, up_eq, vu_eq]
    subst el
    refine r_iload (j := 0) rfl dX12_drawOf_5 ?_
    refine r_iload_n (j := 4) rfl rfl dX12_drawOf_7 ?_
    refine r_icmp_ge (tgt := 91) dX12_drawOf_8 (by decide) (fun c8 => ?_) (fun c8 => ?_)
    · exfalso; ((try simp only [bI_0, bI_1, lc_lt, lc_gt, lc_le, lc_ge, Classical.not_not] at *); (try simp only [i_lt, i_le, i_eq, l_lt, l_le, l_eq, Int32.toInt_toInt64, Int32.reduceToInt, Int64.reduceToInt] at *); omega)
    · refine r_aload_n (j := 2) rfl rfl dX12_drawOf_11 ?_
      refine r_iload_n (j := 1) rfl rfl dX12_drawOf_12 ?_
      refine w_cS1p (k_X12_bits rfl g2) (Nat.le_of_ble_eq_true rfl) lX12_552 mtX12_bits (Nat.le_of_ble_eq_true rfl) (Nat.le_of_ble_eq_true rfl) (Nat.le_of_ble_eq_true rfl) dX12_drawOf_13 ?_
      refine w_cV1s (k_X12_draw (by rw [nI_toInt (by omega)]; omega)) (Nat.le_of_ble_eq_true rfl) lX12_436 vmX12_draw rfl (Nat.le_of_ble_eq_true rfl) (Nat.le_of_ble_eq_true rfl) (Nat.le_of_ble_eq_true rfl) dX12_drawOf_16 (fun J16 K16 hJ16 hK16 => ?_)
      subst hK16
      refine r_istore (lv' := fun z => [(5, .int z), (4, .int x), (3, .int (nI q.1)), (0, .ref 95), (1, .int a), (2, .int (nI N))]) dX12_drawOf_19 (Nat.le_of_ble_eq_true rfl) (fun _ => rfl) (fun x5_19 ex5_19 => ?_)
      refine r_iconst (v := 0) rfl dX12_drawOf_21 ?_
      refine r_istore (lv' := fun z => [(6, .int z), (5, .int x5_19), (4, .int x), (3, .int (nI q.1)), (0, .ref 95), (1, .int a), (2, .int (nI N))]) dX12_drawOf_22 (Nat.le_of_ble_eq_true rfl) (fun _ => rfl) (fun x6_22 ex6_22 => ?_)
      refine l_X12_dr2 (R := mdP q) g2 ?_ 32 0 (by omega) (nN (dvl (dnx q.2.2.1) (nI (cnt q.1 32)))) (by show 0 + _ < _; omega) rfl _ _ ex6_22 (by rw [ex5_19, k0]; exact hd2)
      intro x5
      have j92 : J16 95 92 = nI q.2.1 := by rw [hJ16, eJ]; exact mwI_92 _ _
      refine r_lvs [(6, .int (nI (mdP q))), (4, .int x), (3, .int (nI q.1)), (0, .ref 95), (1, .int a), (2, .int (nI N))] [0, 2, 3, 4, 5, 6] rfl ?_
      refine r_aload_n (j := 3) rfl rfl dX12_drawOf_55 ?_
      refine w_getR (b := 150) fX12_342 rfl rfl dX12_drawOf_56 ?_
      refine r_aload_n (j := 3) rfl rfl dX12_drawOf_59 ?_
      refine w_getI fX12_388 rfl dX12_drawOf_60 ?_
      refine r_iload (j := 0) rfl dX12_drawOf_63 ?_
      refine w_iast rfl (by rw [j92]; exact vp_in_nI (by omega) (by omega)) dX12_drawOf_65 (fun J65 hJ65 => ?_)
      refine r_aload_n (j := 3) rfl rfl dX12_drawOf_66 ?_
      refine r_dup rfl dX12_drawOf_67 ?_
      refine w_getI fX12_388 rfl dX12_drawOf_68 ?_
      refine r_iconst (v := 1) rfl dX12_drawOf_71 ?_
      refine r_iadd dX12_drawOf_72 ?_
      refine w_putI fX12_388 rfl (rfl) (rfl) dX12_drawOf_73 (fun J73 hJ73 => ?_)
      refine r_iload_n (j := 2) rfl rfl dX12_drawOf_76 ?_
      refine r_iconst (v := 1) rfl dX12_drawOf_77 ?_
      refine r_iload (j := 0) rfl dX12_drawOf_78 ?_
      refine r_ishl dX12_drawOf_80 ?_
      refine r_iconst (v := (-1)) rfl dX12_drawOf_81 ?_
      refine r_ixor dX12_drawOf_82 ?_
      refine r_iand dX12_drawOf_83 ?_
      refine r_istore_n (lv' := fun z => [(3, .int z), (6, .int (nI (mdP q))), (4, .int x), (0, .ref 95), (1, .int a), (2, .int (nI N))]) dX12_drawOf_84 rfl (Nat.le_of_ble_eq_true rfl) (fun _ => rfl) (fun x3_84 ex3_84 => ?_)
      refine r_iinc (j := 2) (lv' := fun z => [(4, .int z), (3, .int x3_84), (6, .int (nI (mdP q))), (0, .ref 95), (1, .int a), (2, .int (nI N))]) dX12_drawOf_85 rfl (Nat.le_of_ble_eq_true rfl) (fun _ => rfl) (fun x4_85 ex4_85 => ?_)
      refine r_goto (tgt := 5) dX12_drawOf_88 (by decide) ?_
      refine r_lvs [(4, .int x4_85), (3, .int x3_84), (0, .ref 95), (1, .int a), (2, .int (nI N))] [0, 1, 3, 4, 5] rfl ?_
      rw [mdS]
      have f1 : J65 = up (mwI I q) 150 q.2.1 (nI (mdP q)) := by rw [hJ65, j92, nI_clamp (by omega), hJ16, eJ]
      have f2 : J73 = up J65 95 92 (nI (q.2.1 + 1)) := by
        rw [hJ73, show J65 95 92 = nI q.2.1 by rw [hJ65, up_n _ _ _ (by decide)]; exact j92, nI_1]
      refine ih (i + 1) (by omega) (mdN q) _ _ _ _ ?_ ?_ hq2 (by rw [ex3_84, g_clr g2 hd4]; rfl) (by rw [ex4_85]; exact i_inc hx (by omega))
      · rw [f2, f1]
        exact mw_s I q _ _ _ _
      · rw [k0, eK]
        unfold mwL
        rw [up_up]
        rfl
theorem k_X12_drawOf {n : Nat} {a b : Int32} {q : Dw} (ea : a = nI q.1) (eb : b = nI n) (eI : I = mwI I q) (eL : L = mwL L q) (hq : mdOk n q) : Con sc mX12_drawOf 1 0 0 [.ref 95, .int a, .int b] (XW I L tg) (rI (nI (mdS n q).1) (XW (mwI I (mdS n q)) (mwL L (mdS n q)) tg)) := by
  subst eb
  refine Con_of (by decide) (Nat.le_of_ble_eq_true rfl) ?_
  refine r_iload_n (j := 1) rfl rfl dX12_drawOf_0 ?_
  refine r_istore_n (lv' := fun z => [(3, .int z), (0, .ref 95), (1, .int a), (2, .int (nI n))]) dX12_drawOf_1 rfl (Nat.le_of_ble_eq_true rfl) (fun _ => rfl) (fun x3_1 ex3_1 => ?_)
  refine r_iconst (v := 0) rfl dX12_drawOf_2 ?_
  refine r_istore (lv' := fun z => [(4, .int z), (3, .int x3_1), (0, .ref 95), (1, .int a), (2, .int (nI n))]) dX12_drawOf_3 (Nat.le_of_ble_eq_true rfl) (fun _ => rfl) (fun x4_3 ex4_3 => ?_)
  exact l_X12_drawOf (by have := hq.2.2.1; omega) n 0 (Nat.zero_add _) q _ _ _ _ eI eL hq (by rw [ex3_1]; exact ea) (by rw [ex4_3]; rfl)
theorem sh_l : ∀ N, N ≤ 30 → (((1 : Int64) <<< ((nI N).toInt64 &&& 63)) - 1).toInt = (2 : Int) ^ N - 1 := by decide +kernel
theorem sh_i : ∀ N, N ≤ 30 → (((1 : Int64) <<< ((nI N).toInt64 &&& 63)) - 1).toInt32 = nI (2 ^ N - 1) := by decide +kernel
theorem k_X12_list_r {s n w f sp t : Int32} (hc : ¬ liC s n w f sp t) : Con sc mX12_list 2 0 0 [.ref 95, .int s, .int n, .int w, .int f, .int sp, .int t] (XW I L tg) (rI (-2) (XW I L tg)) := by
  refine Con_of (by decide) (Nat.le_of_ble_eq_true rfl) ?_
  refine r_iload_n (j := 1) rfl rfl dX12_list_0 ?_
  refine r_if_lt (tgt := 55) dX12_list_1 (by decide) (fun c1 => ?_) (fun c1 => ?_)
  · refine r_bipush (v := (-2)) rfl dX12_list_55 ?_
    refine w_iret rfl (rfl) (Nat.le_of_ble_eq_true rfl) (Nat.le_of_ble_eq_true rfl) dX12_list_57 ?_
    exact ⟨rfl, rfl, rfl, rfl⟩
  · refine r_iload_n (j := 2) rfl rfl dX12_list_4 ?_
    refine r_i2l dX12_list_5 ?_
    refine r_lconst (v := 1) rfl dX12_list_6 ?_
    refine r_ldc2 kX12_565 dX12_list_7 ?_
    refine w_cS3p (k_X12_in) (Nat.le_of_ble_eq_true rfl) lX12_52 mtX12_in (Nat.le_of_ble_eq_true rfl) (Nat.le_of_ble_eq_true rfl) (Nat.le_of_ble_eq_true rfl) dX12_list_10 ?_
    refine r_if_eq (tgt := 55) dX12_list_13 (by decide) (fun c13 => ?_) (fun c13 => ?_)
    · refine r_bipush (v := (-2)) rfl dX12_list_55 ?_
      refine w_iret rfl (rfl) (Nat.le_of_ble_eq_true rfl) (Nat.le_of_ble_eq_true rfl) dX12_list_57 ?_
      exact ⟨rfl, rfl, rfl, rfl⟩
    · refine r_iload_n (j := 3) rfl rfl dX12_list_16 ?_
      refine r_i2l dX12_list_17 ?_
      refine r_lconst (v := 0) rfl dX12_list_18 ?_
      refine r_lconst (v := 1) rfl dX12_list_19 ?_
      refine r_iload_n (j := 2) rfl rfl dX12_list_20 ?_
      refine r_lshl dX12_list_21 ?_
      refine r_lconst (v := 1) rfl dX12_list_22 ?_
      refine r_lsub dX12_list_23 ?_
      refine w_cS3p (k_X12_in) (Nat.le_of_ble_eq_true rfl) lX12_52 mtX12_in (Nat.le_of_ble_eq_true rfl) (Nat.le_of_ble_eq_true rfl) (Nat.le_of_ble_eq_true rfl) dX12_list_24 ?_
      refine r_if_eq (tgt := 55) dX12_list_27 (by decide) (fun c27 => ?_) (fun c27 => ?_)
      · refine r_bipush (v := (-2)) rfl dX12_list_55 ?_
        refine w_iret rfl (rfl) (Nat.le_of_ble_eq_true rfl) (Nat.le_of_ble_eq_true rfl) dX12_list_57 ?_
        exact ⟨rfl, rfl, rfl, rfl⟩
      · refine r_iload (j := 5) rfl dX12_list_30 ?_
        refine r_i2l dX12_list_32 ?_
        refine r_lconst (v := 0) rfl dX12_list_33 ?_
        refine r_lconst (v := 1) rfl dX12_list_34 ?_
        refine r_iload_n (j := 2) rfl rfl dX12_list_35 ?_
        refine r_lshl dX12_list_36 ?_
        refine r_lconst (v := 1) rfl dX12_list_37 ?_
        refine r_lsub dX12_list_38 ?_
        refine w_cS3p (k_X12_in) (Nat.le_of_ble_eq_true rfl) lX12_52 mtX12_in (Nat.le_of_ble_eq_true rfl) (Nat.le_of_ble_eq_true rfl) (Nat.le_of_ble_eq_true rfl) dX12_list_39 ?_
        refine r_if_eq (tgt := 55) dX12_list_42 (by decide) (fun c42 => ?_) (fun c42 => ?_)
        · refine r_bipush (v := (-2)) rfl dX12_list_55 ?_
          refine w_iret rfl (rfl) (Nat.le_of_ble_eq_true rfl) (Nat.le_of_ble_eq_true rfl) dX12_list_57 ?_
          exact ⟨rfl, rfl, rfl, rfl⟩
        · refine r_iload (j := 4) rfl dX12_list_45 ?_
          refine r_if_lt (tgt := 55) dX12_list_47 (by decide) (fun c47 => ?_) (fun c47 => ?_)
          · refine r_bipush (v := (-2)) rfl dX12_list_55 ?_
            refine w_iret rfl (rfl) (Nat.le_of_ble_eq_true rfl) (Nat.le_of_ble_eq_true rfl) dX12_list_57 ?_
            exact ⟨rfl, rfl, rfl, rfl⟩
          · refine r_iload (j := 6) rfl dX12_list_50 ?_
            refine r_if_ge (tgt := 58) dX12_list_52 (by decide) (fun c52 => ?_) (fun c52 => ?_)
            · exfalso
              have hn := bI_1.mp c13
              have h2 := bI_1.mp c27
              have h3 := bI_1.mp c42
              rw [Int32.toInt_toInt64] at hn h2 h3
              have hn : 1 ≤ n.toInt ∧ n.toInt ≤ 30 := hn
              have en : n = nI (nN n) := i_nI (by omega)
              have e30 : nN n ≤ 30 := by have := nN_of (x := n) (by omega); omega
              have e := sh_l (nN n) e30
              rw [← en] at e
              rw [e] at h2 h3
              have h2 : 0 ≤ w.toInt ∧ w.toInt ≤ (2 : Int) ^ nN n - 1 := h2
              have h3 : 0 ≤ sp.toInt ∧ sp.toInt ≤ (2 : Int) ^ nN n - 1 := h3
              have e2 : ((2 ^ nN n : Nat) : Int) = (2 : Int) ^ nN n := by simp
              have hs : 0 ≤ s.toInt := by ((try simp only [bI_0, bI_1, lc_lt, lc_gt, lc_le, lc_ge, Classical.not_not] at *); (try simp only [i_lt, i_le, i_eq, l_lt, l_le, l_eq, Int32.toInt_toInt64, Int32.reduceToInt, Int64.reduceToInt] at *); omega)
              have hf : 0 ≤ f.toInt := by ((try simp only [bI_0, bI_1, lc_lt, lc_gt, lc_le, lc_ge, Classical.not_not] at *); (try simp only [i_lt, i_le, i_eq, l_lt, l_le, l_eq, Int32.toInt_toInt64, Int32.reduceToInt, Int64.reduceToInt] at *); omega)
              have ht : 0 ≤ t.toInt := by ((try simp only [bI_0, bI_1, lc_lt, lc_gt, lc_le, lc_ge, Classical.not_not] at *); (try simp only [i_lt, i_le, i_eq, l_lt, l_le, l_eq, Int32.toInt_toInt64, Int32.reduceToInt, Int64.reduceToInt] at *); omega)
              exact hc ⟨hs, hn, hf, ht, ⟨h2.1, by rw [e2]; omega⟩, h3.1, by rw [e2]; omega⟩
            · refine r_bipush (v := (-2)) rfl dX12_list_55 ?_
              refine w_iret rfl (rfl) (Nat.le_of_ble_eq_true rfl) (Nat.le_of_ble_eq_true rfl) dX12_list_57 ?_
              exact ⟨rfl, rfl, rfl, rfl⟩
theorem k_X12_list_n {s n w f sp t : Int32} {N W F S T : Nat} (hl : liN s n w f sp t N W F S T) (hc : cnt W 32 < F ∨ cnt (spk S W) 32 < T) : Con sc mX12_list 2 0 0 [.ref 95, .int s, .int n, .int w, .int f, .int sp, .int t] (XW I L tg) (rI (-1) (XW I L tg)) := by
  obtain ⟨hs, en, ew, ef, es, et, h1, h30, hW, hS, hF, hT⟩ := hl
  have hp := p30 h30
  have hni : n.toInt = N := by rw [en, nI_toInt (by omega)]
  have hfi : f.toInt = F := by rw [ef, nI_toInt hF]
  have hti : t.toInt = T := by rw [et, nI_toInt hT]
  have hwi : w.toInt = W := by rw [ew, nI_toInt (by omega)]
  have hsi : sp.toInt = S := by rw [es, nI_toInt (by omega)]
  have c1W := cnt_le W 32
  have c2W := cnt_le (spk S W) 32
  have s1 : spk S W ≤ S := Nat.and_le_left
  have e := sh_l N h30
  rw [← en] at e
  have e2 : ((2 ^ N : Nat) : Int) = (2 : Int) ^ N := by simp
  refine Con_of (by decide) (Nat.le_of_ble_eq_true rfl) ?_
  refine r_iload_n (j := 1) rfl rfl dX12_list_0 ?_
  refine r_if_lt (tgt := 55) dX12_list_1 (by decide) (fun c1 => ?_) (fun c1 => ?_)
  · exfalso; ((try simp only [bI_0, bI_1, lc_lt, lc_gt, lc_le, lc_ge, Classical.not_not] at *); (try simp only [i_lt, i_le, i_eq, l_lt, l_le, l_eq, Int32.toInt_toInt64, Int32.reduceToInt, Int64.reduceToInt] at *); omega)
  · refine r_iload_n (j := 2) rfl rfl dX12_list_4 ?_
    refine r_i2l dX12_list_5 ?_
    refine r_lconst (v := 1) rfl dX12_list_6 ?_
    refine r_ldc2 kX12_565 dX12_list_7 ?_
    refine w_cS3p (k_X12_in) (Nat.le_of_ble_eq_true rfl) lX12_52 mtX12_in (Nat.le_of_ble_eq_true rfl) (Nat.le_of_ble_eq_true rfl) (Nat.le_of_ble_eq_true rfl) dX12_list_10 ?_
    refine r_if_eq (tgt := 55) dX12_list_13 (by decide) (fun c13 => ?_) (fun c13 => ?_)
    · exact absurd ⟨by rw [Int32.toInt_toInt64]; show (1 : Int) ≤ _; omega, by rw [Int32.toInt_toInt64]; show _ ≤ (30 : Int); omega⟩ (bI_0.mp c13)
    · refine r_iload_n (j := 3) rfl rfl dX12_list_16 ?_
      refine r_i2l dX12_list_17 ?_
      refine r_lconst (v := 0) rfl dX12_list_18 ?_
      refine r_lconst (v := 1) rfl dX12_list_19 ?_
      refine r_iload_n (j := 2) rfl rfl dX12_list_20 ?_
      refine r_lshl dX12_list_21 ?_
      refine r_lconst (v := 1) rfl dX12_list_22 ?_
      refine r_lsub dX12_list_23 ?_
      refine w_cS3p (k_X12_in) (Nat.le_of_ble_eq_true rfl) lX12_52 mtX12_in (Nat.le_of_ble_eq_true rfl) (Nat.le_of_ble_eq_true rfl) (Nat.le_of_ble_eq_true rfl) dX12_list_24 ?_
      refine r_if_eq (tgt := 55) dX12_list_27 (by decide) (fun c27 => ?_) (fun c27 => ?_)
      · exact absurd ⟨by rw [Int32.toInt_toInt64]; show (0 : Int) ≤ _; omega, by rw [Int32.toInt_toInt64, e]; omega⟩ (bI_0.mp c27)
      · refine r_iload (j := 5) rfl dX12_list_30 ?_
        refine r_i2l dX12_list_32 ?_
        refine r_lconst (v := 0) rfl dX12_list_33 ?_
        refine r_lconst (v := 1) rfl dX12_list_34 ?_
        refine r_iload_n (j := 2) rfl rfl dX12_list_35 ?_
        refine r_lshl dX12_list_36 ?_
        refine r_lconst (v := 1) rfl dX12_list_37 ?_
        refine r_lsub dX12_list_38 ?_
        refine w_cS3p (k_X12_in) (Nat.le_of_ble_eq_true rfl) lX12_52 mtX12_in (Nat.le_of_ble_eq_true rfl) (Nat.le_of_ble_eq_true rfl) (Nat.le_of_ble_eq_true rfl) dX12_list_39 ?_
        refine r_if_eq (tgt := 55) dX12_list_42 (by decide) (fun c42 => ?_) (fun c42 => ?_)
        · exact absurd ⟨by rw [Int32.toInt_toInt64]; show (0 : Int) ≤ _; omega, by rw [Int32.toInt_toInt64, e]; omega⟩ (bI_0.mp c42)
        · refine r_iload (j := 4) rfl dX12_list_45 ?_
          refine r_if_lt (tgt := 55) dX12_list_47 (by decide) (fun c47 => ?_) (fun c47 => ?_)
          · exfalso; ((try simp only [bI_0, bI_1, lc_lt, lc_gt, lc_le, lc_ge, Classical.not_not] at *); (try simp only [i_lt, i_le, i_eq, l_lt, l_le, l_eq, Int32.toInt_toInt64, Int32.reduceToInt, Int64.reduceToInt] at *); omega)
          · refine r_iload (j := 6) rfl dX12_list_50 ?_
            refine r_if_ge (tgt := 58) dX12_list_52 (by decide) (fun c52 => ?_) (fun c52 => ?_)
            · refine r_iload (j := 5) rfl dX12_list_58 ?_
              refine r_iload_n (j := 3) rfl rfl dX12_list_60 ?_
              refine r_iconst (v := (-1)) rfl dX12_list_61 ?_
              refine r_ixor dX12_list_62 ?_
              refine r_iand dX12_list_63 ?_
              refine r_istore (lv' := fun z => [(7, .int z), (0, .ref 95), (1, .int s), (2, .int n), (3, .int w), (4, .int f), (5, .int sp), (6, .int t)]) dX12_list_64 (Nat.le_of_ble_eq_true rfl) (fun _ => rfl) (fun x7_64 ex7_64 => ?_)
              rw [es, ew, spk_n (by omega) (by omega)] at ex7_64
              refine r_iload (j := 5) rfl dX12_list_66 ?_
              refine r_iload_n (j := 4) rfl rfl dX12_list_68 ?_
              refine w_cS1p (k_X12_bits ew (by omega)) (Nat.le_of_ble_eq_true rfl) lX12_552 mtX12_bits (Nat.le_of_ble_eq_true rfl) (Nat.le_of_ble_eq_true rfl) (Nat.le_of_ble_eq_true rfl) dX12_list_69 ?_
              refine r_icmp_gt (tgt := 85) dX12_list_72 (by decide) (fun c72 => ?_) (fun c72 => ?_)
              · refine r_iconst (v := (-1)) rfl dX12_list_85 ?_
                refine w_iret rfl (rfl) (Nat.le_of_ble_eq_true rfl) (Nat.le_of_ble_eq_true rfl) dX12_list_86 ?_
                exact ⟨rfl, rfl, rfl, rfl⟩
              · refine r_iload (j := 7) rfl dX12_list_75 ?_
                refine r_iload (j := 0) rfl dX12_list_77 ?_
                refine w_cS1p (k_X12_bits ex7_64 (by omega)) (Nat.le_of_ble_eq_true rfl) lX12_552 mtX12_bits (Nat.le_of_ble_eq_true rfl) (Nat.le_of_ble_eq_true rfl) (Nat.le_of_ble_eq_true rfl) dX12_list_79 ?_
                refine r_icmp_le (tgt := 87) dX12_list_82 (by decide) (fun c82 => ?_) (fun c82 => ?_)
                · exfalso; rw [i_lt, nI_toInt (by omega)] at c72; rw [i_le, nI_toInt (by omega)] at c82; omega
                · refine r_iconst (v := (-1)) rfl dX12_list_85 ?_
                  refine w_iret rfl (rfl) (Nat.le_of_ble_eq_true rfl) (Nat.le_of_ble_eq_true rfl) dX12_list_86 ?_
                  exact ⟨rfl, rfl, rfl, rfl⟩
            · exfalso; ((try simp only [bI_0, bI_1, lc_lt, lc_gt, lc_le, lc_ge, Classical.not_not] at *); (try simp only [i_lt, i_le, i_eq, l_lt, l_le, l_eq, Int32.toInt_toInt64, Int32.reduceToInt, Int64.reduceToInt] at *); omega)
/-- who is left for the third drawing -/
def lfM (N W S A B : Nat) : Nat := (A ||| B) ||| (((W ||| spk S W) ^^^ (2 ^ 32 - 1)) &&& (2 ^ N - 1))
theorem lf_n {N W S A B : Nat} (hp : 2 ^ N ≤ 1073741824) (hW : W < 2147483648) (hS : S < 2147483648) (hA : A < 2147483648) (hB : B < 2147483648) (hL : lfM N W S A B < 2147483648) : (nI A ||| nI B) ||| (((nI W ||| nI (spk S W)) ^^^ (-1)) &&& nI (2 ^ N - 1)) = nI (lfM N W S A B) := by
  have k1 : n32 (-1) = 2 ^ 32 - 1 := by decide
  have s1 : spk S W ≤ S := Nat.and_le_left
  have hp0 := Nat.two_pow_pos N
  apply n32_inj
  rw [n32_or, n32_or, n32_and, n32_xor, n32_or, n32_nI (by omega), n32_nI (by omega), n32_nI (by omega), n32_nI (by omega), n32_nI (by omega), n32_nI (by omega), k1]
  rfl
def mi1 (W F : Nat) (s : Int64) (r : Nat → Int32) : Dw := mdS F (W, 0, s, r)
def mi2 (W F S T : Nat) (s : Int64) (r : Nat → Int32) : Dw := mdS T (spk S W, (mi1 W F s r).2)
def mlf (N W F S T : Nat) (s : Int64) (r : Nat → Int32) : Nat := lfM N W S (mi1 W F s r).1 (mi2 W F S T s r).1
def mi3 (N W F S T : Nat) (s : Int64) (r : Nat → Int32) : Dw := mdS (cnt (mlf N W F S T s r) 32) (mlf N W F S T s r, (mi2 W F S T s r).2)
theorem k_X12_list_y {s n w f sp t : Int32} {N W F S T : Nat} (hl : liN s n w f sp t N W F S T) (hcF : F ≤ cnt W 32) (hcT : T ≤ cnt (spk S W) 32) (hL : mlf N W F S T s.toInt64 (I 150) < 2147483648) (hc3 : F + T + cnt (mlf N W F S T s.toInt64 (I 150)) 32 ≤ 30) : Con sc mX12_list 2 0 0 [.ref 95, .int s, .int n, .int w, .int f, .int sp, .int t] (XW I L tg) (rI (nI (mi3 N W F S T s.toInt64 (I 150)).2.1) (XW (mwI I (mi3 N W F S T s.toInt64 (I 150))) L tg)) := by
  obtain ⟨hs, en, ew, ef, es, et, h1, h30, hW, hS, hF, hT⟩ := hl
  have hp := p30 h30
  have hs2 := (i_rng s).2
  have hni : n.toInt = N := by rw [en, nI_toInt (by omega)]
  have hfi : f.toInt = F := by rw [ef, nI_toInt hF]
  have hti : t.toInt = T := by rw [et, nI_toInt hT]
  have hwi : w.toInt = W := by rw [ew, nI_toInt (by omega)]
  have hsi : sp.toInt = S := by rw [es, nI_toInt (by omega)]
  have c1W := cnt_le W 32
  have c2W := cnt_le (spk S W) 32
  have s1 : spk S W ≤ S := Nat.and_le_left
  have e := sh_l N h30
  rw [← en] at e
  have e2 : ((2 ^ N : Nat) : Int) = (2 : Int) ^ N := by simp
  have hsr : 0 ≤ s.toInt64.toInt ∧ s.toInt64.toInt < 2147483648 := by rw [Int32.toInt_toInt64]; omega
  have o1 : mdOk F (W, 0, s.toInt64, I 150) := ⟨by show W < _; omega, hsr, by show 0 + F ≤ 30; omega, hcF⟩
  obtain ⟨f1, f2⟩ := mdS_f F _ o1
  have f1 : (mi1 W F s.toInt64 (I 150)).2.1 = 0 + F := f1
  have o2 : mdOk T (spk S W, (mi1 W F s.toInt64 (I 150)).2) := ⟨by show spk S W < _; omega, f2, by show (mi1 W F s.toInt64 (I 150)).2.1 + T ≤ 30; omega, hcT⟩
  obtain ⟨f3, f4⟩ := mdS_f T _ o2
  have f3 : (mi2 W F S T s.toInt64 (I 150)).2.1 = (mi1 W F s.toInt64 (I 150)).2.1 + T := f3
  have o3 : mdOk (cnt (mlf N W F S T s.toInt64 (I 150)) 32) (mlf N W F S T s.toInt64 (I 150), (mi2 W F S T s.toInt64 (I 150)).2) := ⟨hL, f4, by show (mi2 W F S T s.toInt64 (I 150)).2.1 + _ ≤ 30; omega, Nat.le_refl _⟩
  have l1 : (mi1 W F s.toInt64 (I 150)).1 ≤ W := mdS_le _ _
  have l2 : (mi2 W F S T s.toInt64 (I 150)).1 ≤ spk S W := mdS_le _ _
  refine Con_of (by decide) (Nat.le_of_ble_eq_true rfl) ?_
  refine r_iload_n (j := 1) rfl rfl dX12_list_0 ?_
  refine r_if_lt (tgt := 55) dX12_list_1 (by decide) (fun c1 => ?_) (fun c1 => ?_)
  · exfalso; ((try simp only [bI_0, bI_1, lc_lt, lc_gt, lc_le, lc_ge, Classical.not_not] at *); (try simp only [i_lt, i_le, i_eq, l_lt, l_le, l_eq, Int32.toInt_toInt64, Int32.reduceToInt, Int64.reduceToInt] at *); omega)
  · refine r_iload_n (j := 2) rfl rfl dX12_list_4 ?_
    refine r_i2l dX12_list_5 ?_
    refine r_lconst (v := 1) rfl dX12_list_6 ?_
    refine r_ldc2 kX12_565 dX12_list_7 ?_
    refine w_cS3p (k_X12_in) (Nat.le_of_ble_eq_true rfl) lX12_52 mtX12_in (Nat.le_of_ble_eq_true rfl) (Nat.le_of_ble_eq_true rfl) (Nat.le_of_ble_eq_true rfl) dX12_list_10 ?_
    refine r_if_eq (tgt := 55) dX12_list_13 (by decide) (fun c13 => ?_) (fun c13 => ?_)
    · exact absurd ⟨by rw [Int32.toInt_toInt64]; show (1 : Int) ≤ _; omega, by rw [Int32.toInt_toInt64]; show _ ≤ (30 : Int); omega⟩ (bI_0.mp c13)
    · refine r_iload_n (j := 3) rfl rfl dX12_list_16 ?_
      refine r_i2l dX12_list_17 ?_
      refine r_lconst (v := 0) rfl dX12_list_18 ?_
      refine r_lconst (v := 1) rfl dX12_list_19 ?_
      refine r_iload_n (j := 2) rfl rfl dX12_list_20 ?_
      refine r_lshl dX12_list_21 ?_
      refine r_lconst (v := 1) rfl dX12_list_22 ?_
      refine r_lsub dX12_list_23 ?_
      refine w_cS3p (k_X12_in) (Nat.le_of_ble_eq_true rfl) lX12_52 mtX12_in (Nat.le_of_ble_eq_true rfl) (Nat.le_of_ble_eq_true rfl) (Nat.le_of_ble_eq_true rfl) dX12_list_24 ?_
      refine r_if_eq (tgt := 55) dX12_list_27 (by decide) (fun c27 => ?_) (fun c27 => ?_)
      · exact absurd ⟨by rw [Int32.toInt_toInt64]; show (0 : Int) ≤ _; omega, by rw [Int32.toInt_toInt64, e]; omega⟩ (bI_0.mp c27)
      · refine r_iload (j := 5) rfl dX12_list_30 ?_
        refine r_i2l dX12_list_32 ?_
        refine r_lconst (v := 0) rfl dX12_list_33 ?_
        refine r_lconst (v := 1) rfl dX12_list_34 ?_
        refine r_iload_n (j := 2) rfl rfl dX12_list_35 ?_
        refine r_lshl dX12_list_36 ?_
        refine r_lconst (v := 1) rfl dX12_list_37 ?_
        refine r_lsub dX12_list_38 ?_
        refine w_cS3p (k_X12_in) (Nat.le_of_ble_eq_true rfl) lX12_52 mtX12_in (Nat.le_of_ble_eq_true rfl) (Nat.le_of_ble_eq_true rfl) (Nat.le_of_ble_eq_true rfl) dX12_list_39 ?_
        refine r_if_eq (tgt := 55) dX12_list_42 (by decide) (fun c42 => ?_) (fun c42 => ?_)
        · exact absurd ⟨by rw [Int32.toInt_toInt64]; show (0 : Int) ≤ _; omega, by rw [Int32.toInt_toInt64, e]; omega⟩ (bI_0.mp c42)
        · refine r_iload (j := 4) rfl dX12_list_45 ?_
          refine r_if_lt (tgt := 55) dX12_list_47 (by decide) (fun c47 => ?_) (fun c47 => ?_)
          · exfalso; ((try simp only [bI_0, bI_1, lc_lt, lc_gt, lc_le, lc_ge, Classical.not_not] at *); (try simp only [i_lt, i_le, i_eq, l_lt, l_le, l_eq, Int32.toInt_toInt64, Int32.reduceToInt, Int64.reduceToInt] at *); omega)
          · refine r_iload (j := 6) rfl dX12_list_50 ?_
            refine r_if_ge (tgt := 58) dX12_list_52 (by decide) (fun c52 => ?_) (fun c52 => ?_)
            · refine r_iload (j := 5) rfl dX12_list_58 ?_
              refine r_iload_n (j := 3) rfl rfl dX12_list_60 ?_
              refine r_iconst (v := (-1)) rfl dX12_list_61 ?_
              refine r_ixor dX12_list_62 ?_
              refine r_iand dX12_list_63 ?_
              refine r_istore (lv' := fun z => [(7, .int z), (0, .ref 95), (1, .int s), (2, .int n), (3, .int w), (4, .int f), (5, .int sp), (6, .int t)]) dX12_list_64 (Nat.le_of_ble_eq_true rfl) (fun _ => rfl) (fun x7_64 ex7_64 => ?_)
              rw [es, ew, spk_n (by omega) (by omega)] at ex7_64
              refine r_iload (j := 5) rfl dX12_list_66 ?_
              refine r_iload_n (j := 4) rfl rfl dX12_list_68 ?_
              refine w_cS1p (k_X12_bits ew (by omega)) (Nat.le_of_ble_eq_true rfl) lX12_552 mtX12_bits (Nat.le_of_ble_eq_true rfl) (Nat.le_of_ble_eq_true rfl) (Nat.le_of_ble_eq_true rfl) dX12_list_69 ?_
              refine r_icmp_gt (tgt := 85) dX12_list_72 (by decide) (fun c72 => ?_) (fun c72 => ?_)
              · exfalso; rw [i_lt, nI_toInt (by omega)] at c72; omega
              · refine r_iload (j := 7) rfl dX12_list_75 ?_
                refine r_iload (j := 0) rfl dX12_list_77 ?_
                refine w_cS1p (k_X12_bits ex7_64 (by omega)) (Nat.le_of_ble_eq_true rfl) lX12_552 mtX12_bits (Nat.le_of_ble_eq_true rfl) (Nat.le_of_ble_eq_true rfl) (Nat.le_of_ble_eq_true rfl) dX12_list_79 ?_
                refine r_icmp_le (tgt := 87) dX12_list_82 (by decide) (fun c82 => ?_) (fun c82 => ?_)
                · refine r_aload_n (j := 1) rfl rfl dX12_list_87 ?_
                  refine w_getL fX12_248 rfl dX12_list_88 ?_
                  refine r_lstore (lv' := fun z => [(8, .long z), (7, .int x7_64), (0, .ref 95), (1, .int s), (2, .int n), (3, .int w), (4, .int f), (5, .int sp), (6, .int t)]) dX12_list_91 (Nat.le_of_ble_eq_true rfl) (fun _ => rfl) (fun x8_91 ex8_91 => ?_)
                  refine r_aload_n (j := 2) rfl rfl dX12_list_93 ?_
                  refine r_iload_n (j := 3) rfl rfl dX12_list_94 ?_
                  refine r_i2l dX12_list_95 ?_
                  refine w_putL fX12_248 rfl (rfl) (rfl) dX12_list_96 (fun J96 hJ96 => ?_)
                  refine r_aload_n (j := 2) rfl rfl dX12_list_99 ?_
                  refine r_iconst (v := 0) rfl dX12_list_100 ?_
                  refine w_putI fX12_388 rfl (rfl) (rfl) dX12_list_101 (fun J101 hJ101 => ?_)
                  refine r_aload_n (j := 2) rfl rfl dX12_list_104 ?_
                  refine r_iload_n (j := 5) rfl rfl dX12_list_105 ?_
                  refine r_iload (j := 6) rfl dX12_list_106 ?_
                  refine w_cV2s (k_X12_drawOf (q := (W, 0, s.toInt64, I 150)) ew ef (mwI_self (by rw [hJ101]; simp [up_eq, vu_eq]; rfl) (by rw [hJ101]; simp [up_eq])) (by rw [hJ96]; unfold mwL; rw [up_up]) o1) (Nat.le_of_ble_eq_true rfl) lX12_567 vmX12_drawOf rfl (Nat.le_of_ble_eq_true rfl) (Nat.le_of_ble_eq_true rfl) (Nat.le_of_ble_eq_true rfl) dX12_list_108 (fun J108 K108 hJ108 hK108 => ?_)
                  subst hK108
                  refine r_aload_n (j := 2) rfl rfl dX12_list_111 ?_
                  refine r_iload (j := 1) rfl dX12_list_112 ?_
                  refine r_iload (j := 8) rfl dX12_list_114 ?_
                  refine w_cV2s (k_X12_drawOf (q := (spk S W, (mi1 W F s.toInt64 (I 150)).2)) ex7_64 et (by rw [hJ108]; exact (mwI_mw _ _ _).symm) (up_up _ _ _ _ _).symm o2) (Nat.le_of_ble_eq_true rfl) lX12_567 vmX12_drawOf rfl (Nat.le_of_ble_eq_true rfl) (Nat.le_of_ble_eq_true rfl) (Nat.le_of_ble_eq_true rfl) dX12_list_116 (fun J116 K116 hJ116 hK116 => ?_)
                  subst hK116
                  refine r_ior dX12_list_119 ?_
                  refine r_iload_n (j := 5) rfl rfl dX12_list_120 ?_
                  refine r_iload (j := 1) rfl dX12_list_121 ?_
                  refine r_ior dX12_list_123 ?_
                  refine r_iconst (v := (-1)) rfl dX12_list_124 ?_
                  refine r_ixor dX12_list_125 ?_
                  refine r_lconst (v := 1) rfl dX12_list_126 ?_
                  refine r_iload_n (j := 4) rfl rfl dX12_list_127 ?_
                  refine r_lshl dX12_list_128 ?_
                  refine r_lconst (v := 1) rfl dX12_list_129 ?_
                  refine r_lsub dX12_list_130 ?_
                  refine r_l2i dX12_list_131 ?_
                  refine r_iand dX12_list_132 ?_
                  refine r_ior dX12_list_133 ?_
                  refine r_istore (lv' := fun z => [(10, .int z), (8, .long x8_91), (7, .int x7_64), (0, .ref 95), (1, .int s), (2, .int n), (3, .int w), (4, .int f), (5, .int sp), (6, .int t)]) dX12_list_134 (Nat.le_of_ble_eq_true rfl) (fun _ => rfl) (fun x10_134 ex10_134 => ?_)
                  have e10 : x10_134 = nI (mlf N W F S T s.toInt64 (I 150)) := by
                    rw [ex10_134, ex7_64, ew, en, sh_i N h30]
                    exact lf_n (A := (mi1 W F s.toInt64 (I 150)).1) (B := (mi2 W F S T s.toInt64 (I 150)).1) hp (by omega) (by omega) (by omega) (by omega) hL
                  refine r_aload_n (j := 3) rfl rfl dX12_list_136 ?_
                  refine r_iload (j := 0) rfl dX12_list_137 ?_
                  refine r_iload (j := 0) rfl dX12_list_139 ?_
                  refine w_cS1p (k_X12_bits e10 hL) (Nat.le_of_ble_eq_true rfl) lX12_552 mtX12_bits (Nat.le_of_ble_eq_true rfl) (Nat.le_of_ble_eq_true rfl) (Nat.le_of_ble_eq_true rfl) dX12_list_141 ?_
                  refine w_cV2s (k_X12_drawOf (q := (mlf N W F S T s.toInt64 (I 150), (mi2 W F S T s.toInt64 (I 150)).2)) e10 rfl (by rw [hJ116]; exact (mwI_mw _ _ _).symm) (up_up _ _ _ _ _).symm o3) (Nat.le_of_ble_eq_true rfl) lX12_567 vmX12_drawOf rfl (Nat.le_of_ble_eq_true rfl) (Nat.le_of_ble_eq_true rfl) (Nat.le_of_ble_eq_true rfl) dX12_list_144 (fun J144 K144 hJ144 hK144 => ?_)
                  subst hK144
                  refine r_pop rfl dX12_list_147 ?_
                  refine r_aload_n (j := 3) rfl rfl dX12_list_148 ?_
                  refine r_lload (j := 1) rfl dX12_list_149 ?_
                  refine w_putL fX12_248 rfl (rfl) (rfl) dX12_list_151 (fun J151 hJ151 => ?_)
                  refine r_aload_n (j := 3) rfl rfl dX12_list_154 ?_
                  refine w_getI fX12_388 rfl dX12_list_155 ?_
                  refine w_iret rfl (rfl) (Nat.le_of_ble_eq_true rfl) (Nat.le_of_ble_eq_true rfl) dX12_list_158 ?_
                  refine ⟨?_, ?_, ?_, rfl⟩
                  · rw [hJ144, mwI_92]
                    rfl
                  · rw [hJ144, hJ116, mwI_mw, hJ108, mwI_mw, hJ101, mwI_be]
                    rfl
                  · rw [hJ151, ex8_91]
                    unfold mwL
                    rw [up_up, up_up, up_up, hJ96, up_up, up_id]
                · exfalso; rw [i_le, nI_toInt (by omega)] at c82; omega
            · exfalso; ((try simp only [bI_0, bI_1, lc_lt, lc_gt, lc_le, lc_ge, Classical.not_not] at *); (try simp only [i_lt, i_le, i_eq, l_lt, l_le, l_eq, Int32.toInt_toInt64, Int32.reduceToInt, Int64.reduceToInt] at *); omega)
theorem k_X12_listed_r {i : Int32} (hc : ¬ (0 ≤ i.toInt ∧ i.toInt < (I 95 92).toInt)) : Con sc mX12_listed 1 0 0 [.ref 95, .int i] (XW I L tg) (rI (-1) (XW I L tg)) := by
  refine Con_of (by decide) (Nat.le_of_ble_eq_true rfl) ?_
  refine r_iload_n (j := 1) rfl rfl dX12_listed_0 ?_
  refine r_i2l dX12_listed_1 ?_
  refine r_lconst (v := 0) rfl dX12_listed_2 ?_
  refine r_aload_n (j := 0) rfl rfl dX12_listed_3 ?_
  refine w_getI fX12_388 rfl dX12_listed_4 ?_
  refine r_i2l dX12_listed_7 ?_
  refine r_lconst (v := 1) rfl dX12_listed_8 ?_
  refine r_lsub dX12_listed_9 ?_
  refine w_cS3p (k_X12_in) (Nat.le_of_ble_eq_true rfl) lX12_52 mtX12_in (Nat.le_of_ble_eq_true rfl) (Nat.le_of_ble_eq_true rfl) (Nat.le_of_ble_eq_true rfl) dX12_listed_10 ?_
  refine r_if_eq (tgt := 25) dX12_listed_13 (by decide) (fun c13 => ?_) (fun c13 => ?_)
  · refine r_iconst (v := (-1)) rfl dX12_listed_25 ?_
    refine w_iret rfl (rfl) (Nat.le_of_ble_eq_true rfl) (Nat.le_of_ble_eq_true rfl) dX12_listed_26 ?_
    exact ⟨rfl, rfl, rfl, rfl⟩
  · have h := bI_1.mp c13
    rw [Int32.toInt_toInt64, x64_sub _ _ (by decide)] at h
    have h : 0 ≤ i.toInt ∧ i.toInt ≤ (I 95 92).toInt - 1 := h
    exact absurd ⟨h.1, by omega⟩ hc
theorem k_X12_listed_y {i : Int32} {k : Nat} (hc : 0 ≤ i.toInt ∧ i.toInt < (I 95 92).toInt) (ei : i.toInt = k) (h : k < 30) : Con sc mX12_listed 1 0 0 [.ref 95, .int i] (XW I L tg) (rI (I 150 k) (XW I L tg)) := by
  refine Con_of (by decide) (Nat.le_of_ble_eq_true rfl) ?_
  refine r_iload_n (j := 1) rfl rfl dX12_listed_0 ?_
  refine r_i2l dX12_listed_1 ?_
  refine r_lconst (v := 0) rfl dX12_listed_2 ?_
  refine r_aload_n (j := 0) rfl rfl dX12_listed_3 ?_
  refine w_getI fX12_388 rfl dX12_listed_4 ?_
  refine r_i2l dX12_listed_7 ?_
  refine r_lconst (v := 1) rfl dX12_listed_8 ?_
  refine r_lsub dX12_listed_9 ?_
  refine w_cS3p (k_X12_in) (Nat.le_of_ble_eq_true rfl) lX12_52 mtX12_in (Nat.le_of_ble_eq_true rfl) (Nat.le_of_ble_eq_true rfl) (Nat.le_of_ble_eq_true rfl) dX12_listed_10 ?_
  refine r_if_eq (tgt := 25) dX12_listed_13 (by decide) (fun c13 => ?_) (fun c13 => ?_)
  · exfalso
    apply bI_0.mp c13
    rw [Int32.toInt_toInt64, x64_sub _ _ (by decide)]
    exact ⟨hc.1, by show _ ≤ (I 95 92).toInt - 1; omega⟩
  · refine r_aload_n (j := 0) rfl rfl dX12_listed_16 ?_
    refine w_getR (b := 150) fX12_342 rfl rfl dX12_listed_17 ?_
    refine r_iload_n (j := 1) rfl rfl dX12_listed_20 ?_
    refine w_iald rfl (up_in ei h) dX12_listed_21 ?_
    refine r_goto (tgt := 26) dX12_listed_22 (by decide) ?_
    refine w_iret rfl (rfl) (Nat.le_of_ble_eq_true rfl) (Nat.le_of_ble_eq_true rfl) dX12_listed_26 ?_
    exact ⟨by rw [cl_of ei], rfl, rfl, rfl⟩
end
end
