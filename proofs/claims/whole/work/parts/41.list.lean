/-! A LIST: the component's side -/
section
def rst (s : Nat) : Nat → Nat
  | 0 => s
  | i + 1 => rst s i &&& (rst s i - 1)
theorem rst_le (s : Nat) : ∀ i, rst s i ≤ s := by
  intro i
  induction i with
  | zero => exact Nat.le_refl _
  | succ i ih => exact Nat.le_trans Nat.and_le_left ih
theorem nth_0 {s k : Nat} (h : k < cnt s 32) : nth s 32 k 0 < 32 ∧ s.testBit (nth s 32 k 0) = true ∧ cnt s (nth s 32 k 0) = k := by
  obtain ⟨-, h2, h3, h4⟩ := nth_ok s 32 k 0 (by show cnt s 0 + k < cnt s (0 + 32); rw [Nat.zero_add]; show 0 + k < _; omega)
  refine ⟨by omega, h3, ?_⟩
  rw [h4]
  show 0 + k = k
  omega
theorem rst_tb {s : Nat} : ∀ i, i ≤ cnt s 32 → ∀ j, (rst s i).testBit j = (s.testBit j && decide (i ≤ cnt s j)) := by
  intro i
  induction i with
  | zero => intro _ j; simp [rst]
  | succ i ih =>
    intro hi j
    obtain ⟨h1, h2, h3⟩ := nth_0 (s := s) (k := i) (by omega)
    have hb := ih (by omega)
    have hl : ∀ j, j < nth s 32 i 0 → (rst s i).testBit j = false := by
      intro j hj
      rw [hb]
      cases hs : s.testBit j with
      | false => rfl
      | true =>
        have := cnt_lt hs hj
        simp
        omega
    have ht : (rst s i).testBit (nth s 32 i 0) = true := by rw [hb, h2, h3]; simp
    rw [rst, low_and ht hl, clr_tb, hb]
    cases hs : s.testBit j with
    | false => rfl
    | true =>
      by_cases hj : j = nth s 32 i 0
      · rw [hj, h3]; simp
      · have : ¬ cnt s j = i := fun z => hj (cnt_one hs h2 (by rw [z, h3]))
        simp [hj]
        omega
theorem rst_low {s i : Nat} (h : i < cnt s 32) : (rst s i).testBit (nth s 32 i 0) = true ∧ ∀ j, j < nth s 32 i 0 → (rst s i).testBit j = false := by
  obtain ⟨h1, h2, h3⟩ := nth_0 h
  refine ⟨by rw [rst_tb i (by omega), h2, h3]; simp, fun j hj => ?_⟩
  rw [rst_tb i (by omega)]
  cases hs : s.testBit j with
  | false => rfl
  | true =>
    have := cnt_lt hs hj
    simp
    omega
theorem tb_pos {t p : Nat} (h : t.testBit p = true) : 0 < t := by
  rcases Nat.eq_zero_or_pos t with g | g
  · subst g; simp at h
  · exact g
theorem rst_step {s i : Nat} (hs : s < 2147483648) (h : i < cnt s 32) : nI (rst s i) &&& (nI (rst s i) - 1) = nI (rst s (i + 1)) := by
  have h1 := tb_pos (rst_low h).1
  have h2 := rst_le s i
  rw [nI_pr h1, g_and (by omega) (by omega)]
  rfl
theorem rst_end {s : Nat} (hs : s < 2147483648) : rst s (cnt s 32) = 0 := by
  apply Nat.eq_of_testBit_eq
  intro j
  rw [rst_tb _ (Nat.le_refl _), Nat.zero_testBit]
  cases h : s.testBit j with
  | false => rfl
  | true =>
    have h31 : j < 31 := low_lt h hs
    have := cnt_lt h (show j < 32 by omega)
    simp
    omega
section
variable {sc : Sc} {I : Is} {L : Ls} {tg : Nat}
theorem l_X6_memberOf {s k : Nat} (hs : s < 2147483648) (hk : k < cnt s 32) : ∀ n i : Nat, i + n = k → ∀ r x : Int32, r = nI (rst s i) → x.toInt = i → RR sc mX6_memberOf 1 0 0 (rI (nI (nth s 32 k 0)) (XW I L tg)) 0 0 4 [(3, .int x), (2, .int r), (0, .int (nI s)), (1, .int (nI k))] [] (XW I L tg) := by
  have h32 := cnt_le s 32
  have hki : (nI k).toInt = k := nI_toInt (by omega)
  intro n
  induction n with
  | zero =>
    intro i hi r x er hx
    refine r_iload_n (j := 0) rfl rfl dX6_memberOf_4 ?_
    refine r_iload_n (j := 3) rfl rfl dX6_memberOf_5 ?_
    refine r_icmp_ge (tgt := 21) dX6_memberOf_6 (by decide) (fun c6 => ?_) (fun c6 => ?_)
    · refine r_iload_n (j := 1) rfl rfl dX6_memberOf_21 ?_
      refine w_cS1p (k_J6_numberOfTrailingZeros_0f7a4) (Nat.le_of_ble_eq_true rfl) lX6_44 mtJ6_numberOfTrailingZeros_0f7a4 (Nat.le_of_ble_eq_true rfl) (Nat.le_of_ble_eq_true rfl) (Nat.le_of_ble_eq_true rfl) dX6_memberOf_22 ?_
      refine w_iret rfl (rfl) (Nat.le_of_ble_eq_true rfl) (Nat.le_of_ble_eq_true rfl) dX6_memberOf_25 ?_
      refine ⟨?_, rfl, rfl, rfl⟩
      obtain ⟨h1, h2⟩ := rst_low hk
      have := rst_le s k
      rw [er, show i = k by omega]
      exact g_low (by omega) h1 h2
    · exfalso; ((try simp only [bI_0, bI_1, lc_lt, lc_gt, lc_le, lc_ge, Classical.not_not] at *); (try simp only [i_lt, i_le, i_eq, l_lt, l_le, l_eq, Int32.toInt_toInt64, Int32.reduceToInt, Int64.reduceToInt] at *); omega)
  | succ n ih =>
    intro i hi r x er hx
    refine r_iload_n (j := 0) rfl rfl dX6_memberOf_4 ?_
    refine r_iload_n (j := 3) rfl rfl dX6_memberOf_5 ?_
    refine r_icmp_ge (tgt := 21) dX6_memberOf_6 (by decide) (fun c6 => ?_) (fun c6 => ?_)
    · exfalso; ((try simp only [bI_0, bI_1, lc_lt, lc_gt, lc_le, lc_ge, Classical.not_not] at *); (try simp only [i_lt, i_le, i_eq, l_lt, l_le, l_eq, Int32.toInt_toInt64, Int32.reduceToInt, Int64.reduceToInt] at *); omega)
    · refine r_iload_n (j := 1) rfl rfl dX6_memberOf_9 ?_
      refine r_iload_n (j := 1) rfl rfl dX6_memberOf_10 ?_
      refine r_iconst (v := 1) rfl dX6_memberOf_11 ?_
      refine r_isub dX6_memberOf_12 ?_
      refine r_iand dX6_memberOf_13 ?_
      refine r_istore_n (lv' := fun z => [(2, .int z), (3, .int x), (0, .int (nI s)), (1, .int (nI k))]) dX6_memberOf_14 rfl (Nat.le_of_ble_eq_true rfl) (fun _ => rfl) (fun x2_14 ex2_14 => ?_)
      refine r_iinc (j := 1) (lv' := fun z => [(3, .int z), (2, .int x2_14), (0, .int (nI s)), (1, .int (nI k))]) dX6_memberOf_15 rfl (Nat.le_of_ble_eq_true rfl) (fun _ => rfl) (fun x3_15 ex3_15 => ?_)
      refine r_goto (tgt := 4) dX6_memberOf_18 (by decide) ?_
      exact ih (i + 1) (by omega) _ _ (by rw [ex2_14, er]; exact rst_step hs (by omega)) (by rw [ex3_15]; exact i_inc hx (by omega))
theorem k_X6_memberOf {a b : Int32} {s k : Nat} (ea : a = nI s) (eb : b = nI k) (hs : s < 2147483648) (hk : k < cnt s 32) : Con sc mX6_memberOf 1 0 0 [.int a, .int b] (XW I L tg) (rI (nI (nth s 32 k 0)) (XW I L tg)) := by
  subst ea eb
  refine Con_of (by decide) (Nat.le_of_ble_eq_true rfl) ?_
  refine r_iload_n (j := 0) rfl rfl dX6_memberOf_0 ?_
  refine r_istore_n (lv' := fun z => [(2, .int z), (0, .int (nI s)), (1, .int (nI k))]) dX6_memberOf_1 rfl (Nat.le_of_ble_eq_true rfl) (fun _ => rfl) (fun x2_1 ex2_1 => ?_)
  refine r_iconst (v := 0) rfl dX6_memberOf_2 ?_
  refine r_istore_n (lv' := fun z => [(3, .int z), (2, .int x2_1), (0, .int (nI s)), (1, .int (nI k))]) dX6_memberOf_3 rfl (Nat.le_of_ble_eq_true rfl) (fun _ => rfl) (fun x3_3 ex3_3 => ?_)
  exact l_X6_memberOf hs hk k 0 (Nat.zero_add _) _ _ (by rw [ex2_1]; rfl) (by rw [ex3_3]; rfl)
end
/-- who is left, how many are drawn, the seed, the row -/
abbrev Dw : Type := Nat × Nat × Int64 × (Nat → Int32)
def dwP (g : Nat) (q : Dw) : Nat := nth (g &&& q.1) 32 (nN (dvl (dnx q.2.2.1) (nI (cnt (g &&& q.1) 32)))) 0
def dwN (g : Nat) (q : Dw) : Dw := (clr q.1 (dwP g q), q.2.1 + 1, dnx q.2.2.1, va_up q.2.2.2 q.2.1 (nI (dwP g q)))
def dwS (g : Nat) : Nat → Dw → Dw
  | 0, q => q
  | n + 1, q => dwS g n (dwN g q)
def dwI (I : Is) (q : Dw) : Is := upr (up (up I 92 2 (nI q.1)) 92 3 (nI q.2.1)) 93 q.2.2.2
def dwL (L : Ls) (q : Dw) : Ls := up L 94 0 q.2.2.1
theorem dnx_rng {s : Int64} (h0 : 0 ≤ s.toInt) (h1 : s.toInt < 2147483648) : 0 ≤ (dnx s).toInt ∧ (dnx s).toInt < 2147483648 := by
  obtain ⟨k, hk, rfl⟩ := pk_lOf (x := s) (by rw [l_lt]; simp; omega)
  rw [pk_lT hk] at h1
  have e1 : (1103515245 * lN k + 12345) = lN (1103515245 * k + 12345) := by
    rw [l_eq, pk_lT (by omega), l_add] <;> (try rw [l_mul]) <;> (try rw [pk_lT hk]) <;> simp only [Int64.reduceToInt] <;> omega
  have e2 : (2147483648 : Int64) = lN 2147483648 := rfl
  unfold dnx
  rw [e1, e2, pk_lRem (by omega) (by omega) (by omega), pk_lT (by omega)]
  omega
theorem dvl_rng {s : Int64} {n : Nat} (h0 : 0 ≤ s.toInt) (h1 : s.toInt < 2147483648) (hn : 0 < n) (hn2 : n ≤ 1000) : nN (dvl s (nI n)) < n ∧ dvl s (nI n) = nI (nN (dvl s (nI n))) := by
  obtain ⟨k, hk, rfl⟩ := pk_lOf (x := s) (by rw [l_lt]; simp; omega)
  rw [pk_lT hk] at h1
  have e1 : (nI n).toInt64 = lN n := by rw [l_eq, Int32.toInt_toInt64, nI_toInt (by omega), pk_lT (by omega)]
  have e2 : (65536 : Int64) = lN 65536 := rfl
  have e3 : dvl (lN k) (nI n) = nI (k / 65536 % n) := by
    unfold dvl
    have hm : k / 65536 % n < n := Nat.mod_lt _ hn
    rw [e1, e2, pk_lDiv hk (by omega) (by omega), pk_lRem (by omega) hn (by omega), i_eq, nI_toInt (by omega), Int64.toInt_toInt32, pk_lT (by omega)]
    exact i_bm (by omega) (by omega)
  have hm : k / 65536 % n < n := Nat.mod_lt _ hn
  rw [e3]
  unfold nN
  rw [nI_clamp (by omega)]
  exact ⟨hm, rfl⟩
/-- what a drawing needs -/
def dwOk (g n : Nat) (q : Dw) : Prop := g < 2147483648 ∧ q.1 < 2147483648 ∧ (0 ≤ q.2.2.1.toInt ∧ q.2.2.1.toInt < 2147483648) ∧ q.2.1 + n ≤ 30 ∧ n ≤ cnt (g &&& q.1) 32
theorem dwP_ok {g n : Nat} {q : Dw} (h : dwOk g (n + 1) q) : nN (dvl (dnx q.2.2.1) (nI (cnt (g &&& q.1) 32))) < cnt (g &&& q.1) 32 ∧ dvl (dnx q.2.2.1) (nI (cnt (g &&& q.1) 32)) = nI (nN (dvl (dnx q.2.2.1) (nI (cnt (g &&& q.1) 32)))) ∧ (g &&& q.1).testBit (dwP g q) = true ∧ dwP g q < 31 := by
  obtain ⟨h1, h2, h3, h4, h5⟩ := h
  have hd := dnx_rng h3.1 h3.2
  obtain ⟨ha, hb⟩ := dvl_rng hd.1 hd.2 (show 0 < cnt (g &&& q.1) 32 by omega) (by have := cnt_le (g &&& q.1) 32; omega)
  have ht := (nth_0 ha).2.1
  have hle : g &&& q.1 ≤ g := Nat.and_le_left
  exact ⟨ha, hb, ht, low_lt (n := 31) ht (by omega)⟩
theorem and_clr (g u p : Nat) : g &&& clr u p = clr (g &&& u) p := by
  apply Nat.eq_of_testBit_eq
  intro j
  rw [Nat.testBit_and, clr_tb, clr_tb, Nat.testBit_and, Bool.and_assoc]
theorem dwN_ok {g n : Nat} {q : Dw} (h : dwOk g (n + 1) q) : dwOk g n (dwN g q) := by
  obtain ⟨-, -, ht, hp⟩ := dwP_ok h
  obtain ⟨h1, h2, h3, h4, h5⟩ := h
  have hc := clr_le q.1 (dwP g q)
  have hn := cnt_clr ht 32
  rw [if_pos (by omega)] at hn
  refine ⟨h1, ?_, dnx_rng h3.1 h3.2, ?_, ?_⟩
  · show clr q.1 (dwP g q) < _
    omega
  · show q.2.1 + 1 + n ≤ 30
    omega
  · show n ≤ cnt (g &&& clr q.1 (dwP g q)) 32
    rw [and_clr]
    omega
theorem dw_s (I : Is) (q : Dw) (p u m : Nat) (s : Int64) : up (up (up (dwI I q) 93 q.2.1 (nI p)) 92 3 (nI m)) 92 2 (nI u) = dwI I (u, m, s, va_up q.2.2.2 q.2.1 (nI p)) := by
  unfold dwI
  funext a
  by_cases h1 : a = 92
  · subst h1
    funext j
    by_cases h2 : j = 2
    · subst h2; simp [up_eq, upr_eq, vu_eq]
    · by_cases h3 : j = 3
      · subst h3; simp [up_eq, upr_eq, vu_eq]
      · simp [up_eq, upr_eq, vu_eq, h2, h3]
  · by_cases h2 : a = 93
    · subst h2; simp [up_eq, upr_eq]
    · simp [up_eq, upr_eq, h1, h2]
section
variable {sc : Sc} {I : Is} {L : Ls} {tg : Nat}
theorem l_X6_drawFrom {g N : Nat} (hN : N < 1000) : ∀ n i : Nat, i + n = N → ∀ (q : Dw) (J : Is) (K : Ls) (x : Int32), J = dwI I q → K = dwL L q → dwOk g n q → x.toInt = i → RR sc mX6_drawFrom 2 0 0 (rV (XW (dwI I (dwS g n q)) (dwL L (dwS g n q)) tg)) 0 0 2 [(3, .int x), (0, .ref 92), (1, .int (nI g)), (2, .int (nI N))] [] (XW J K tg) := by
  have hNi : (nI N).toInt = N := nI_toInt (by omega)
  intro n
  induction n with
  | zero =>
    intro i hi q J K x eJ eK hq hx
    refine r_iload_n (j := 0) rfl rfl dX6_drawFrom_2 ?_
    refine r_iload_n (j := 3) rfl rfl dX6_drawFrom_3 ?_
    refine r_icmp_ge (tgt := 85) dX6_drawFrom_4 (by decide) (fun c4 => ?_) (fun c4 => ?_)
    · refine w_vret rfl (Nat.le_of_ble_eq_true rfl) (Nat.le_of_ble_eq_true rfl) dX6_drawFrom_85 ?_
      exact ⟨eJ, eK, rfl⟩
    · exfalso; ((try simp only [bI_0, bI_1, lc_lt, lc_gt, lc_le, lc_ge, Classical.not_not] at *); (try simp only [i_lt, i_le, i_eq, l_lt, l_le, l_eq, Int32.toInt_toInt64, Int32.reduceToInt, Int64.reduceToInt] at *); omega)
  | succ n ih =>
    intro i hi q J K x eJ eK hq hx
    obtain ⟨hd1, hd2, hd3, hd4⟩ := dwP_ok hq
    have hq2 := dwN_ok hq
    obtain ⟨g1, g2, g3, g4, g5⟩ := hq
    have j2 : J 92 2 = nI q.1 := by rw [eJ]; simp [dwI, up_eq, upr_eq, vu_eq]
    have j3 : J 92 3 = nI q.2.1 := by rw [eJ]; simp [dwI, up_eq, upr_eq, vu_eq]
    have j3i : (J 92 3).toInt = q.2.1 := by rw [j3, nI_toInt (by omega)]
    have k0 : K 94 0 = q.2.2.1 := by rw [eK]; simp [dwL, up_eq, vu_eq]
    have hle : g &&& q.1 ≤ g := Nat.and_le_left
    have hcp := cnt_le (g &&& q.1) 32
    refine r_iload_n (j := 0) rfl rfl dX6_drawFrom_2 ?_
    refine r_iload_n (j := 3) rfl rfl dX6_drawFrom_3 ?_
    refine r_icmp_ge (tgt := 85) dX6_drawFrom_4 (by decide) (fun c4 => ?_) (fun c4 => ?_)
    · exfalso; ((try simp only [bI_0, bI_1, lc_lt, lc_gt, lc_le, lc_ge, Classical.not_not] at *); (try simp only [i_lt, i_le, i_eq, l_lt, l_le, l_eq, Int32.toInt_toInt64, Int32.reduceToInt, Int64.reduceToInt] at *); omega)
    · refine r_aload_n (j := 1) rfl rfl dX6_drawFrom_7 ?_
      refine w_getI fX6_20 rfl dX6_drawFrom_8 ?_
      refine r_bipush (v := 30) rfl dX6_drawFrom_11 ?_
      refine r_icmp_ge (tgt := 85) dX6_drawFrom_13 (by decide) (fun c13 => ?_) (fun c13 => ?_)
      · exfalso; ((try simp only [bI_0, bI_1, lc_lt, lc_gt, lc_le, lc_ge, Classical.not_not] at *); (try simp only [i_lt, i_le, i_eq, l_lt, l_le, l_eq, Int32.toInt_toInt64, Int32.reduceToInt, Int64.reduceToInt] at *); omega)
      · refine r_iload_n (j := 2) rfl rfl dX6_drawFrom_16 ?_
        refine r_aload_n (j := 1) rfl rfl dX6_drawFrom_17 ?_
        refine w_getI fX6_28 rfl dX6_drawFrom_18 ?_
        refine r_iand dX6_drawFrom_21 ?_
        refine r_istore (lv' := fun z => [(4, .int z), (3, .int x), (0, .ref 92), (1, .int (nI g)), (2, .int (nI N))]) dX6_drawFrom_22 (Nat.le_of_ble_eq_true rfl) (fun _ => rfl) (fun x4_22 ex4_22 => ?_)
        rw [j2, g_and (by omega) (by omega)] at ex4_22; have es : swr x4_22 = nI (cnt (g &&& q.1) 32) := by rw [ex4_22, swr_pop (by omega)]
        refine r_iload (j := 0) rfl dX6_drawFrom_24 ?_
        refine r_aload_n (j := 2) rfl rfl dX6_drawFrom_26 ?_
        refine w_getR (b := 94) fX6_16 rfl rfl dX6_drawFrom_27 ?_
        refine r_iload (j := 0) rfl dX6_drawFrom_30 ?_
        refine w_cS1p (k_J6_bitCount_0f7a4) (Nat.le_of_ble_eq_true rfl) lX6_31 mtJ6_bitCount_0f7a4 (Nat.le_of_ble_eq_true rfl) (Nat.le_of_ble_eq_true rfl) (Nat.le_of_ble_eq_true rfl) dX6_drawFrom_32 ?_
        refine w_cV1s (k_X1_draw (a := 94) rfl (by rw [es, nI_toInt (by omega)]; omega)) (Nat.le_of_ble_eq_true rfl) lX6_37 vmX1_draw rfl (Nat.le_of_ble_eq_true rfl) (Nat.le_of_ble_eq_true rfl) (Nat.le_of_ble_eq_true rfl) dX6_drawFrom_35 (fun J35 K35 hJ35 hK35 => ?_)
        subst hK35
        refine w_cS2p (k_X6_memberOf ex4_22 (by rw [es, k0]; exact hd2) (by omega) hd1) (Nat.le_of_ble_eq_true rfl) lX6_40 mtX6_memberOf (Nat.le_of_ble_eq_true rfl) (Nat.le_of_ble_eq_true rfl) (Nat.le_of_ble_eq_true rfl) dX6_drawFrom_38 ?_
        refine r_istore (lv' := fun z => [(5, .int z), (4, .int x4_22), (3, .int x), (0, .ref 92), (1, .int (nI g)), (2, .int (nI N))]) dX6_drawFrom_41 (Nat.le_of_ble_eq_true rfl) (fun _ => rfl) (fun x5_41 ex5_41 => ?_)
        have ep : x5_41 = nI (dwP g q) := ex5_41; have j35 : J35 92 3 = nI q.2.1 := by rw [hJ35, j3]
        refine r_aload_n (j := 3) rfl rfl dX6_drawFrom_43 ?_
        refine w_getR (b := 93) fX6_9 rfl rfl dX6_drawFrom_44 ?_
        refine r_aload_n (j := 3) rfl rfl dX6_drawFrom_47 ?_
        refine w_getI fX6_20 rfl dX6_drawFrom_48 ?_
        refine r_iload (j := 0) rfl dX6_drawFrom_51 ?_
        refine w_iast rfl (by rw [j35]; exact vp_in_nI (by omega) (by omega)) dX6_drawFrom_53 (fun J53 hJ53 => ?_)
        refine r_aload_n (j := 3) rfl rfl dX6_drawFrom_54 ?_
        refine r_dup rfl dX6_drawFrom_55 ?_
        refine w_getI fX6_20 rfl dX6_drawFrom_56 ?_
        refine r_iconst (v := 1) rfl dX6_drawFrom_59 ?_
        refine r_iadd dX6_drawFrom_60 ?_
        refine w_putI fX6_20 rfl (rfl) (rfl) dX6_drawFrom_61 (fun J61 hJ61 => ?_)
        refine r_aload_n (j := 3) rfl rfl dX6_drawFrom_64 ?_
        refine r_dup rfl dX6_drawFrom_65 ?_
        refine w_getI fX6_28 rfl dX6_drawFrom_66 ?_
        refine r_iconst (v := 1) rfl dX6_drawFrom_69 ?_
        refine r_iload (j := 0) rfl dX6_drawFrom_70 ?_
        refine r_ishl dX6_drawFrom_72 ?_
        refine r_iconst (v := (-1)) rfl dX6_drawFrom_73 ?_
        refine r_ixor dX6_drawFrom_74 ?_
        refine r_iand dX6_drawFrom_75 ?_
        refine w_putI fX6_28 rfl (rfl) (rfl) dX6_drawFrom_76 (fun J76 hJ76 => ?_)
        refine r_iinc (j := 2) (lv' := fun z => [(3, .int z), (5, .int x5_41), (4, .int x4_22), (0, .ref 92), (1, .int (nI g)), (2, .int (nI N))]) dX6_drawFrom_79 rfl (Nat.le_of_ble_eq_true rfl) (fun _ => rfl) (fun x3_79 ex3_79 => ?_)
        refine r_goto (tgt := 2) dX6_drawFrom_82 (by decide) ?_
        refine r_lvs [(3, .int x3_79), (0, .ref 92), (1, .int (nI g)), (2, .int (nI N))] [0, 3, 4, 5] rfl ?_
        rw [dwS]
        have f1 : J53 = up (dwI I q) 93 q.2.1 (nI (dwP g q)) := by rw [hJ53, j35, nI_clamp (by omega), ep, hJ35, eJ]
        have f2 : J61 = up J53 92 3 (nI (q.2.1 + 1)) := by
          rw [hJ61, show J53 92 3 = nI q.2.1 by rw [hJ53, up_n _ _ _ (by decide)]; exact j35, nI_1]
        have f3 : J76 = up J61 92 2 (nI (clr q.1 (dwP g q))) := by
          rw [hJ76, show J61 92 2 = nI q.1 by rw [f2, up_s, vu_n _ _ (by decide), f1, up_n _ _ _ (by decide), ← eJ, j2], ep, g_clr g2 hd4]
        refine ih (i + 1) (by omega) (dwN g q) _ _ _ ?_ ?_ hq2 (by rw [ex3_79]; exact i_inc hx (by omega))
        · rw [f3, f2, f1]
          exact dw_s I q _ _ _ _
        · rw [k0, eK]
          unfold dwL
          rw [up_up]
          rfl
theorem k_X6_drawFrom {g n : Nat} {a b : Int32} {q : Dw} (ea : a = nI g) (eb : b = nI n) (eI : I = dwI I q) (eL : L = dwL L q) (hq : dwOk g n q) : Con sc mX6_drawFrom 2 0 0 [.ref 92, .int a, .int b] (XW I L tg) (rV (XW (dwI I (dwS g n q)) (dwL L (dwS g n q)) tg)) := by
  subst ea eb
  refine Con_of (by decide) (Nat.le_of_ble_eq_true rfl) ?_
  refine r_iconst (v := 0) rfl dX6_drawFrom_0 ?_
  refine r_istore_n (lv' := fun z => [(3, .int z), (0, .ref 92), (1, .int (nI g)), (2, .int (nI n))]) dX6_drawFrom_1 rfl (Nat.le_of_ble_eq_true rfl) (fun _ => rfl) (fun x3_1 ex3_1 => ?_)
  exact l_X6_drawFrom (by have := hq.2.2.2.1; omega) n 0 (Nat.zero_add _) q _ _ _ eI eL hq (by rw [ex3_1]; rfl)
theorem k_X6_clear : Con sc mX6_clear 0 0 0 [.ref 92] (XW I L tg) (rV (XW (up I 92 3 0) L tg)) := by
  refine Con_of (by decide) (Nat.le_of_ble_eq_true rfl) ?_
  refine r_aload_n (j := 0) rfl rfl dX6_clear_0 ?_
  refine r_iconst (v := 0) rfl dX6_clear_1 ?_
  refine w_putI fX6_20 rfl (rfl) (rfl) dX6_clear_2 (fun J2 hJ2 => ?_)
  refine w_vret rfl (Nat.le_of_ble_eq_true rfl) (Nat.le_of_ble_eq_true rfl) dX6_clear_5 ?_
  exact ⟨hJ2, rfl, rfl⟩
theorem k_X6_begin {s u : Int32} : Con sc mX6_begin 0 0 0 [.ref 92, .int s, .int u] (XW I L tg) (rV (XW (up (up I 92 2 u) 92 3 0) (up L 94 0 s.toInt64) tg)) := by
  refine Con_of (by decide) (Nat.le_of_ble_eq_true rfl) ?_
  refine r_aload_n (j := 0) rfl rfl dX6_begin_0 ?_
  refine w_getR (b := 94) fX6_16 rfl rfl dX6_begin_1 ?_
  refine r_iload_n (j := 1) rfl rfl dX6_begin_4 ?_
  refine r_i2l dX6_begin_5 ?_
  refine w_putL fX6_24 rfl (rfl) (rfl) dX6_begin_6 (fun J6 hJ6 => ?_)
  refine r_aload_n (j := 0) rfl rfl dX6_begin_9 ?_
  refine r_iload_n (j := 2) rfl rfl dX6_begin_10 ?_
  refine w_putI fX6_28 rfl (rfl) (rfl) dX6_begin_11 (fun J11 hJ11 => ?_)
  refine r_aload_n (j := 0) rfl rfl dX6_begin_14 ?_
  refine r_iconst (v := 0) rfl dX6_begin_15 ?_
  refine w_putI fX6_20 rfl (rfl) (rfl) dX6_begin_16 (fun J16 hJ16 => ?_)
  refine w_vret rfl (Nat.le_of_ble_eq_true rfl) (Nat.le_of_ble_eq_true rfl) dX6_begin_19 ?_
  exact ⟨by rw [hJ16, hJ11], hJ6, rfl⟩
end
end
