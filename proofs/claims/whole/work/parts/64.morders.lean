/-! the model: runners, orders, wrong -/
section
variable {sc : Sc} {I : Is} {L : Ls} {tg NH : Nat}
theorem sd_SB {J : Is} (h1 : J 105 = I 105) (h2 : J 130 = I 130) : ∀ i, sdC J i = sdC I i := by
  intro i
  induction i with
  | zero => rfl
  | succ i ih => show sdC J i + tnI J i = sdC I i + tnI I i; unfold tnI; rw [ih, h1, h2]
def gnOk (I : Is) (NH : Nat) : Prop := NH ≤ 5 ∧ I 95 10 = nI NH ∧ (∀ h, h < NH → 0 ≤ (I 130 h).toInt ∧ (I 130 h).toInt ≤ 40) ∧ ∀ h, h < NH → 0 ≤ (I 104 h - I 130 h).toInt ∧ (I 104 h - I 130 h).toInt ≤ 1000
def atI (I : Is) (NH : Nat) : Is := upr I 131 (prf (I 105) NH (I 131))
def ruF (I : Is) (L : Ls) (tg NH : Nat) : Int32 → Is → Ls → Nat → Prop := fun v J K t => K = L ∧ t = tg ∧ SB [95, 131, 132, 133, 134, 135, 136] I J ∧ (∀ j, j ≠ 65 → J 95 j = I 95 j) ∧ ((10 < sdC I NH ∧ v = -3) ∨ (sdC I NH ≤ 10 ∧ feV (gxI (atI I NH) NH) v))
theorem l_X12_runners (g : gnOk I NH) (h10 : sdC I NH ≤ 10) : ∀ n i : Nat, i + n = NH → ∀ (J : Is) (x : Int32), J = upr I 131 (prf (I 105) i (I 131)) → x.toInt = i → RR sc mX12_runners 18 0 0 (gI (ruF I L tg NH)) 0 0 15 [(1, .int x), (0, .ref 95)] [] (XW J L tg) := by
  obtain ⟨h5, hH, hg, hcap⟩ := g
  have hHi : (I 95 10).toInt = NH := by rw [hH, nI_toInt (by omega)]
  intro n
  induction n with
  | zero =>
    intro i hi J x eJ hx
    have e : i = NH := by omega
    subst e
    have eJ : J = atI I i := eJ
    have r : ∀ q, q ≠ 131 → J q = I q := fun q hq => by rw [eJ]; exact upr_n _ _ hq
    have hJi : (J 95 10).toInt = i := by rw [r 95 (by decide)]; exact hHi
    have sd := sd_SB (I := I) (J := J) (r 105 (by decide)) (r 130 (by decide)) i
    refine r_iload_n (j := 0) rfl rfl dX12_runners_15 ?_
    refine r_aload_n (j := 1) rfl rfl dX12_runners_16 ?_
    refine w_getI fX12_355 rfl dX12_runners_17 ?_
    refine r_icmp_ge (tgt := 41) dX12_runners_20 (by decide) (fun c20 => ?_) (fun c20 => ?_)
    · refine r_aload_n (j := 1) rfl rfl dX12_runners_41 ?_
      refine w_cV0g (k_X12_fewest (NH := i) h5 (by rw [r 95 (by decide)]; exact hH) (by rw [sd]; exact h10) (fun h hh => by rw [r 130 (by decide)]; exact (hg h hh).1) (fun h hh => by rw [r 104 (by decide), r 130 (by decide)]; exact hcap h hh)) (Nat.le_of_ble_eq_true rfl) lX12_481 vmX12_fewest rfl (Nat.le_of_ble_eq_true rfl) (Nat.le_of_ble_eq_true rfl) (Nat.le_of_ble_eq_true rfl) dX12_runners_42 (fun v42 J42 K42 t42 h42 => ?_)
      obtain ⟨hK, ht, hS, h95, hv⟩ := h42
      refine w_iretG rfl (rfl) (Nat.le_of_ble_eq_true rfl) (Nat.le_of_ble_eq_true rfl) dX12_runners_45 ?_
      refine ⟨hK, ht, ?_, ?_, Or.inr ⟨h10, by rw [← eJ]; exact hv⟩⟩
      · have s1 : SB [95, 131, 132, 133, 134, 135, 136] I J := by rw [eJ]; exact SB.rf.upr (by decide)
        exact s1.tr (hS.mono (by decide))
      · intro j hj; rw [h95 j hj, r 95 (by decide)]
    · exfalso; ((try simp only [bI_0, bI_1, lc_lt, lc_gt, lc_le, lc_ge, Classical.not_not] at *); (try simp only [i_lt, i_le, i_eq, l_lt, l_le, l_eq, Int32.toInt_toInt64, Int32.reduceToInt, Int64.reduceToInt] at *); omega)
  | succ n ih =>
    intro i hi J x eJ hx
    have cx := cl_of hx
    have hin := up_in (N := 5) hx (by omega)
    have r : ∀ q, q ≠ 131 → J q = I q := fun q hq => by rw [eJ]; exact upr_n _ _ hq
    have hJi : (J 95 10).toInt = NH := by rw [r 95 (by decide)]; exact hHi
    refine r_iload_n (j := 0) rfl rfl dX12_runners_15 ?_
    refine r_aload_n (j := 1) rfl rfl dX12_runners_16 ?_
    refine w_getI fX12_355 rfl dX12_runners_17 ?_
    refine r_icmp_ge (tgt := 41) dX12_runners_20 (by decide) (fun c20 => ?_) (fun c20 => ?_)
    · exfalso; ((try simp only [bI_0, bI_1, lc_lt, lc_gt, lc_le, lc_ge, Classical.not_not] at *); (try simp only [i_lt, i_le, i_eq, l_lt, l_le, l_eq, Int32.toInt_toInt64, Int32.reduceToInt, Int64.reduceToInt] at *); omega)
    · refine r_aload_n (j := 1) rfl rfl dX12_runners_23 ?_
      refine w_getR (b := 131) fX12_285 rfl rfl dX12_runners_24 ?_
      refine r_iload_n (j := 0) rfl rfl dX12_runners_27 ?_
      refine r_aload_n (j := 1) rfl rfl dX12_runners_28 ?_
      refine w_getR (b := 105) fX12_231 rfl rfl dX12_runners_29 ?_
      refine r_iload_n (j := 0) rfl rfl dX12_runners_32 ?_
      refine w_iald rfl (by first | assumption | (rw [vp_in_iff]; ((try simp only [bI_0, bI_1, lc_lt, lc_gt, lc_le, lc_ge, Classical.not_not] at *); (try simp only [i_lt, i_le, i_eq, l_lt, l_le, l_eq, Int32.toInt_toInt64, Int32.reduceToInt, Int64.reduceToInt] at *); omega))) dX12_runners_33 ?_
      refine w_iast rfl (by first | assumption | (rw [vp_in_iff]; ((try simp only [bI_0, bI_1, lc_lt, lc_gt, lc_le, lc_ge, Classical.not_not] at *); (try simp only [i_lt, i_le, i_eq, l_lt, l_le, l_eq, Int32.toInt_toInt64, Int32.reduceToInt, Int64.reduceToInt] at *); omega))) dX12_runners_34 (fun J34 hJ34 => ?_)
      refine r_iinc (j := 0) (lv' := fun z => [(1, .int z), (0, .ref 95)]) dX12_runners_35 rfl (Nat.le_of_ble_eq_true rfl) (fun _ => rfl) (fun x1_35 ex1_35 => ?_)
      refine r_goto (tgt := 15) dX12_runners_38 (by decide) ?_
      refine ih (i + 1) (by omega) _ _ ?_ (by rw [ex1_35]; exact i_inc hx (by omega))
      rw [hJ34, cx, r 105 (by decide), eJ, upr_up, ← prf_s (I 105)]
theorem k_X12_runners (g : gnOk I NH) : Con sc mX12_runners 18 0 0 [.ref 95] (XW I L tg) (gI (ruF I L tg NH)) := by
  obtain ⟨h5, hH, hg, hcap⟩ := id g
  have hHi : (I 95 10).toInt = NH := by rw [hH, nI_toInt (by omega)]
  have eN : nN (I 95 10) = NH := cl_of hHi
  have eag := ag_i hg h5
  have hle : sdC I NH ≤ 200 := by
    have key : ∀ n, n ≤ NH → sdC I n ≤ 40 * n := by
      intro n
      induction n with
      | zero => intro _; exact Nat.le_refl _
      | succ n ih =>
        intro hn
        have := ih (by omega)
        have hgn := hg n (by omega)
        have hN := nN_of hgn.1
        show sdC I n + tnI I n ≤ _
        unfold tnI
        split <;> omega
    have := key NH (Nat.le_refl _)
    omega
  refine Con_of (by decide) (Nat.le_of_ble_eq_true rfl) ?_
  refine r_aload_n (j := 0) rfl rfl dX12_runners_0 ?_
  refine r_iconst (v := 1) rfl dX12_runners_1 ?_
  refine w_cV1p (k_X12_allGone (by omega) (by omega)) (Nat.le_of_ble_eq_true rfl) lX12_477 vmX12_allGone rfl (Nat.le_of_ble_eq_true rfl) (Nat.le_of_ble_eq_true rfl) (Nat.le_of_ble_eq_true rfl) dX12_runners_2 ?_
  refine r_bipush (v := 10) rfl dX12_runners_5 ?_
  rw [eN, eag]
  refine r_icmp_le (tgt := 13) dX12_runners_7 (by decide) (fun c7 => ?_) (fun c7 => ?_)
  · refine r_iconst (v := 0) rfl dX12_runners_13 ?_
    refine r_istore_n (lv' := fun z => [(1, .int z), (0, .ref 95)]) dX12_runners_14 rfl (Nat.le_of_ble_eq_true rfl) (fun _ => rfl) (fun x1_14 ex1_14 => ?_)
    rw [i_le, nI_toInt (by omega)] at c7; have c7 : (sdC I NH : Int) ≤ 10 := c7; exact l_X12_runners g (by omega) NH 0 (Nat.zero_add _) _ _ (by rw [prf_0, upr_id]) (by rw [ex1_14]; rfl)
  · refine r_bipush (v := (-3)) rfl dX12_runners_10 ?_
    refine w_iretG rfl (rfl) (Nat.le_of_ble_eq_true rfl) (Nat.le_of_ble_eq_true rfl) dX12_runners_12 ?_
    rw [i_le, nI_toInt (by omega)] at c7; have c7 : ¬ (sdC I NH : Int) ≤ 10 := c7; exact ⟨rfl, rfl, SB.rf, fun _ _ => rfl, Or.inl ⟨by omega, rfl⟩⟩
/-- the leaves of the orders -/
def miA (m : Nat → Int32) (NH : Nat) (at_ : Nat → Int32) : Nat → Int32 := fun h => if h < NH ∧ ¬ m h = -1 then at_ h else -1
def owN (W : (Nat → Int32) → Bool) (m : Nat → Int32) (NH : Nat) : Nat → Nat → Nat → (Nat → Int32) → Nat
  | 0, _, _, a => (W (miA m NH a)).toNat
  | n + 1, h, u, a => if m h = -1 then owN W m NH n (h + 1) u a else smN (fun o => if m o = -1 ∨ u.testBit o = true then 0 else owN W m NH n (h + 1) (u ||| 2 ^ o) (va_up a h (m o))) NH
theorem owN_cg {W : (Nat → Int32) → Bool} {m : Nat → Int32} {NH : Nat} : ∀ n h u (a a' : Nat → Int32), h + n = NH → (∀ k, k < h → ¬ m k = -1 → a k = a' k) → owN W m NH n h u a = owN W m NH n h u a' := by
  intro n
  induction n with
  | zero =>
    intro h u a a' hh hk
    rw [owN, owN]
    have : miA m NH a = miA m NH a' := by
      funext j
      unfold miA
      by_cases e : j < NH ∧ ¬ m j = -1
      · rw [if_pos e, if_pos e, hk j (by omega) e.2]
      · rw [if_neg e, if_neg e]
    rw [this]
  | succ n ih =>
    intro h u a a' hh hk
    rw [owN, owN]
    by_cases e : m h = -1
    · rw [if_pos e, if_pos e]
      refine ih (h + 1) u a a' (by omega) (fun k hk2 hm => hk k ?_ hm)
      by_cases e2 : k = h
      · subst e2; exact absurd e hm
      · omega
    · rw [if_neg e, if_neg e]
      refine smN_cg _ (fun o ho => ?_)
      by_cases e2 : m o = -1 ∨ u.testBit o = true
      · rw [if_pos e2, if_pos e2]
      · rw [if_neg e2, if_neg e2]
        refine ih (h + 1) _ _ _ (by omega) (fun k hk2 hm => ?_)
        by_cases e3 : k = h
        · subst e3; rw [vu_s, vu_s]
        · rw [vu_n _ _ e3, vu_n _ _ e3]; exact hk k (by omega) hm
def orF (W : (Nat → Int32) → Bool) (I : Is) (L : Ls) (tg NH n h u : Nat) : Is → Ls → Nat → Prop := fun J K t => K = L ∧ t = tg ∧ SB [95, 131, 132, 133, 134, 135, 136] I J ∧ (∀ j, j ≠ 65 → j ≠ 68 → J 95 j = I 95 j) ∧ (∀ k, k < h → J 131 k = I 131 k) ∧ J 95 68 = I 95 68 + nI (owN W (I 105) NH n h u (I 131))
def gnS (I0 J : Is) : Prop := SB [95, 131, 132, 133, 134, 135, 136] I0 J ∧ ∀ j, j ≠ 65 → j ≠ 68 → J 95 j = I0 95 j
theorem gn_go {I0 J : Is} (g : gnOk I0 NH) (h : gnS I0 J) : gnOk J NH := by
  obtain ⟨g1, g2, g3, g4⟩ := g
  obtain ⟨h1, h2⟩ := h
  refine ⟨g1, by rw [h2 10 (by decide) (by decide)]; exact g2, ?_, ?_⟩
  · rw [h1 130 (by decide)]; exact g3
  · rw [h1 104 (by decide), h1 130 (by decide)]; exact g4
def wOk (W : (Nat → Int32) → Bool) (I0 : Is) (NH : Nat) : Prop := ∀ (J : Is) (v : Int32), gnS I0 J → (∀ k, k < NH → ¬ I0 105 k = -1 → ¬ J 131 k = -1) → feV (gxI J NH) v → (v = -1 ↔ W (miA (I0 105) NH (J 131)) = true)
theorem or_lt5 : ∀ u, u < 32 → ∀ o, o < 5 → u ||| 2 ^ o < 32 := by decide +kernel
theorem l_X12_or {W : (Nat → Int32) → Bool} {I0 : Is} {n h u : Nat} (g : gnOk I0 NH) (hI : gnS I0 I) (hA : ∀ k, k < h → ¬ I0 105 k = -1 → ¬ I 131 k = -1) (hh : h + (n + 1) = NH) (hu : u < 32)
    (IH : ∀ (J : Is) (u' : Nat), gnS I0 J → (∀ k, k < h + 1 → ¬ I0 105 k = -1 → ¬ J 131 k = -1) → u' < 32 → Con sc mX12_orders (18 + n) 0 0 [.ref 95, .int (nI (h + 1)), .int (nI u')] (XW J L tg) (gV (orF W J L tg NH n (h + 1) u'))) : ∀ k i : Nat, i + k = NH → ∀ (J : Is) (x : Int32), gnS I J → (∀ j, j < h → J 131 j = I 131 j) → J 95 68 = I 95 68 + nI (smN (fun o => if I 105 o = -1 ∨ u.testBit o = true then 0 else owN W (I 105) NH n (h + 1) (u ||| 2 ^ o) (va_up (I 131) h (I 105 o))) i) → x.toInt = i → RR sc mX12_orders (18 + (n + 1)) 0 0 (gV (fun J K t => K = L ∧ t = tg ∧ SB [95, 131, 132, 133, 134, 135, 136] I J ∧ (∀ j, j ≠ 65 → j ≠ 68 → J 95 j = I 95 j) ∧ (∀ j, j < h → J 131 j = I 131 j) ∧ J 95 68 = I 95 68 + nI (smN (fun o => if I 105 o = -1 ∨ u.testBit o = true then 0 else owN W (I 105) NH n (h + 1) (u ||| 2 ^ o) (va_up (I 131) h (I 105 o))) NH))) 0 0 50 [(3, .int x), (0, .ref 95), (1, .int (nI h)), (2, .int (nI u))] [] (XW J L tg) := by
  have h5 := g.1
  have gI := gn_go g hI
  have hHi : (I 95 10).toInt = NH := by rw [gI.2.1, nI_toInt (by omega)]
  have hhi : (nI h).toInt = h := nI_toInt (by omega)
  have hih := up_in (N := 5) hhi (by omega)
  have ch := cl_of hhi
  intro k
  induction k with
  | zero =>
    intro i hi J x hS h131 hw hx
    have jH : (J 95 10).toInt = NH := by rw [hS.2 10 (by decide) (by decide)]; exact hHi
    refine r_iload_n (j := 0) rfl rfl dX12_orders_50 ?_
    refine r_aload_n (j := 1) rfl rfl dX12_orders_51 ?_
    refine w_getI fX12_355 rfl dX12_orders_52 ?_
    refine r_icmp_ge (tgt := 108) dX12_orders_55 (by decide) (fun c55 => ?_) (fun c55 => ?_)
    · refine w_vretG rfl (Nat.le_of_ble_eq_true rfl) (Nat.le_of_ble_eq_true rfl) dX12_orders_108 ?_
      exact ⟨rfl, rfl, hS.1, hS.2, h131, by rw [hw, show i = NH by omega]⟩
    · exfalso; ((try simp only [bI_0, bI_1, lc_lt, lc_gt, lc_le, lc_ge, Classical.not_not] at *); (try simp only [i_lt, i_le, i_eq, l_lt, l_le, l_eq, Int32.toInt_toInt64, Int32.reduceToInt, Int64.reduceToInt] at *); omega)
  | succ k ih =>
    intro i hi J x hS h131 hw hx
    have jH : (J 95 10).toInt = NH := by rw [hS.2 10 (by decide) (by decide)]; exact hHi
    have cx := cl_of hx
    have hin := up_in (N := 5) hx (by omega)
    obtain rfl := x_nI hx
    have j105 : J 105 = I 105 := hS.1 105 (by decide)
    have ob := one_bit (s := u) (h := i) (by omega) (by omega)
    have es : smN (fun o => if I 105 o = -1 ∨ u.testBit o = true then 0 else owN W (I 105) NH n (h + 1) (u ||| 2 ^ o) (va_up (I 131) h (I 105 o))) (i + 1) = smN (fun o => if I 105 o = -1 ∨ u.testBit o = true then 0 else owN W (I 105) NH n (h + 1) (u ||| 2 ^ o) (va_up (I 131) h (I 105 o))) i + (if I 105 i = -1 ∨ u.testBit i = true then 0 else owN W (I 105) NH n (h + 1) (u ||| 2 ^ i) (va_up (I 131) h (I 105 i))) := rfl
    have e8 : nI u ||| ((1 : Int32) <<< (nI i &&& 31)) = nI (u ||| 2 ^ i) := s8_set u (by omega) i (by omega)
    have e1 : nI h + 1 = nI (h + 1) := nI_1 h
    refine r_iload_n (j := 0) rfl rfl dX12_orders_50 ?_
    refine r_aload_n (j := 1) rfl rfl dX12_orders_51 ?_
    refine w_getI fX12_355 rfl dX12_orders_52 ?_
    refine r_icmp_ge (tgt := 108) dX12_orders_55 (by decide) (fun c55 => ?_) (fun c55 => ?_)
    · exfalso; ((try simp only [bI_0, bI_1, lc_lt, lc_gt, lc_le, lc_ge, Classical.not_not] at *); (try simp only [i_lt, i_le, i_eq, l_lt, l_le, l_eq, Int32.toInt_toInt64, Int32.reduceToInt, Int64.reduceToInt] at *); omega)
    · refine r_aload_n (j := 1) rfl rfl dX12_orders_58 ?_
      refine r_iload_n (j := 0) rfl rfl dX12_orders_59 ?_
      refine w_cV1p (k_X12_isCounted hx (by omega)) (Nat.le_of_ble_eq_true rfl) lX12_461 vmX12_isCounted rfl (Nat.le_of_ble_eq_true rfl) (Nat.le_of_ble_eq_true rfl) (Nat.le_of_ble_eq_true rfl) dX12_orders_60 ?_
      refine r_if_eq (tgt := 102) dX12_orders_63 (by decide) (fun c63 => ?_) (fun c63 => ?_)
      · refine r_iinc (j := 0) (lv' := fun z => [(3, .int z), (0, .ref 95), (1, .int (nI h)), (2, .int (nI u))]) dX12_orders_102 rfl (Nat.le_of_ble_eq_true rfl) (fun _ => rfl) (fun x3_102 ex3_102 => ?_)
        refine r_goto (tgt := 50) dX12_orders_105 (by decide) ?_
        have c := bI_0.mp c63
        rw [j105] at c
        have c : I 105 i = -1 := Classical.not_not.mp c
        refine ih (i + 1) (by omega) _ _ hS h131 ?_ (by rw [ex3_102]; exact i_inc hx (by omega))
        rw [hw, es, if_pos (Or.inl c)]
        rfl
      · refine r_iload_n (j := 3) rfl rfl dX12_orders_66 ?_
        refine r_iload_n (j := 0) rfl rfl dX12_orders_67 ?_
        refine r_ishr dX12_orders_68 ?_
        refine r_iconst (v := 1) rfl dX12_orders_69 ?_
        refine r_iand dX12_orders_70 ?_
        refine r_iconst (v := 1) rfl dX12_orders_71 ?_
        refine r_icmp_ne (tgt := 78) dX12_orders_72 (by decide) (fun c72 => ?_) (fun c72 => ?_)
        · refine r_aload_n (j := 1) rfl rfl dX12_orders_78 ?_
          refine w_getR (b := 131) fX12_285 rfl rfl dX12_orders_79 ?_
          refine r_iload_n (j := 2) rfl rfl dX12_orders_82 ?_
          refine r_aload_n (j := 1) rfl rfl dX12_orders_83 ?_
          refine w_getR (b := 105) fX12_231 rfl rfl dX12_orders_84 ?_
          refine r_iload_n (j := 0) rfl rfl dX12_orders_87 ?_
          refine w_iald rfl (by first | assumption | (rw [vp_in_iff]; ((try simp only [bI_0, bI_1, lc_lt, lc_gt, lc_le, lc_ge, Classical.not_not] at *); (try simp only [i_lt, i_le, i_eq, l_lt, l_le, l_eq, Int32.toInt_toInt64, Int32.reduceToInt, Int64.reduceToInt] at *); omega))) dX12_orders_88 ?_
          refine w_iast rfl (by first | assumption | (rw [vp_in_iff]; ((try simp only [bI_0, bI_1, lc_lt, lc_gt, lc_le, lc_ge, Classical.not_not] at *); (try simp only [i_lt, i_le, i_eq, l_lt, l_le, l_eq, Int32.toInt_toInt64, Int32.reduceToInt, Int64.reduceToInt] at *); omega))) dX12_orders_89 (fun J89 hJ89 => ?_)
          have eJ : J89 = up J 131 h (I 105 i) := by rw [hJ89, ch, cx, j105]
          have hS2 : gnS I J89 := by
            rw [eJ]
            exact ⟨hS.1.up (by decide), fun j a b => by rw [up_n _ _ _ (by decide)]; exact hS.2 j a b⟩
          have hS0 : gnS I0 J89 := ⟨hI.1.tr hS2.1, fun j a b => by rw [hS2.2 j a b]; exact hI.2 j a b⟩
          have hA2 : ∀ k, k < h + 1 → ¬ I0 105 k = -1 → ¬ J89 131 k = -1 := by
            intro k hk hm
            rw [eJ, up_s, vu_eq]
            by_cases e : k = h
            · rw [if_pos e]; have c := bI_1.mp c63; rw [j105] at c; exact c
            · rw [if_neg e, h131 k (by omega)]; exact hA k (by omega) hm
          refine r_aload_n (j := 1) rfl rfl dX12_orders_90 ?_
          refine r_iload_n (j := 2) rfl rfl dX12_orders_91 ?_
          refine r_iconst (v := 1) rfl dX12_orders_92 ?_
          refine r_iadd dX12_orders_93 ?_
          refine r_iload_n (j := 3) rfl rfl dX12_orders_94 ?_
          refine r_iconst (v := 1) rfl dX12_orders_95 ?_
          refine r_iload_n (j := 0) rfl rfl dX12_orders_96 ?_
          refine r_ishl dX12_orders_97 ?_
          refine r_ior dX12_orders_98 ?_
          rw [e8, e1]
          refine w_cV2h (IH J89 (u ||| 2 ^ i) hS0 hA2 (or_lt5 u hu i (by omega))) (Nat.le_refl _) lX12_487 vmX12_orders rfl (Nat.le_of_ble_eq_true rfl) (Nat.le_of_ble_eq_true rfl) (Nat.le_of_ble_eq_true rfl) dX12_orders_99 (fun J99 K99 t99 h99 => ?_)
          obtain ⟨hK, ht, oS, o95, o131, o68⟩ := h99; subst hK ht
          refine r_iinc (j := 0) (lv' := fun z => [(3, .int z), (0, .ref 95), (1, .int (nI h)), (2, .int (nI u))]) dX12_orders_102 rfl (Nat.le_of_ble_eq_true rfl) (fun _ => rfl) (fun x3_102 ex3_102 => ?_)
          refine r_goto (tgt := 50) dX12_orders_105 (by decide) ?_
          have c := bI_1.mp c63
          rw [j105] at c
          have hb : ¬ u.testBit i = true := fun z => c72 (ob.mpr z)
          refine ih (i + 1) (by omega) _ _ ⟨hS2.1.tr oS, fun j a b => by rw [o95 j a b]; exact hS2.2 j a b⟩ (fun j hj => ?_) ?_ (by rw [ex3_102]; exact i_inc hx (by omega))
          · rw [o131 j (by omega), eJ, up_s, vu_n _ _ (by omega)]; exact h131 j hj
          · have j68 : J89 95 68 = J 95 68 := by rw [eJ, up_n _ _ _ (by decide)]
            have q105 : J89 105 = I 105 := hS2.1 105 (by decide)
            rw [o68, j68, hw, es, if_neg (by rintro (z | z); exact c z; exact hb z), q105, owN_cg n (h + 1) (u ||| 2 ^ i) (J89 131) (va_up (I 131) h (I 105 i)) (by omega) (fun k hk _ => by
              rw [eJ, up_s]
              by_cases e : k = h
              · subst e; rw [vu_s, vu_s]
              · rw [vu_n _ _ e, vu_n _ _ e]; exact h131 k (by omega)), ← nI_add, Int32.add_assoc]
        · refine r_goto (tgt := 102) dX12_orders_75 (by decide) ?_
          refine r_iinc (j := 0) (lv' := fun z => [(3, .int z), (0, .ref 95), (1, .int (nI h)), (2, .int (nI u))]) dX12_orders_102 rfl (Nat.le_of_ble_eq_true rfl) (fun _ => rfl) (fun x3_102 ex3_102 => ?_)
          refine r_goto (tgt := 50) dX12_orders_105 (by decide) ?_
          refine ih (i + 1) (by omega) _ _ hS h131 ?_ (by rw [ex3_102]; exact i_inc hx (by omega))
          rw [hw, es, if_pos (Or.inr (ob.mp c72))]
          rfl
theorem k_X12_orders {W : (Nat → Int32) → Bool} {I0 : Is} (g : gnOk I0 NH) (h10 : sdC I0 NH ≤ 10) (hW : wOk W I0 NH) : ∀ n h : Nat, h + n = NH → ∀ (I : Is) (u : Nat), gnS I0 I → (∀ k, k < h → ¬ I0 105 k = -1 → ¬ I 131 k = -1) → u < 32 → Con sc mX12_orders (18 + n) 0 0 [.ref 95, .int (nI h), .int (nI u)] (XW I L tg) (gV (orF W I L tg NH n h u)) := by
  have h5 := g.1
  intro n
  induction n with
  | zero =>
    intro h hh I u hI hA hu
    have e : h = NH := by omega
    subst e
    have gI := gn_go g hI
    obtain ⟨-, gH, gg, gc⟩ := id gI
    have sd : sdC I h = sdC I0 h := sd_SB (hI.1 105 (by decide)) (hI.1 130 (by decide)) h
    refine Con_of (by decide) (Nat.le_of_ble_eq_true rfl) ?_
    refine r_iload_n (j := 1) rfl rfl dX12_orders_0 ?_
    refine r_aload_n (j := 0) rfl rfl dX12_orders_1 ?_
    refine w_getI fX12_355 rfl dX12_orders_2 ?_
    refine r_icmp_ne (tgt := 31) dX12_orders_5 (by decide) (fun c5 => ?_) (fun c5 => ?_)
    · exact absurd gH.symm c5
    · refine r_aload_n (j := 0) rfl rfl dX12_orders_8 ?_
      refine r_dup rfl dX12_orders_9 ?_
      refine w_getI fX12_484 rfl dX12_orders_10 ?_
      refine r_aload_n (j := 0) rfl rfl dX12_orders_13 ?_
      refine w_cV0g (k_X12_fewest (NH := h) h5 gH (by rw [sd]; exact h10) (fun k hk => (gg k hk).1) gc) (Nat.le_of_ble_eq_true rfl) lX12_481 vmX12_fewest rfl (Nat.le_of_ble_eq_true rfl) (Nat.le_of_ble_eq_true rfl) (Nat.le_of_ble_eq_true rfl) dX12_orders_14 (fun v14 J14 K14 t14 h14 => ?_)
      obtain ⟨hK, ht, hS, h95, hv⟩ := h14; subst hK ht
      refine r_iconst (v := (-1)) rfl dX12_orders_17 ?_
      refine r_icmp_ne (tgt := 25) dX12_orders_18 (by decide) (fun c18 => ?_) (fun c18 => ?_)
      · refine r_iconst (v := 0) rfl dX12_orders_25 ?_
        refine r_iadd dX12_orders_26 ?_
        refine w_putI fX12_484 rfl (rfl) (rfl) dX12_orders_27 (fun J27 hJ27 => ?_)
        refine w_vretG rfl (Nat.le_of_ble_eq_true rfl) (Nat.le_of_ble_eq_true rfl) dX12_orders_30 ?_
        have hw := hW I v14 hI hA hv
        have q105 : I 105 = I0 105 := hI.1 105 (by decide)
        refine ⟨rfl, rfl, ?_, ?_, ?_, ?_⟩
        · rw [hJ27]; exact (hS.mono (by decide)).up (by decide)
        · intro j a b; rw [hJ27, up_s, vu_n _ _ b]; exact h95 j a
        · intro k hk; rw [hJ27, up_n _ _ _ (by decide), hS 131 (by decide)]
        · rw [hJ27, up_s, vu_s, owN, q105]
          have : W (miA (I0 105) h (I 131)) = false := by
            cases hq : W (miA (I0 105) h (I 131)) with
            | false => rfl
            | true => exact absurd (hw.mpr hq) c18
          rw [this]
          rfl
      · refine r_iconst (v := 1) rfl dX12_orders_21 ?_
        refine r_goto (tgt := 26) dX12_orders_22 (by decide) ?_
        refine r_iadd dX12_orders_26 ?_
        refine w_putI fX12_484 rfl (rfl) (rfl) dX12_orders_27 (fun J27 hJ27 => ?_)
        refine w_vretG rfl (Nat.le_of_ble_eq_true rfl) (Nat.le_of_ble_eq_true rfl) dX12_orders_30 ?_
        have hw := hW I v14 hI hA hv
        have q105 : I 105 = I0 105 := hI.1 105 (by decide)
        refine ⟨rfl, rfl, ?_, ?_, ?_, ?_⟩
        · rw [hJ27]; exact (hS.mono (by decide)).up (by decide)
        · intro j a b; rw [hJ27, up_s, vu_n _ _ b]; exact h95 j a
        · intro k hk; rw [hJ27, up_n _ _ _ (by decide), hS 131 (by decide)]
        · rw [hJ27, up_s, vu_s, owN, q105, hw.mp c18]
          rfl
  | succ n ih =>
    intro h hh I u hI hA hu
    have gI := gn_go g hI
    obtain ⟨-, gH, gg, gc⟩ := id gI
    have hhi : (nI h).toInt = h := nI_toInt (by omega)
    have e1 : nI h + 1 = nI (h + 1) := nI_1 h
    refine Con_of (by decide) (Nat.le_of_ble_eq_true rfl) ?_
    refine r_iload_n (j := 1) rfl rfl dX12_orders_0 ?_
    refine r_aload_n (j := 0) rfl rfl dX12_orders_1 ?_
    refine w_getI fX12_355 rfl dX12_orders_2 ?_
    refine r_icmp_ne (tgt := 31) dX12_orders_5 (by decide) (fun c5 => ?_) (fun c5 => ?_)
    · refine r_aload_n (j := 0) rfl rfl dX12_orders_31 ?_
      refine r_iload_n (j := 1) rfl rfl dX12_orders_32 ?_
      refine w_cV1p (k_X12_isCounted hhi (by omega)) (Nat.le_of_ble_eq_true rfl) lX12_461 vmX12_isCounted rfl (Nat.le_of_ble_eq_true rfl) (Nat.le_of_ble_eq_true rfl) (Nat.le_of_ble_eq_true rfl) dX12_orders_33 ?_
      refine r_if_ne (tgt := 48) dX12_orders_36 (by decide) (fun c36 => ?_) (fun c36 => ?_)
      · refine r_iconst (v := 0) rfl dX12_orders_48 ?_
        refine r_istore_n (lv' := fun z => [(3, .int z), (0, .ref 95), (1, .int (nI h)), (2, .int (nI u))]) dX12_orders_49 rfl (Nat.le_of_ble_eq_true rfl) (fun _ => rfl) (fun x3_49 ex3_49 => ?_)
        have c := bI_1.mp c36
        have := l_X12_or (sc := sc) (L := L) (tg := tg) (W := W) (I := I) (I0 := I0) (h := h) g hI hA hh hu (ih (h + 1) (by omega)) NH 0 (Nat.zero_add _) I x3_49 ⟨SB.rf, fun _ _ _ => rfl⟩ (fun _ _ => rfl) (by show _ = _ + nI 0; exact (Int32.add_zero _).symm) (by rw [ex3_49]; rfl)
        unfold orF
        rw [owN, if_neg c]
        exact this
      · refine r_aload_n (j := 0) rfl rfl dX12_orders_39 ?_
        refine r_iload_n (j := 1) rfl rfl dX12_orders_40 ?_
        refine r_iconst (v := 1) rfl dX12_orders_41 ?_
        refine r_iadd dX12_orders_42 ?_
        refine r_iload_n (j := 2) rfl rfl dX12_orders_43 ?_
        rw [e1]; have hA3 : ∀ k, k < h + 1 → ¬ I0 105 k = -1 → ¬ I 131 k = -1 := fun k hk hm => hA k (by by_cases e : k = h; rw [e, ← hI.1 105 (by decide)] at hm; exact absurd hm (bI_0.mp c36); omega) hm
        refine w_cV2h (ih (h + 1) (by omega) I u hI hA3 hu) (Nat.le_refl _) lX12_487 vmX12_orders rfl (Nat.le_of_ble_eq_true rfl) (Nat.le_of_ble_eq_true rfl) (Nat.le_of_ble_eq_true rfl) dX12_orders_44 (fun J44 K44 t44 h44 => ?_)
        obtain ⟨hK, ht, oS, o95, o131, o68⟩ := h44; subst hK ht
        refine w_vretG rfl (Nat.le_of_ble_eq_true rfl) (Nat.le_of_ble_eq_true rfl) dX12_orders_47 ?_
        have c := Classical.not_not.mp (bI_0.mp c36)
        refine ⟨rfl, rfl, oS, o95, fun k hk => o131 k (by omega), ?_⟩
        rw [o68, owN, if_pos c]
    · rw [gH, nI_ij (by omega) (by omega)] at c5; omega
def wrF (W : (Nat → Int32) → Bool) (I : Is) (L : Ls) (tg NH : Nat) : Int32 → Is → Ls → Nat → Prop := fun v J K t => K = L ∧ t = tg ∧ SB [95, 131, 132, 133, 134, 135, 136] I J ∧ (∀ j, j ≠ 65 → j ≠ 68 → J 95 j = I 95 j) ∧ ((10 < sdC I NH ∧ v = -3) ∨ (sdC I NH ≤ 10 ∧ v = nI (owN W (I 105) NH NH 0 0 (I 131))))
theorem k_X12_wrong {W : (Nat → Int32) → Bool} (g : gnOk I NH) (hW : sdC I NH ≤ 10 → wOk W I NH) : Con sc mX12_wrong 24 0 0 [.ref 95] (XW I L tg) (gI (wrF W I L tg NH)) := by
  obtain ⟨h5, hH, hg, hcap⟩ := id g
  have hHi : (I 95 10).toInt = NH := by rw [hH, nI_toInt (by omega)]
  have eN : nN (I 95 10) = NH := cl_of hHi
  have eag := ag_i hg h5
  have hle : sdC I NH ≤ 200 := by
    have key : ∀ n, n ≤ NH → sdC I n ≤ 40 * n := by
      intro n
      induction n with
      | zero => intro _; exact Nat.le_refl _
      | succ n ih =>
        intro hn
        have := ih (by omega)
        have hgn := hg n (by omega)
        have hN := nN_of hgn.1
        show sdC I n + tnI I n ≤ _
        unfold tnI
        split <;> omega
    have := key NH (Nat.le_refl _)
    omega
  refine Con_of (by decide) (Nat.le_of_ble_eq_true rfl) ?_
  refine r_aload_n (j := 0) rfl rfl dX12_wrong_0 ?_
  refine r_iconst (v := 1) rfl dX12_wrong_1 ?_
  refine w_cV1p (k_X12_allGone (by omega) (by omega)) (Nat.le_of_ble_eq_true rfl) lX12_477 vmX12_allGone rfl (Nat.le_of_ble_eq_true rfl) (Nat.le_of_ble_eq_true rfl) (Nat.le_of_ble_eq_true rfl) dX12_wrong_2 ?_
  refine r_bipush (v := 10) rfl dX12_wrong_5 ?_
  rw [eN, eag]
  refine r_icmp_le (tgt := 13) dX12_wrong_7 (by decide) (fun c7 => ?_) (fun c7 => ?_)
  · refine r_aload_n (j := 0) rfl rfl dX12_wrong_13 ?_
    refine r_iconst (v := 0) rfl dX12_wrong_14 ?_
    refine w_putI fX12_484 rfl (rfl) (rfl) dX12_wrong_15 (fun J15 hJ15 => ?_)
    refine r_aload_n (j := 0) rfl rfl dX12_wrong_18 ?_
    refine r_iconst (v := 0) rfl dX12_wrong_19 ?_
    refine r_iconst (v := 0) rfl dX12_wrong_20 ?_
    rw [i_le, nI_toInt (by omega)] at c7
    have c7 : (sdC I NH : Int) ≤ 10 := c7
    have hS : gnS I J15 := ⟨by rw [hJ15]; exact SB.rf.up (by decide), fun j a b => by rw [hJ15, up_s, vu_n _ _ b]⟩
    have ko := k_X12_orders (sc := sc) (L := L) (tg := tg) g (by omega) (hW (by omega)) NH 0 (Nat.zero_add _) J15 0 hS (fun k hk => absurd hk (Nat.not_lt_zero _)) (by decide)
    refine w_cV2h (ko) (by omega) lX12_487 vmX12_orders rfl (Nat.le_of_ble_eq_true rfl) (Nat.le_of_ble_eq_true rfl) (Nat.le_of_ble_eq_true rfl) dX12_wrong_21 (fun J21 K21 t21 h21 => ?_)
    obtain ⟨hK, ht, oS, o95, o131, o68⟩ := h21; subst hK ht
    refine r_aload_n (j := 0) rfl rfl dX12_wrong_24 ?_
    refine w_getI fX12_484 rfl dX12_wrong_25 ?_
    refine w_iretG rfl (rfl) (Nat.le_of_ble_eq_true rfl) (Nat.le_of_ble_eq_true rfl) dX12_wrong_28 ?_
    refine ⟨rfl, rfl, hS.1.tr oS, fun j a b => by rw [o95 j a b]; exact hS.2 j a b, Or.inr ⟨by omega, ?_⟩⟩
    rw [o68, hJ15, up_s, vu_s, up_n _ _ _ (by decide), up_n _ _ _ (by decide)]
    exact Int32.zero_add _
  · refine r_bipush (v := (-3)) rfl dX12_wrong_10 ?_
    refine w_iretG rfl (rfl) (Nat.le_of_ble_eq_true rfl) (Nat.le_of_ble_eq_true rfl) dX12_wrong_12 ?_
    rw [i_le, nI_toInt (by omega)] at c7; have c7 : ¬ (sdC I NH : Int) ≤ 10 := c7; exact ⟨rfl, rfl, SB.rf, fun _ _ _ => rfl, Or.inl ⟨by omega, rfl⟩⟩
end
