/-! the model: fewest -/
section
variable {sc : Sc} {I : Is} {L : Ls} {tg NH : Nat} {G : Gx}
theorem l_X12_ask : ∀ n i : Nat, i + n = 15 → ∀ (J : Is) (x : Int32), J = upr I 135 (fillr (I 135) i 0) → x.toInt = i → RR sc mX12_ask 0 0 0 (rV (XW (upr I 135 (fillr (I 135) 15 0)) L tg)) 0 0 2 [(1, .int x), (0, .ref 95)] [] (XW J L tg) := by
  intro n
  induction n with
  | zero =>
    intro i hi J x eJ hx
    refine r_iload_n (j := 0) rfl rfl dX12_ask_2 ?_
    refine r_bipush (v := 15) rfl dX12_ask_3 ?_
    refine r_icmp_ge (tgt := 21) dX12_ask_5 (by decide) (fun c5 => ?_) (fun c5 => ?_)
    · refine w_vret rfl (Nat.le_of_ble_eq_true rfl) (Nat.le_of_ble_eq_true rfl) dX12_ask_21 ?_
      exact ⟨by rw [eJ, show i = 15 by omega], rfl, rfl⟩
    · exfalso; ((try simp only [bI_0, bI_1, lc_lt, lc_gt, lc_le, lc_ge, Classical.not_not] at *); (try simp only [i_lt, i_le, i_eq, l_lt, l_le, l_eq, Int32.toInt_toInt64, Int32.reduceToInt, Int64.reduceToInt] at *); omega)
  | succ n ih =>
    intro i hi J x eJ hx
    have cx := cl_of hx
    refine r_iload_n (j := 0) rfl rfl dX12_ask_2 ?_
    refine r_bipush (v := 15) rfl dX12_ask_3 ?_
    refine r_icmp_ge (tgt := 21) dX12_ask_5 (by decide) (fun c5 => ?_) (fun c5 => ?_)
    · exfalso; ((try simp only [bI_0, bI_1, lc_lt, lc_gt, lc_le, lc_ge, Classical.not_not] at *); (try simp only [i_lt, i_le, i_eq, l_lt, l_le, l_eq, Int32.toInt_toInt64, Int32.reduceToInt, Int64.reduceToInt] at *); omega)
    · refine r_aload_n (j := 1) rfl rfl dX12_ask_8 ?_
      refine w_getR (b := 135) fX12_297 rfl rfl dX12_ask_9 ?_
      refine r_iload_n (j := 0) rfl rfl dX12_ask_12 ?_
      refine r_iconst (v := 0) rfl dX12_ask_13 ?_
      refine w_zast rfl (by first | assumption | (rw [vp_in_iff]; ((try simp only [bI_0, bI_1, lc_lt, lc_gt, lc_le, lc_ge, Classical.not_not] at *); (try simp only [i_lt, i_le, i_eq, l_lt, l_le, l_eq, Int32.toInt_toInt64, Int32.reduceToInt, Int64.reduceToInt] at *); omega))) dX12_ask_14 (fun J14 hJ14 => ?_)
      refine r_iinc (j := 0) (lv' := fun z => [(1, .int z), (0, .ref 95)]) dX12_ask_15 rfl (Nat.le_of_ble_eq_true rfl) (fun _ => rfl) (fun x1_15 ex1_15 => ?_)
      refine r_goto (tgt := 2) dX12_ask_18 (by decide) ?_
      refine ih (i + 1) (by omega) _ _ ?_ (by rw [ex1_15]; exact i_inc hx (by omega))
      rw [hJ14, cx, eJ, upr_up]
      congr 1
      funext j
      show va_up (fillr (I 135) i 0) i 0 j = fillr (I 135) (i + 1) 0 j
      rw [vu_eq]
      unfold fillr
      by_cases e : j = i
      · rw [if_pos e, if_pos (by omega)]
      · rw [if_neg e]
        by_cases e2 : j < i
        · rw [if_pos e2, if_pos (by omega)]
        · rw [if_neg e2, if_neg (by omega)]
theorem k_X12_ask : Con sc mX12_ask 0 0 0 [.ref 95] (XW I L tg) (rV (XW (upr I 135 (fillr (I 135) 15 0)) L tg)) := by
  refine Con_of (by decide) (Nat.le_of_ble_eq_true rfl) ?_
  refine r_iconst (v := 0) rfl dX12_ask_0 ?_
  refine r_istore_n (lv' := fun z => [(1, .int z), (0, .ref 95)]) dX12_ask_1 rfl (Nat.le_of_ble_eq_true rfl) (fun _ => rfl) (fun x1_1 ex1_1 => ?_)
  refine l_X12_ask 15 0 rfl _ _ ?_ (by rw [ex1_1]; rfl)
  have : fillr (I 135) 0 0 = I 135 := by funext j; simp [fillr]
  rw [this, upr_id]
/-- the stands -/
def tnI (I : Is) (h : Nat) : Nat := if I 105 h = -1 then 0 else nN (I 130 h)
def sdC (I : Is) : Nat → Nat
  | 0 => 0
  | i + 1 => sdC I i + tnI I i
def shF (I : Is) : Nat → Nat → Nat
  | 0, _ => 0
  | i + 1, p => if sdC I i ≤ p then i else shF I i p
def gxI (I : Is) (NH : Nat) : Gx := (sdC I NH, NH, shF I NH, fun h => decide (¬ I 105 h = -1), fun h o => decide (ltr (I 131) h o ∧ I 106 (5 * h + o) ≤ I 131 o - I 131 h), fun h => nN (I 104 h - I 130 h))
theorem sdC_mono (I : Is) : ∀ i j, i ≤ j → sdC I i ≤ sdC I j := by
  intro i j h
  induction j with
  | zero => rw [show i = 0 by omega]; exact Nat.le_refl _
  | succ j ih =>
    by_cases e : i = j + 1
    · rw [e]; exact Nat.le_refl _
    · exact Nat.le_trans (ih (by omega)) (Nat.le_add_right _ _)
theorem shF_lt (I : Is) : ∀ i p, p < sdC I i → shF I i p < i := by
  intro i
  induction i with
  | zero => intro p h; exact absurd h (Nat.not_lt_zero _)
  | succ i ih =>
    intro p h
    rw [shF]
    by_cases e : sdC I i ≤ p
    · rw [if_pos e]; omega
    · rw [if_neg e]; have := ih p (by omega); omega
/-- what the first loops leave -/
def feQ (I J : Is) (i m : Nat) : Prop := SB [95, 132, 133, 134, 136] I J ∧ (∀ j, j ≠ 65 → J 95 j = I 95 j) ∧ J 95 65 = nI m ∧ (∀ h, h < i → J 134 h = 0) ∧ ∀ q, q < m → J 133 q = -1 ∧ J 136 q = -1
theorem l_X12_fw2 {h : Nat} (h10 : sdC I NH ≤ 10) (hh : h < NH) (h5 : NH ≤ 5) (hg : 0 ≤ (I 130 h).toInt) {Q : Po}
    (K : ∀ (J : Is) (x2 : Int32), feQ I J (h + 1) (sdC I (h + 1)) → (∀ q, q < sdC I (h + 1) → J 132 q = nI (shF I (h + 1) q)) → RR sc mX12_fewest 17 0 0 Q 0 0 88 [(2, .int x2), (1, .int (nI h)), (0, .ref 95)] [] (XW J L tg)) : ∀ n k : Nat, k + n = tnI I h → ∀ (J : Is) (x : Int32), feQ I J (h + 1) (sdC I h + k) → (∀ q, q < sdC I h + k → J 132 q = nI (shF I (h + 1) q)) → x.toInt = k → RR sc mX12_fewest 17 0 0 Q 0 0 24 [(2, .int x), (1, .int (nI h)), (0, .ref 95)] [] (XW J L tg) := by
  have hhi : (nI h).toInt = h := nI_toInt (by omega)
  have hih := up_in (N := 5) hhi (by omega)
  have ch := cl_of hhi
  have hle : sdC I h + tnI I h ≤ 10 := Nat.le_trans (sdC_mono I (h + 1) NH hh) h10
  intro n
  induction n with
  | zero =>
    intro k hk J x hQ h132 hx
    obtain ⟨q1, q2, q3, q4, q5⟩ := id hQ
    have j130 : J 130 = I 130 := q1 130 (by decide)
    have j105 : J 105 = I 105 := q1 105 (by decide)
    have ek : sdC I h + k = sdC I (h + 1) := by show _ = sdC I h + tnI I h; omega
    rw [ek] at hQ h132
    refine r_iload_n (j := 0) rfl rfl dX12_fewest_24 ?_
    refine r_aload_n (j := 2) rfl rfl dX12_fewest_25 ?_
    refine w_getR (b := 130) fX12_282 rfl rfl dX12_fewest_26 ?_
    refine r_iload_n (j := 1) rfl rfl dX12_fewest_29 ?_
    refine w_iald rfl (by first | assumption | (rw [vp_in_iff]; ((try simp only [bI_0, bI_1, lc_lt, lc_gt, lc_le, lc_ge, Classical.not_not] at *); (try simp only [i_lt, i_le, i_eq, l_lt, l_le, l_eq, Int32.toInt_toInt64, Int32.reduceToInt, Int64.reduceToInt] at *); omega))) dX12_fewest_30 ?_
    refine r_icmp_ge (tgt := 88) dX12_fewest_31 (by decide) (fun c31 => ?_) (fun c31 => ?_)
    · exact K _ _ hQ h132
    · refine r_aload_n (j := 2) rfl rfl dX12_fewest_34 ?_
      refine r_iload_n (j := 1) rfl rfl dX12_fewest_35 ?_
      refine w_cV1p (k_X12_isCounted hhi (by omega)) (Nat.le_of_ble_eq_true rfl) lX12_461 vmX12_isCounted rfl (Nat.le_of_ble_eq_true rfl) (Nat.le_of_ble_eq_true rfl) (Nat.le_of_ble_eq_true rfl) dX12_fewest_36 ?_
      refine r_if_eq (tgt := 88) dX12_fewest_39 (by decide) (fun c39 => ?_) (fun c39 => ?_)
      · exact K _ _ hQ h132
      · exfalso
        have c39 := bI_1.mp c39
        rw [j105] at c39
        rw [ch, j130, i_le] at c31
        have : tnI I h = nN (I 130 h) := if_neg c39
        have := nN_of hg
        omega
  | succ n ih =>
    intro k hk J x hQ h132 hx
    obtain ⟨q1, q2, q3, q4, q5⟩ := id hQ
    have j130 : J 130 = I 130 := q1 130 (by decide)
    have j105 : J 105 = I 105 := q1 105 (by decide)
    have hct : ¬ I 105 h = -1 := fun z => by
      have : tnI I h = 0 := if_pos z
      omega
    have htn : tnI I h = nN (I 130 h) := if_neg hct
    have hng := nN_of hg
    have hm : sdC I h + k < 10 := by omega
    have cm : (nI (sdC I h + k)).toNatClampNeg = sdC I h + k := nI_clamp (by omega)
    have vin : vp_in (nI (sdC I h + k)) 10 := vp_in_nI hm (by omega)
    refine r_iload_n (j := 0) rfl rfl dX12_fewest_24 ?_
    refine r_aload_n (j := 2) rfl rfl dX12_fewest_25 ?_
    refine w_getR (b := 130) fX12_282 rfl rfl dX12_fewest_26 ?_
    refine r_iload_n (j := 1) rfl rfl dX12_fewest_29 ?_
    refine w_iald rfl (by first | assumption | (rw [vp_in_iff]; ((try simp only [bI_0, bI_1, lc_lt, lc_gt, lc_le, lc_ge, Classical.not_not] at *); (try simp only [i_lt, i_le, i_eq, l_lt, l_le, l_eq, Int32.toInt_toInt64, Int32.reduceToInt, Int64.reduceToInt] at *); omega))) dX12_fewest_30 ?_
    refine r_icmp_ge (tgt := 88) dX12_fewest_31 (by decide) (fun c31 => ?_) (fun c31 => ?_)
    · exfalso; rw [ch, j130, i_le] at c31; omega
    · refine r_aload_n (j := 2) rfl rfl dX12_fewest_34 ?_
      refine r_iload_n (j := 1) rfl rfl dX12_fewest_35 ?_
      refine w_cV1p (k_X12_isCounted hhi (by omega)) (Nat.le_of_ble_eq_true rfl) lX12_461 vmX12_isCounted rfl (Nat.le_of_ble_eq_true rfl) (Nat.le_of_ble_eq_true rfl) (Nat.le_of_ble_eq_true rfl) dX12_fewest_36 ?_
      refine r_if_eq (tgt := 88) dX12_fewest_39 (by decide) (fun c39 => ?_) (fun c39 => ?_)
      · have := bI_0.mp c39; rw [j105] at this; exact absurd hct this
      · refine r_aload_n (j := 2) rfl rfl dX12_fewest_42 ?_
        refine w_getR (b := 132) fX12_288 rfl rfl dX12_fewest_43 ?_
        refine r_aload_n (j := 2) rfl rfl dX12_fewest_46 ?_
        refine w_getI fX12_464 rfl dX12_fewest_47 ?_
        refine r_iload_n (j := 1) rfl rfl dX12_fewest_50 ?_
        refine w_iast rfl (by rw [q3]; exact vin) dX12_fewest_51 (fun J51 hJ51 => ?_)
        rw [q3, cm] at hJ51; have f1 : J51 95 = J 95 := by { rw [hJ51, up_n _ _ _ (by decide)] }
        refine r_aload_n (j := 2) rfl rfl dX12_fewest_52 ?_
        refine w_getR (b := 133) fX12_291 rfl rfl dX12_fewest_53 ?_
        refine r_aload_n (j := 2) rfl rfl dX12_fewest_56 ?_
        refine w_getI fX12_464 rfl dX12_fewest_57 ?_
        refine r_iconst (v := (-1)) rfl dX12_fewest_60 ?_
        refine w_iast rfl (by rw [f1, q3]; exact vin) dX12_fewest_61 (fun J61 hJ61 => ?_)
        rw [f1, q3, cm] at hJ61; have f2 : J61 95 = J 95 := by { rw [hJ61, up_n _ _ _ (by decide), f1] }
        refine r_aload_n (j := 2) rfl rfl dX12_fewest_62 ?_
        refine w_getR (b := 136) fX12_300 rfl rfl dX12_fewest_63 ?_
        refine r_aload_n (j := 2) rfl rfl dX12_fewest_66 ?_
        refine w_getI fX12_464 rfl dX12_fewest_67 ?_
        refine r_iconst (v := (-1)) rfl dX12_fewest_70 ?_
        refine w_iast rfl (by rw [f2, q3]; exact vin) dX12_fewest_71 (fun J71 hJ71 => ?_)
        rw [f2, q3, cm] at hJ71; have f3 : J71 95 = J 95 := by { rw [hJ71, up_n _ _ _ (by decide), f2] }
        refine r_aload_n (j := 2) rfl rfl dX12_fewest_72 ?_
        refine r_dup rfl dX12_fewest_73 ?_
        refine w_getI fX12_464 rfl dX12_fewest_74 ?_
        refine r_iconst (v := 1) rfl dX12_fewest_77 ?_
        refine r_iadd dX12_fewest_78 ?_
        refine w_putI fX12_464 rfl (rfl) (rfl) dX12_fewest_79 (fun J79 hJ79 => ?_)
        refine r_iinc (j := 0) (lv' := fun z => [(2, .int z), (1, .int (nI h)), (0, .ref 95)]) dX12_fewest_82 rfl (Nat.le_of_ble_eq_true rfl) (fun _ => rfl) (fun x2_82 ex2_82 => ?_)
        refine r_goto (tgt := 24) dX12_fewest_85 (by decide) ?_
        rw [f3, q3, nI_1] at hJ79
        have g95 : J79 95 = va_up (J 95) 65 (nI (sdC I h + k + 1)) := by rw [hJ79, up_s, f3]
        have g132 : J79 132 = va_up (J 132) (sdC I h + k) (nI h) := by rw [hJ79, up_n _ _ _ (by decide), hJ71, up_n _ _ _ (by decide), hJ61, up_n _ _ _ (by decide), hJ51, up_s]
        have g133 : J79 133 = va_up (J 133) (sdC I h + k) (-1) := by rw [hJ79, up_n _ _ _ (by decide), hJ71, up_n _ _ _ (by decide), hJ61, up_s, hJ51, up_n _ _ _ (by decide)]
        have g136 : J79 136 = va_up (J 136) (sdC I h + k) (-1) := by rw [hJ79, up_n _ _ _ (by decide), hJ71, up_s, hJ61, up_n _ _ _ (by decide), hJ51, up_n _ _ _ (by decide)]
        have g134 : J79 134 = J 134 := by rw [hJ79, up_n _ _ _ (by decide), hJ71, up_n _ _ _ (by decide), hJ61, up_n _ _ _ (by decide), hJ51, up_n _ _ _ (by decide)]
        refine ih (k + 1) (by omega) _ _ ⟨?_, ?_, ?_, ?_, ?_⟩ ?_ (by rw [ex2_82]; exact i_inc hx (by omega))
        · rw [hJ79, hJ71, hJ61, hJ51]; exact (((q1.up (by decide)).up (by decide)).up (by decide)).up (by decide)
        · intro j hj; rw [g95, vu_n _ _ hj]; exact q2 j hj
        · rw [g95, vu_s]; rfl
        · intro h' hh'; rw [g134]; exact q4 h' hh'
        · intro q hq
          rw [g133, g136, vu_eq, vu_eq]
          by_cases e : q = sdC I h + k
          · rw [if_pos e, if_pos e]; exact ⟨rfl, rfl⟩
          · rw [if_neg e, if_neg e]; exact q5 q (by omega)
        · intro q hq
          rw [g132, vu_eq]
          by_cases e : q = sdC I h + k
          · rw [if_pos e, shF, if_pos (by omega)]
          · rw [if_neg e]; exact h132 q (by omega)
/-- what fewest says -/
def feV (G : Gx) (v : Int32) : Prop := (v = -1 ∧ ∃ (M : Mx) (Z : Nat → Prop) (i : Nat), Vl G M 99 ∧ clZ G true M Z ∧ i < gS G ∧ Z i ∧ M.2.1 i = -1) ∨ ∃ (M1 : Mx) (Z : Nat → Prop) (M : Mx), (Vl G M1 99 ∧ (∀ q, q < gS G → M1.2.1 q = -1 ∨ ∃ s, s < gS G ∧ M1.2.1 q = srcv s) ∧ clZ G false M1 Z ∧ ∀ q, q < gS G → M1.2.1 q = -1 → Z q) ∧ Vl G M 99 ∧ (∀ q, q < gS G → ¬ M.2.1 q = -1) ∧ (∀ s, s < gS G → ¬ M1.1 s = -1 → ¬ M.1 s = -1) ∧ v = sm M.2.2 (gH G)
def fwF (G : Gx) (I : Is) (L : Ls) (tg : Nat) : Int32 → Is → Ls → Nat → Prop := fun v J K t => K = L ∧ t = tg ∧ SB [95, 132, 133, 134, 135, 136] I J ∧ (∀ j, j ≠ 65 → J 95 j = I 95 j) ∧ feV G v
def feR (G : Gx) (I J : Is) : Prop := SB [95, 132, 133, 134, 135, 136] I J ∧ (∀ j, j ≠ 65 → J 95 j = I 95 j) ∧ gOk G J ∧ Vl G (mof J) 99
theorem feR_go {J J' : Is} (h : feR G I J) (hS : SB [133, 134, 135, 136] J J') (hV : Vl G (mof J') 99) : feR G I J' := by
  obtain ⟨h1, h2, h3, -⟩ := h
  refine ⟨h1.tr (hS.mono (by decide)), fun j hj => ?_, gOk_SB h3 hS, hV⟩
  rw [hS 95 (by decide)]
  exact h2 j hj
theorem un15 (I : Is) : uns I < 16 := Nat.lt_succ_of_le (cwt_le _ _)
theorem ask0 {J : Is} {x : Nat} (h : x < 15) : ¬ aske (upr J 135 (fillr (J 135) 15 0)) x := by
  intro z
  apply z
  rw [upr_s]
  unfold fillr
  rw [if_pos h]
theorem askS {J : Is} : SB [135] J (upr J 135 (fillr (J 135) 15 0)) := SB.rf.upr (by decide)
/-- after a failure, what has been asked is closed -/
theorem fail_Z {b : Bool} {p : Nat} {J J2 : Is} (h10 : gS G ≤ 10) (h5 : gH G ≤ 5) (hu : ∀ x, x < 15 → ¬ aske J x) (hN : gtN G b p J J2) {Z : Nat → Prop} (hZ : clZ G b (mof J) Z) : clZ G b (mof J) (fun q => Z q ∨ q = p ∨ ∃ x, isS G b x ∧ J 133 q = srcv x ∧ aske J2 x) := by
  obtain ⟨-, n2, n3⟩ := hN
  have key : ∀ y, isS G b y → aske J2 y → sat G (mof J) y ∧ ∀ q, q < gS G → (mof J).2.1 q = srcv y → (Z q ∨ q = p ∨ ∃ x, isS G b x ∧ J 133 q = srcv x ∧ aske J2 x) := by
    intro y hy ha
    obtain ⟨a1, a2⟩ := n3 y (isS_lt h10 h5 hy) (hu y (isS_lt h10 h5 hy)) ha
    exact ⟨a1, fun q hq hqy => Or.inr (Or.inr ⟨y, hy, hqy, ha⟩)⟩
  intro z hz hzz y hy
  rcases hzz with h | h | ⟨x, h1, h2, h3⟩
  · obtain ⟨a1, a2⟩ := hZ z hz h y hy
    exact ⟨a1, fun q hq hqy => Or.inl (a2 q hq hqy)⟩
  · subst h
    exact key y hy.1 (n2 y hy)
  · obtain ⟨a1, a2⟩ := n3 x (isS_lt h10 h5 h1) (hu x (isS_lt h10 h5 h1)) h3
    exact key y hy.1 (a2 z hz h2 y hy)
theorem l_X12_fw5 {J0 : Is} (h5 : NH ≤ 5) (hR : feR G I J0) (hV : feV G (sm (J0 134) NH)) (hN : gH G = NH) : ∀ n i : Nat, i + n = NH → ∀ a x : Int32, a = sm (J0 134) i → x.toInt = i → RR sc mX12_fewest 17 0 0 (gI (fwF G I L tg)) 0 0 169 [(2, .int x), (1, .int a), (0, .ref 95)] [] (XW J0 L tg) := by
  have jH : (J0 95 10).toInt = NH := by rw [hR.2.2.1.2.2.1, hN, nI_toInt (by omega)]
  intro n
  induction n with
  | zero =>
    intro i hi a x ea hx
    refine r_iload_n (j := 0) rfl rfl dX12_fewest_169 ?_
    refine r_aload_n (j := 2) rfl rfl dX12_fewest_170 ?_
    refine w_getI fX12_355 rfl dX12_fewest_171 ?_
    refine r_icmp_ge (tgt := 192) dX12_fewest_174 (by decide) (fun c174 => ?_) (fun c174 => ?_)
    · refine r_iload_n (j := 1) rfl rfl dX12_fewest_192 ?_
      refine w_iretG rfl (rfl) (Nat.le_of_ble_eq_true rfl) (Nat.le_of_ble_eq_true rfl) dX12_fewest_193 ?_
      exact ⟨rfl, rfl, hR.1, hR.2.1, by rw [ea, show i = NH by omega]; exact hV⟩
    · exfalso; ((try simp only [bI_0, bI_1, lc_lt, lc_gt, lc_le, lc_ge, Classical.not_not] at *); (try simp only [i_lt, i_le, i_eq, l_lt, l_le, l_eq, Int32.toInt_toInt64, Int32.reduceToInt, Int64.reduceToInt] at *); omega)
  | succ n ih =>
    intro i hi a x ea hx
    refine r_iload_n (j := 0) rfl rfl dX12_fewest_169 ?_
    refine r_aload_n (j := 2) rfl rfl dX12_fewest_170 ?_
    refine w_getI fX12_355 rfl dX12_fewest_171 ?_
    refine r_icmp_ge (tgt := 192) dX12_fewest_174 (by decide) (fun c174 => ?_) (fun c174 => ?_)
    · exfalso; ((try simp only [bI_0, bI_1, lc_lt, lc_gt, lc_le, lc_ge, Classical.not_not] at *); (try simp only [i_lt, i_le, i_eq, l_lt, l_le, l_eq, Int32.toInt_toInt64, Int32.reduceToInt, Int64.reduceToInt] at *); omega)
    · refine r_iload_n (j := 1) rfl rfl dX12_fewest_177 ?_
      refine r_aload_n (j := 2) rfl rfl dX12_fewest_178 ?_
      refine w_getR (b := 134) fX12_294 rfl rfl dX12_fewest_179 ?_
      refine r_iload_n (j := 0) rfl rfl dX12_fewest_182 ?_
      refine w_iald rfl (by first | assumption | (rw [vp_in_iff]; ((try simp only [bI_0, bI_1, lc_lt, lc_gt, lc_le, lc_ge, Classical.not_not] at *); (try simp only [i_lt, i_le, i_eq, l_lt, l_le, l_eq, Int32.toInt_toInt64, Int32.reduceToInt, Int64.reduceToInt] at *); omega))) dX12_fewest_183 ?_
      refine r_iadd dX12_fewest_184 ?_
      refine r_istore_n (lv' := fun z => [(1, .int z), (2, .int x), (0, .ref 95)]) dX12_fewest_185 rfl (Nat.le_of_ble_eq_true rfl) (fun _ => rfl) (fun x1_185 ex1_185 => ?_)
      refine r_iinc (j := 1) (lv' := fun z => [(2, .int z), (1, .int x1_185), (0, .ref 95)]) dX12_fewest_186 rfl (Nat.le_of_ble_eq_true rfl) (fun _ => rfl) (fun x2_186 ex2_186 => ?_)
      refine r_goto (tgt := 169) dX12_fewest_189 (by decide) ?_
      exact ih (i + 1) (by omega) _ _ (by rw [ex1_185, ea, cl_of hx]; rfl) (by rw [ex2_186]; exact i_inc hx (by omega))
theorem l_X12_fw4 {M1 : Mx} {Z : Nat → Prop} (h5 : NH ≤ 5) (hN : gH G = NH) (hM : Vl G M1 99 ∧ (∀ q, q < gS G → M1.2.1 q = -1 ∨ ∃ s, s < gS G ∧ M1.2.1 q = srcv s) ∧ clZ G false M1 Z ∧ ∀ q, q < gS G → M1.2.1 q = -1 → Z q) : ∀ n i : Nat, i + n = gS G → ∀ (J : Is) (x : Int32), feR G I J → (∀ q, q < i → ¬ J 133 q = -1) → (∀ s, s < gS G → ¬ M1.1 s = -1 → ¬ J 136 s = -1) → x.toInt = i → RR sc mX12_fewest 17 0 0 (gI (fwF G I L tg)) 0 0 123 [(1, .int x), (0, .ref 95)] [] (XW J L tg) := by
  intro n
  induction n with
  | zero =>
    intro i hi J x hR hq hs hx
    have h10 := hR.2.2.1.2.1
    have jS : (J 95 65).toInt = gS G := by rw [hR.2.2.1.1, nI_toInt (by omega)]
    refine r_iload_n (j := 0) rfl rfl dX12_fewest_123 ?_
    refine r_aload_n (j := 1) rfl rfl dX12_fewest_124 ?_
    refine w_getI fX12_464 rfl dX12_fewest_125 ?_
    refine r_icmp_ge (tgt := 165) dX12_fewest_128 (by decide) (fun c128 => ?_) (fun c128 => ?_)
    · refine r_iconst (v := 0) rfl dX12_fewest_165 ?_
      refine r_istore_n (lv' := fun z => [(1, .int z), (0, .ref 95)]) dX12_fewest_166 rfl (Nat.le_of_ble_eq_true rfl) (fun _ => rfl) (fun x1_166 ex1_166 => ?_)
      refine r_iconst (v := 0) rfl dX12_fewest_167 ?_
      refine r_istore_n (lv' := fun z => [(2, .int z), (1, .int x1_166), (0, .ref 95)]) dX12_fewest_168 rfl (Nat.le_of_ble_eq_true rfl) (fun _ => rfl) (fun x2_168 ex2_168 => ?_)
      refine l_X12_fw5 h5 hR (Or.inr ⟨M1, Z, mof J, hM, hR.2.2.2, fun q hq2 => hq q (by omega), hs, ?_⟩) hN NH 0 (Nat.zero_add _) _ _ (by rw [ex1_166]; rfl) (by rw [ex2_168]; rfl)
      rw [hN]
      rfl
    · exfalso; ((try simp only [bI_0, bI_1, lc_lt, lc_gt, lc_le, lc_ge, Classical.not_not] at *); (try simp only [i_lt, i_le, i_eq, l_lt, l_le, l_eq, Int32.toInt_toInt64, Int32.reduceToInt, Int64.reduceToInt] at *); omega)
  | succ n ih =>
    intro i hi J x hR hq hs hx
    have h10 := hR.2.2.1.2.1
    have h5G : gH G ≤ 5 := by omega
    have jS : (J 95 65).toInt = gS G := by rw [hR.2.2.1.1, nI_toInt (by omega)]
    have cx := cl_of hx
    have hin := up_in (N := 10) hx (by omega)
    obtain rfl := x_nI hx
    refine r_iload_n (j := 0) rfl rfl dX12_fewest_123 ?_
    refine r_aload_n (j := 1) rfl rfl dX12_fewest_124 ?_
    refine w_getI fX12_464 rfl dX12_fewest_125 ?_
    refine r_icmp_ge (tgt := 165) dX12_fewest_128 (by decide) (fun c128 => ?_) (fun c128 => ?_)
    · exfalso; ((try simp only [bI_0, bI_1, lc_lt, lc_gt, lc_le, lc_ge, Classical.not_not] at *); (try simp only [i_lt, i_le, i_eq, l_lt, l_le, l_eq, Int32.toInt_toInt64, Int32.reduceToInt, Int64.reduceToInt] at *); omega)
    · refine r_aload_n (j := 1) rfl rfl dX12_fewest_131 ?_
      refine w_getR (b := 133) fX12_291 rfl rfl dX12_fewest_132 ?_
      refine r_iload_n (j := 0) rfl rfl dX12_fewest_135 ?_
      refine w_iald rfl (by first | assumption | (rw [vp_in_iff]; ((try simp only [bI_0, bI_1, lc_lt, lc_gt, lc_le, lc_ge, Classical.not_not] at *); (try simp only [i_lt, i_le, i_eq, l_lt, l_le, l_eq, Int32.toInt_toInt64, Int32.reduceToInt, Int64.reduceToInt] at *); omega))) dX12_fewest_136 ?_
      refine r_iconst (v := (-1)) rfl dX12_fewest_137 ?_
      refine r_icmp_eq (tgt := 144) dX12_fewest_138 (by decide) (fun c138 => ?_) (fun c138 => ?_)
      · refine r_aload_n (j := 1) rfl rfl dX12_fewest_144 ?_
        refine w_cV0v (k_X12_ask) (Nat.le_of_ble_eq_true rfl) lX12_474 vmX12_ask rfl (Nat.le_of_ble_eq_true rfl) (Nat.le_of_ble_eq_true rfl) (Nat.le_of_ble_eq_true rfl) dX12_fewest_145 (fun J145 K145 hJ145 hK145 => ?_)
        subst hK145
        refine r_aload_n (j := 1) rfl rfl dX12_fewest_148 ?_
        refine r_iload_n (j := 0) rfl rfl dX12_fewest_149 ?_
        refine r_iconst (v := 1) rfl dX12_fewest_150 ?_
        rw [cx] at c138
        have sA : SB [135] J J145 := by rw [hJ145]; exact askS
        have u0 : ∀ x, x < 15 → ¬ aske J145 x := fun x hx => by rw [hJ145]; exact ask0 hx
        have mA := mof_135 sA
        have k151 := k_X12_giveTo (sc := sc) (L := K145) (tg := tg) (G := G) (b := true) 16 J145 i (gOk_SB hR.2.2.1 (sA.mono (by decide))) (by rw [mA]; exact hR.2.2.2) (by omega) ⟨99, Or.inl ⟨rfl, by rw [mA]; exact c138⟩, Or.inl rfl⟩ (un15 _)
        refine w_cV2g (k151) (Nat.le_of_ble_eq_true rfl) lX12_470 vmX12_giveTo rfl (Nat.le_of_ble_eq_true rfl) (Nat.le_of_ble_eq_true rfl) (Nat.le_of_ble_eq_true rfl) dX12_fewest_151 (fun v151 J151 K151 t151 h151 => ?_)
        obtain ⟨hK, ht, hS2, hm2, hcase⟩ := h151; subst hK ht
        refine r_if_ne (tgt := 159) dX12_fewest_154 (by decide) (fun c154 => ?_) (fun c154 => ?_)
        · refine r_iinc (j := 0) (lv' := fun z => [(1, .int z), (0, .ref 95)]) dX12_fewest_159 rfl (Nat.le_of_ble_eq_true rfl) (fun _ => rfl) (fun x1_159 ex1_159 => ?_)
          refine r_goto (tgt := 123) dX12_fewest_162 (by decide) ?_
          rcases hcase with ⟨hv1, o, so, sV, s2, s3, s5, s6, s7, sZ⟩ | ⟨hv1, -⟩
          · have e99 : o = 99 := by
              rcases so with z | ⟨z1, z2⟩
              · exact z.1
              · rw [mA] at z2
                have z2 : J 133 i = srcv o := z2
                rw [c138] at z2
                exact absurd z2.symm (srcv_nn z1)
            subst e99
            have r133 : J145 133 = J 133 := sA 133 (by decide)
            have r136 : J145 136 = J 136 := sA 136 (by decide)
            have R2 := feR_go hR (sA.mono (by decide)) (by rw [mA]; exact hR.2.2.2)
            refine ih (i + 1) (by omega) _ _ (feR_go R2 hS2 sV) (fun q hq2 => ?_) (fun s hs2 hs3 => s5 s hs2 (by rw [r136]; exact hs s hs2 hs3)) (by rw [ex1_159]; exact i_inc hx (by omega))
            by_cases e : q = i
            · rw [e]; exact s2
            · exact s6 q (by omega) (by rw [r133]; exact hq q (by omega))
          · rw [hv1] at c154; exact absurd rfl c154
        · refine r_iconst (v := (-1)) rfl dX12_fewest_157 ?_
          refine w_iretG rfl (rfl) (Nat.le_of_ble_eq_true rfl) (Nat.le_of_ble_eq_true rfl) dX12_fewest_158 ?_
          rcases hcase with ⟨hv1, -⟩ | ⟨hv1, hfa⟩
          · rw [hv1] at c154; exact absurd c154 (by decide)
          · have R2 := feR_go hR (sA.mono (by decide)) (by rw [mA]; exact hR.2.2.2)
            have R3 := feR_go R2 hS2 (by rw [mof_135 hfa.1, mA]; exact hR.2.2.2)
            refine ⟨rfl, rfl, R3.1, R3.2.1, Or.inl ⟨rfl, mof J145, _, i, R2.2.2.2, fail_Z h10 h5G u0 hfa (Z := fun _ => False) (fun z _ hz => hz.elim), by omega, Or.inr (Or.inl rfl), by rw [mA]; exact c138⟩⟩
      · refine r_goto (tgt := 159) dX12_fewest_141 (by decide) ?_
        refine r_iinc (j := 0) (lv' := fun z => [(1, .int z), (0, .ref 95)]) dX12_fewest_159 rfl (Nat.le_of_ble_eq_true rfl) (fun _ => rfl) (fun x1_159 ex1_159 => ?_)
        refine r_goto (tgt := 123) dX12_fewest_162 (by decide) ?_
        rw [cx] at c138
        refine ih (i + 1) (by omega) _ _ hR (fun q hq2 => ?_) hs (by rw [ex1_159]; exact i_inc hx (by omega))
        by_cases e : q = i
        · rw [e]; exact c138
        · exact hq q (by omega)
theorem l_X12_fw3 (h5 : NH ≤ 5) (hN : gH G = NH) : ∀ n i : Nat, i + n = gS G → ∀ (J : Is) (x : Int32), feR G I J → (∀ q, i ≤ q → q < gS G → J 133 q = -1) → (∀ q, q < gS G → J 133 q = -1 ∨ ∃ s, s < gS G ∧ J 133 q = srcv s) → (∃ Z, clZ G false (mof J) Z ∧ ∀ q, q < i → J 133 q = -1 → Z q) → x.toInt = i → RR sc mX12_fewest 17 0 0 (gI (fwF G I L tg)) 0 0 96 [(1, .int x), (0, .ref 95)] [] (XW J L tg) := by
  intro n
  induction n with
  | zero =>
    intro i hi J x hR hq hst hZ hx
    have h10 := hR.2.2.1.2.1
    have jS : (J 95 65).toInt = gS G := by rw [hR.2.2.1.1, nI_toInt (by omega)]
    obtain ⟨Z, hZ1, hZ2⟩ := hZ
    refine r_iload_n (j := 0) rfl rfl dX12_fewest_96 ?_
    refine r_aload_n (j := 1) rfl rfl dX12_fewest_97 ?_
    refine w_getI fX12_464 rfl dX12_fewest_98 ?_
    refine r_icmp_ge (tgt := 121) dX12_fewest_101 (by decide) (fun c101 => ?_) (fun c101 => ?_)
    · refine r_iconst (v := 0) rfl dX12_fewest_121 ?_
      refine r_istore_n (lv' := fun z => [(1, .int z), (0, .ref 95)]) dX12_fewest_122 rfl (Nat.le_of_ble_eq_true rfl) (fun _ => rfl) (fun x1_122 ex1_122 => ?_)
      exact l_X12_fw4 h5 hN ⟨hR.2.2.2, hst, hZ1, fun q hq2 => hZ2 q (by omega)⟩ (gS G) 0 (Nat.zero_add _) J _ hR (fun q hq2 => absurd hq2 (Nat.not_lt_zero _)) (fun s _ z => z) (by rw [ex1_122]; rfl)
    · exfalso; ((try simp only [bI_0, bI_1, lc_lt, lc_gt, lc_le, lc_ge, Classical.not_not] at *); (try simp only [i_lt, i_le, i_eq, l_lt, l_le, l_eq, Int32.toInt_toInt64, Int32.reduceToInt, Int64.reduceToInt] at *); omega)
  | succ n ih =>
    intro i hi J x hR hq hst hZ hx
    have h10 := hR.2.2.1.2.1
    have h5G : gH G ≤ 5 := by omega
    have jS : (J 95 65).toInt = gS G := by rw [hR.2.2.1.1, nI_toInt (by omega)]
    have c138 := hq i (Nat.le_refl _) (by omega)
    obtain ⟨Z, hZ1, hZ2⟩ := hZ
    obtain rfl := x_nI hx
    refine r_iload_n (j := 0) rfl rfl dX12_fewest_96 ?_
    refine r_aload_n (j := 1) rfl rfl dX12_fewest_97 ?_
    refine w_getI fX12_464 rfl dX12_fewest_98 ?_
    refine r_icmp_ge (tgt := 121) dX12_fewest_101 (by decide) (fun c101 => ?_) (fun c101 => ?_)
    · exfalso; ((try simp only [bI_0, bI_1, lc_lt, lc_gt, lc_le, lc_ge, Classical.not_not] at *); (try simp only [i_lt, i_le, i_eq, l_lt, l_le, l_eq, Int32.toInt_toInt64, Int32.reduceToInt, Int64.reduceToInt] at *); omega)
    · refine r_aload_n (j := 1) rfl rfl dX12_fewest_104 ?_
      refine w_cV0v (k_X12_ask) (Nat.le_of_ble_eq_true rfl) lX12_474 vmX12_ask rfl (Nat.le_of_ble_eq_true rfl) (Nat.le_of_ble_eq_true rfl) (Nat.le_of_ble_eq_true rfl) dX12_fewest_105 (fun J105 K105 hJ105 hK105 => ?_)
      subst hK105
      refine r_aload_n (j := 1) rfl rfl dX12_fewest_108 ?_
      refine r_iload_n (j := 0) rfl rfl dX12_fewest_109 ?_
      refine r_iconst (v := 0) rfl dX12_fewest_110 ?_
      have sA : SB [135] J J105 := by rw [hJ105]; exact askS
      have u0 : ∀ x, x < 15 → ¬ aske J105 x := fun x hx => by rw [hJ105]; exact ask0 hx
      have mA := mof_135 sA
      have k111 := k_X12_giveTo (sc := sc) (L := K105) (tg := tg) (G := G) (b := false) 16 J105 i (gOk_SB hR.2.2.1 (sA.mono (by decide))) (by rw [mA]; exact hR.2.2.2) (by omega) ⟨99, Or.inl ⟨rfl, by rw [mA]; exact c138⟩, Or.inl rfl⟩ (un15 _)
      refine w_cV2g (k111) (Nat.le_of_ble_eq_true rfl) lX12_470 vmX12_giveTo rfl (Nat.le_of_ble_eq_true rfl) (Nat.le_of_ble_eq_true rfl) (Nat.le_of_ble_eq_true rfl) dX12_fewest_111 (fun v111 J111 K111 t111 h111 => ?_)
      obtain ⟨hK, ht, hS2, hm2, hcase⟩ := h111; subst hK ht
      refine r_pop rfl dX12_fewest_114 ?_
      refine r_iinc (j := 0) (lv' := fun z => [(1, .int z), (0, .ref 95)]) dX12_fewest_115 rfl (Nat.le_of_ble_eq_true rfl) (fun _ => rfl) (fun x1_115 ex1_115 => ?_)
      refine r_goto (tgt := 96) dX12_fewest_118 (by decide) ?_
      have r133 : J105 133 = J 133 := sA 133 (by decide)
      have r136 : J105 136 = J 136 := sA 136 (by decide)
      have R2 := feR_go hR (sA.mono (by decide)) (by rw [mA]; exact hR.2.2.2)
      rcases hcase with ⟨hv1, o, so, sV, s2, s3, s5, s6, s7, sZ⟩ | ⟨hv1, hfa⟩
      · have e99 : o = 99 := by
          rcases so with z | ⟨z1, z2⟩
          · exact z.1
          · rw [mA] at z2
            have z2 : J 133 i = srcv o := z2
            rw [c138] at z2
            exact absurd z2.symm (srcv_nn z1)
        subst e99
        obtain ⟨zp, zq⟩ := sZ Z (by rw [mA]; exact hZ1)
        refine ih (i + 1) (by omega) _ _ (feR_go R2 hS2 sV) (fun q h1 h2 => ?_) (fun q hq2 => ?_) ⟨Z, fun z hz hzz y hy => ?_, fun q hq2 h => ?_⟩ (by rw [ex1_115]; exact i_inc hx (by omega))
        · rw [s3 q h2 (by omega) (Or.inl (by rw [r133]; exact hq q (by omega) h2)), r133]
          exact hq q (by omega) h2
        · rcases s7 rfl q hq2 with z | z
          · rw [z, r133]; exact hst q hq2
          · exact Or.inr z
        · have hyS : y < gS G := by
            rcases hy.1 with z | z
            · exact z
            · exact absurd z.1 (by decide)
          obtain ⟨a1, a2⟩ := hZ1 z hz hzz y hy
          have ny : ¬ J 136 y = -1 := a1.1 (by omega)
          refine ⟨⟨fun _ => s5 y hyS (by rw [r136]; exact ny), fun w => by omega⟩, fun q hq2 hqy => ?_⟩
          rcases hR.2.2.2.2.1 y hyS (by omega) with ⟨w1, -⟩ | ⟨q0, w1, w2, w3, w4⟩
          · exact absurd w1 ny
          · have zq0 := a2 q0 w1 w3
            have c0 : J111 133 q0 = srcv y := by rw [zq q0 w1 zq0, r133]; exact w3
            rcases sV.2.1 y hyS (by omega) with ⟨-, v2⟩ | ⟨q1, v1, v2, v3, v4⟩
            · exact absurd c0 (v2 q0 w1)
            · rw [v4 q hq2 hqy, ← v4 q0 w1 c0]; exact zq0
        · by_cases e : q = i
          · rw [e] at h; exact absurd h s2
          · refine hZ2 q (by omega) (Classical.byContradiction (fun w => s6 q (by omega) (by rw [r133]; exact w) h))
      · have mf := mof_135 hfa.1
        have f133 : J111 133 = J 133 := by rw [hfa.1 133 (by decide), r133]
        refine ih (i + 1) (by omega) _ _ (feR_go R2 hS2 (by rw [mf, mA]; exact hR.2.2.2)) (fun q h1 h2 => by rw [f133]; exact hq q (by omega) h2) (fun q hq2 => by rw [f133]; exact hst q hq2) ⟨_, by rw [mf]; exact fail_Z h10 h5G u0 hfa (by rw [mA]; exact hZ1), fun q hq2 h => ?_⟩ (by rw [ex1_115]; exact i_inc hx (by omega))
        by_cases e : q = i
        · exact Or.inr (Or.inl e)
        · rw [f133] at h; exact Or.inl (hZ2 q (by omega) h)
theorem gx_ok {J : Is} (h5 : NH ≤ 5) (hH : I 95 10 = nI NH) (h10 : sdC I NH ≤ 10) (hcap : ∀ h, h < NH → 0 ≤ (I 104 h - I 130 h).toInt ∧ (I 104 h - I 130 h).toInt ≤ 1000) (hQ : feQ I J NH (sdC I NH)) (h132 : ∀ q, q < sdC I NH → J 132 q = nI (shF I NH q)) : gOk (gxI I NH) J := by
  obtain ⟨q1, q2, q3, q4, q5⟩ := hQ
  refine ⟨q3, h10, by rw [q2 10 (by decide)]; exact hH, h5, fun p hp => ⟨h132 p hp, shF_lt I NH p hp⟩, fun h hh => ?_, fun h o hh ho => ?_, fun h hh => ?_⟩
  · rw [q1 105 (by decide)]; exact decide_eq_true_iff
  · rw [q1 131 (by decide), q1 106 (by decide)]; exact decide_eq_true_iff
  · rw [q1 104 (by decide), q1 130 (by decide)]
    have := hcap h hh
    have e := nN_of this.1
    exact ⟨e, by show nN (I 104 h - I 130 h) ≤ 1000; omega⟩
theorem l_X12_fw1 (h5 : NH ≤ 5) (hH : I 95 10 = nI NH) (h10 : sdC I NH ≤ 10) (hg : ∀ h, h < NH → 0 ≤ (I 130 h).toInt) (hcap : ∀ h, h < NH → 0 ≤ (I 104 h - I 130 h).toInt ∧ (I 104 h - I 130 h).toInt ≤ 1000) : ∀ n i : Nat, i + n = NH → ∀ (J : Is) (x : Int32), feQ I J i (sdC I i) → (∀ q, q < sdC I i → J 132 q = nI (shF I i q)) → x.toInt = i → RR sc mX12_fewest 17 0 0 (gI (fwF (gxI I NH) I L tg)) 0 0 7 [(1, .int x), (0, .ref 95)] [] (XW J L tg) := by
  intro n
  induction n with
  | zero =>
    intro i hi J x hQ h132 hx
    have e : i = NH := by omega
    subst e
    have jH : (J 95 10).toInt = i := by rw [hQ.2.1 10 (by decide), hH, nI_toInt (by omega)]
    have hok := gx_ok h5 hH h10 hcap hQ h132
    obtain ⟨q1, q2, q3, q4, q5⟩ := id hQ
    have hv : Vl (gxI I i) (mof J) 99 := by
      refine ⟨fun q hq => Or.inl (q5 q hq).1, fun s hs _ => Or.inl ⟨(q5 s hs).2, fun q hq z => ?_⟩, fun h => absurd h (by have : sdC I i ≤ 10 := h10; show ¬ 99 < sdC I i; omega), fun h hh => ?_, fun h hh => ?_⟩
      · have z : J 133 q = srcv s := z
        rw [(q5 q hq).1] at z
        have : s < sdC I i := hs
        exact srcv_nn (by omega) z.symm
      · have hh : h < i := hh
        show (J 134 h).toInt = _
        rw [q4 h hh, if_neg (by omega)]
        have : cwt (fun q => decide (J 133 q = srcv (10 + h))) (sdC I i) = 0 := by
          have key : ∀ m, m ≤ sdC I i → cwt (fun q => decide (J 133 q = srcv (10 + h))) m = 0 := by
            intro m
            induction m with
            | zero => intro _; rfl
            | succ m im =>
              intro hm
              show cwt _ m + (decide (J 133 m = srcv (10 + h))).toNat = 0
              rw [im (by omega), decide_eq_false (by rw [(q5 m (by omega)).1]; exact fun z => srcv_nn (by omega) z.symm)]
              rfl
          exact key _ (Nat.le_refl _)
        show (0 : Int) = (cwt (fun q => decide (J 133 q = srcv (10 + h))) (sdC I i) : Int) + 0
        rw [this]
        rfl
      · have hh : h < i := hh
        show (J 134 h).toInt ≤ _
        rw [q4 h hh]
        exact Int.ofNat_nonneg _
    refine r_iload_n (j := 0) rfl rfl dX12_fewest_7 ?_
    refine r_aload_n (j := 1) rfl rfl dX12_fewest_8 ?_
    refine w_getI fX12_355 rfl dX12_fewest_9 ?_
    refine r_icmp_ge (tgt := 94) dX12_fewest_12 (by decide) (fun c12 => ?_) (fun c12 => ?_)
    · refine r_iconst (v := 0) rfl dX12_fewest_94 ?_
      refine r_istore_n (lv' := fun z => [(1, .int z), (0, .ref 95)]) dX12_fewest_95 rfl (Nat.le_of_ble_eq_true rfl) (fun _ => rfl) (fun x1_95 ex1_95 => ?_)
      refine l_X12_fw3 (G := gxI I i) h5 rfl (sdC I i) 0 (Nat.zero_add _) J _ ⟨q1.mono (by decide), q2, hok, hv⟩ (fun q _ h => (q5 q h).1) (fun q h => Or.inl (q5 q h).1) ⟨fun _ => False, fun z _ hz => hz.elim, fun q hq => absurd hq (Nat.not_lt_zero _)⟩ (by rw [ex1_95]; rfl)
    · exfalso; ((try simp only [bI_0, bI_1, lc_lt, lc_gt, lc_le, lc_ge, Classical.not_not] at *); (try simp only [i_lt, i_le, i_eq, l_lt, l_le, l_eq, Int32.toInt_toInt64, Int32.reduceToInt, Int64.reduceToInt] at *); omega)
  | succ n ih =>
    intro i hi J x hQ h132 hx
    have jH : (J 95 10).toInt = NH := by rw [hQ.2.1 10 (by decide), hH, nI_toInt (by omega)]
    have cx := cl_of hx
    have hin := up_in (N := 5) hx (by omega)
    obtain ⟨q1, q2, q3, q4, q5⟩ := id hQ
    obtain rfl := x_nI hx
    refine r_iload_n (j := 0) rfl rfl dX12_fewest_7 ?_
    refine r_aload_n (j := 1) rfl rfl dX12_fewest_8 ?_
    refine w_getI fX12_355 rfl dX12_fewest_9 ?_
    refine r_icmp_ge (tgt := 94) dX12_fewest_12 (by decide) (fun c12 => ?_) (fun c12 => ?_)
    · exfalso; ((try simp only [bI_0, bI_1, lc_lt, lc_gt, lc_le, lc_ge, Classical.not_not] at *); (try simp only [i_lt, i_le, i_eq, l_lt, l_le, l_eq, Int32.toInt_toInt64, Int32.reduceToInt, Int64.reduceToInt] at *); omega)
    · refine r_aload_n (j := 1) rfl rfl dX12_fewest_15 ?_
      refine w_getR (b := 134) fX12_294 rfl rfl dX12_fewest_16 ?_
      refine r_iload_n (j := 0) rfl rfl dX12_fewest_19 ?_
      refine r_iconst (v := 0) rfl dX12_fewest_20 ?_
      refine w_iast rfl (by first | assumption | (rw [vp_in_iff]; ((try simp only [bI_0, bI_1, lc_lt, lc_gt, lc_le, lc_ge, Classical.not_not] at *); (try simp only [i_lt, i_le, i_eq, l_lt, l_le, l_eq, Int32.toInt_toInt64, Int32.reduceToInt, Int64.reduceToInt] at *); omega))) dX12_fewest_21 (fun J21 hJ21 => ?_)
      refine r_iconst (v := 0) rfl dX12_fewest_22 ?_
      refine r_istore_n (lv' := fun z => [(2, .int z), (1, .int (nI i)), (0, .ref 95)]) dX12_fewest_23 rfl (Nat.le_of_ble_eq_true rfl) (fun _ => rfl) (fun x2_23 ex2_23 => ?_)
      rw [cx] at hJ21
      refine l_X12_fw2 h10 (by omega) h5 (hg i (by omega)) ?_ (tnI I i) 0 (Nat.zero_add _) J21 _ ⟨?_, ?_, ?_, ?_, ?_⟩ ?_ (by rw [ex2_23]; rfl)
      · intro J5 x2 k1 k2
        refine r_lvs [(1, .int (nI i)), (0, .ref 95)] [1, 2] rfl ?_
        refine r_iinc (j := 0) (lv' := fun z => [(1, .int z), (0, .ref 95)]) dX12_fewest_88 rfl (Nat.le_of_ble_eq_true rfl) (fun _ => rfl) (fun x1_88 ex1_88 => ?_)
        refine r_goto (tgt := 7) dX12_fewest_91 (by decide) ?_
        exact ih (i + 1) (by omega) J5 _ k1 k2 (by rw [ex1_88]; exact i_inc hx (by omega))
      · rw [hJ21]; exact q1.up (by decide)
      · intro j hj; rw [hJ21, up_n _ _ _ (by decide)]; exact q2 j hj
      · rw [hJ21, up_n _ _ _ (by decide)]; exact q3
      · intro h hh
        rw [hJ21, up_s, vu_eq]
        by_cases e : h = i
        · rw [if_pos e]
        · rw [if_neg e]; exact q4 h (by omega)
      · intro q hq
        rw [hJ21, up_n _ _ _ (by decide), up_n _ _ _ (by decide)]
        exact q5 q hq
      · intro q hq
        rw [hJ21, up_n _ _ _ (by decide), shF, if_neg (by omega)]
        exact h132 q hq
theorem k_X12_fewest (h5 : NH ≤ 5) (hH : I 95 10 = nI NH) (h10 : sdC I NH ≤ 10) (hg : ∀ h, h < NH → 0 ≤ (I 130 h).toInt) (hcap : ∀ h, h < NH → 0 ≤ (I 104 h - I 130 h).toInt ∧ (I 104 h - I 130 h).toInt ≤ 1000) : Con sc mX12_fewest 17 0 0 [.ref 95] (XW I L tg) (gI (fwF (gxI I NH) I L tg)) := by
  refine Con_of (by decide) (Nat.le_of_ble_eq_true rfl) ?_
  refine r_aload_n (j := 0) rfl rfl dX12_fewest_0 ?_
  refine r_iconst (v := 0) rfl dX12_fewest_1 ?_
  refine w_putI fX12_464 rfl (rfl) (rfl) dX12_fewest_2 (fun J2 hJ2 => ?_)
  refine r_iconst (v := 0) rfl dX12_fewest_5 ?_
  refine r_istore_n (lv' := fun z => [(1, .int z), (0, .ref 95)]) dX12_fewest_6 rfl (Nat.le_of_ble_eq_true rfl) (fun _ => rfl) (fun x1_6 ex1_6 => ?_)
  refine l_X12_fw1 h5 hH h10 hg hcap NH 0 (Nat.zero_add _) J2 _ ⟨?_, ?_, ?_, fun h hh => absurd hh (Nat.not_lt_zero _), fun q hq => absurd hq (Nat.not_lt_zero _)⟩ (fun q hq => absurd hq (Nat.not_lt_zero _)) (by rw [ex1_6]; rfl)
  · rw [hJ2]; exact SB.rf.up (by decide)
  · intro j hj; rw [hJ2, up_s, vu_n _ _ hj]
  · rw [hJ2, up_s, vu_s]; rfl
end
