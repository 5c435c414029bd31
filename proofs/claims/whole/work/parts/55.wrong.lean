/-! WRONG ORDERS: the component's side -/
section
variable {sc : Sc} {I : Is} {L : Ls} {tg NH : Nat}
/-- the minutes of an order, by its number -/
def gmi (cs : Nat → Nat) : Nat → Nat → (Nat → Int32) → (Nat → Int32) → (Nat → Int32)
  | 0, _, _, m => m
  | l + 1, r, u, m => gmi cs l (r / (l + 1)) (va_up u (r % (l + 1)) (u l)) (va_up m (cs l) (u (r % (l + 1))))
theorem gmi_u {cs : Nat → Nat} : ∀ l r (u u' m : Nat → Int32), (∀ j, j < l → u j = u' j) → gmi cs l r u m = gmi cs l r u' m := by
  intro l
  induction l with
  | zero => intro r u u' m _; rfl
  | succ l ih =>
    intro r u u' m h
    have hr : r % (l + 1) < l + 1 := Nat.mod_lt _ (by omega)
    rw [gmi, gmi, h _ hr]
    refine ih _ _ _ _ (fun j hj => ?_)
    rw [vu_eq, vu_eq, h l (by omega), h j (by omega)]
theorem gmi_m {cs : Nat → Nat} : ∀ l r (u m m' : Nat → Int32), ∀ j, ((∃ i, i < l ∧ cs i = j) ∨ m j = m' j) → gmi cs l r u m j = gmi cs l r u m' j := by
  intro l
  induction l with
  | zero =>
    intro r u m m' j h
    rcases h with ⟨i, hi, -⟩ | h
    · omega
    · exact h
  | succ l ih =>
    intro r u m m' j h
    rw [gmi, gmi]
    refine ih _ _ _ _ j ?_
    by_cases e : j = cs l
    · right; subst e; rw [vu_s, vu_s]
    · rcases h with ⟨i, hi, h⟩ | h
      · by_cases e2 : i = l
        · subst e2; exact absurd h.symm e
        · exact Or.inl ⟨i, by omega, h⟩
      · right; rw [vu_n _ _ e, vu_n _ _ e]; exact h
theorem gmi_o {cs : Nat → Nat} : ∀ l r (u m : Nat → Int32), ∀ j, (∀ i, i < l → cs i ≠ j) → gmi cs l r u m j = m j := by
  intro l
  induction l with
  | zero => intro r u m j _; rfl
  | succ l ih =>
    intro r u m j h
    rw [gmi, ih _ _ _ j (fun i hi => h i (by omega)), vu_n _ _ (Ne.symm (h l (by omega)))]
def gvF (I : Is) (L : Ls) (tg : Nat) (m : Nat → Int32) : Is → Ls → Nat → Prop := fun J K t => J 70 = m ∧ SB [70, 72] I J ∧ K = L ∧ t = tg
theorem l_X2_gm2 {cs : Nat → Nat} {n1 o1 : Int32} {NC : Nat} (h5 : NC ≤ 5) (hcs : ∀ l, l < NC → I 71 l = nI (cs l) ∧ cs l < 5) : ∀ l, l ≤ NC → ∀ (J : Is) (r : Nat) (x4 x5 : Int32), SB [70, 72] I J → r < 2147483648 → x4 = nI r → x5 = nI l → RR sc mX2_giveMinutes 0 0 0 (gV (gvF I L tg (gmi cs l r (J 72) (J 70)))) 0 0 40 [(5, .int x5), (4, .int x4), (0, .ref 68), (1, .ref 3), (2, .int n1), (3, .int o1)] [] (XW J L tg) := by
  intro l
  induction l with
  | zero =>
    intro hl J r x4 x5 hS hr e4 e5
    subst e5
    refine r_iload (j := 0) rfl dX2_giveMinutes_40 ?_
    refine r_if_le (tgt := 102) dX2_giveMinutes_42 (by decide) (fun c42 => ?_) (fun c42 => ?_)
    · refine w_vretG rfl (Nat.le_of_ble_eq_true rfl) (Nat.le_of_ble_eq_true rfl) dX2_giveMinutes_102 ?_
      exact ⟨rfl, hS, rfl, rfl⟩
    · exact absurd (by decide) c42
  | succ l ih =>
    intro hl J r x4 x5 hS hr e4 e5
    subst e4 e5
    have hli : (nI (l + 1)).toInt = ((l + 1 : Nat) : Int) := nI_toInt (by omega)
    have hne : ¬ nI (l + 1) = 0 := nI_nz (by omega) (by omega)
    have hm : r % (l + 1) < l + 1 := Nat.mod_lt _ (by omega)
    have e6 : nI r - nI r / nI (l + 1) * nI (l + 1) = nI (r % (l + 1)) := pk_rem hr (by omega) (by omega)
    have ed : nI r / nI (l + 1) = nI (r / (l + 1)) := pk_div hr (by omega) (by omega)
    have el : nI (l + 1) - 1 = nI l := nI_pred l
    have j71 : J 71 = I 71 := hS 71 (by decide)
    obtain ⟨c1, c2⟩ := hcs l (by omega)
    refine r_iload (j := 0) rfl dX2_giveMinutes_40 ?_
    refine r_if_le (tgt := 102) dX2_giveMinutes_42 (by decide) (fun c42 => ?_) (fun c42 => ?_)
    · exfalso; ((try simp only [bI_0, bI_1, lc_lt, lc_gt, lc_le, lc_ge, Classical.not_not] at *); (try simp only [i_lt, i_le, i_eq, l_lt, l_le, l_eq, Int32.toInt_toInt64, Int32.reduceToInt, Int64.reduceToInt] at *); omega)
    · refine r_iload (j := 1) rfl dX2_giveMinutes_45 ?_
      refine r_iload (j := 0) rfl dX2_giveMinutes_47 ?_
      refine r_irem (hne) dX2_giveMinutes_49 ?_
      refine r_istore (lv' := fun z => [(6, .int z), (5, .int (nI (l+1))), (4, .int (nI r)), (0, .ref 68), (1, .ref 3), (2, .int n1), (3, .int o1)]) dX2_giveMinutes_50 (Nat.le_of_ble_eq_true rfl) (fun _ => rfl) (fun x6_50 ex6_50 => ?_)
      rw [e6] at ex6_50
      refine r_iload (j := 2) rfl dX2_giveMinutes_52 ?_
      refine r_iload (j := 1) rfl dX2_giveMinutes_54 ?_
      refine r_idiv (hne) dX2_giveMinutes_56 ?_
      refine r_istore (lv' := fun z => [(4, .int z), (6, .int x6_50), (5, .int (nI (l+1))), (0, .ref 68), (1, .ref 3), (2, .int n1), (3, .int o1)]) dX2_giveMinutes_57 (Nat.le_of_ble_eq_true rfl) (fun _ => rfl) (fun x4_57 ex4_57 => ?_)
      refine r_aload_n (j := 3) rfl rfl dX2_giveMinutes_59 ?_
      refine w_getR (b := 70) fX2_15 rfl rfl dX2_giveMinutes_60 ?_
      refine r_aload_n (j := 3) rfl rfl dX2_giveMinutes_63 ?_
      refine w_getR (b := 71) fX2_18 rfl rfl dX2_giveMinutes_64 ?_
      refine r_iload (j := 2) rfl dX2_giveMinutes_67 ?_
      refine r_iconst (v := 1) rfl dX2_giveMinutes_69 ?_
      refine r_isub dX2_giveMinutes_70 ?_
      refine w_iald rfl (by rw [el]; exact vp_in_nI (by omega) (by omega)) dX2_giveMinutes_71 ?_
      refine r_aload_n (j := 3) rfl rfl dX2_giveMinutes_72 ?_
      refine w_getR (b := 72) fX2_21 rfl rfl dX2_giveMinutes_73 ?_
      refine r_iload (j := 1) rfl dX2_giveMinutes_76 ?_
      refine w_iald rfl (by rw [ex6_50]; exact vp_in_nI (by omega) (by omega)) dX2_giveMinutes_78 ?_
      refine w_iast rfl (by rw [el, nI_clamp (by omega), j71, c1]; exact vp_in_nI (by omega) (by omega)) dX2_giveMinutes_79 (fun J79 hJ79 => ?_)
      refine r_aload_n (j := 3) rfl rfl dX2_giveMinutes_80 ?_
      refine w_getR (b := 72) fX2_21 rfl rfl dX2_giveMinutes_81 ?_
      refine r_iload (j := 1) rfl dX2_giveMinutes_84 ?_
      refine r_aload_n (j := 3) rfl rfl dX2_giveMinutes_86 ?_
      refine w_getR (b := 72) fX2_21 rfl rfl dX2_giveMinutes_87 ?_
      refine r_iload (j := 2) rfl dX2_giveMinutes_90 ?_
      refine r_iconst (v := 1) rfl dX2_giveMinutes_92 ?_
      refine r_isub dX2_giveMinutes_93 ?_
      refine w_iald rfl (by rw [el]; exact vp_in_nI (by omega) (by omega)) dX2_giveMinutes_94 ?_
      refine w_iast rfl (by rw [ex6_50]; exact vp_in_nI (by omega) (by omega)) dX2_giveMinutes_95 (fun J95 hJ95 => ?_)
      refine r_iinc (j := 2) (lv' := fun z => [(5, .int z), (4, .int x4_57), (6, .int x6_50), (0, .ref 68), (1, .ref 3), (2, .int n1), (3, .int o1)]) dX2_giveMinutes_96 rfl (Nat.le_of_ble_eq_true rfl) (fun _ => rfl) (fun x5_96 ex5_96 => ?_)
      refine r_goto (tgt := 40) dX2_giveMinutes_99 (by decide) ?_
      refine r_lvs [(5, .int x5_96), (4, .int x4_57), (0, .ref 68), (1, .ref 3), (2, .int n1), (3, .int o1)] [0, 1, 3, 4, 5, 6] rfl ?_
      rw [el, nI_clamp (by omega), j71, c1, nI_clamp (by omega), ex6_50, nI_clamp (by omega)] at hJ79
      rw [el, ex6_50, nI_clamp (by omega), nI_clamp (by omega)] at hJ95
      have h72 : J79 72 = J 72 := by rw [hJ79, up_n _ _ _ (by decide)]
      have g72 : J95 72 = va_up (J 72) (r % (l + 1)) (J 72 l) := by rw [hJ95, up_s, h72]
      have g70 : J95 70 = va_up (J 70) (cs l) (J 72 (r % (l + 1))) := by rw [hJ95, up_n _ _ _ (by decide), hJ79, up_s]
      have hS2 : SB [70, 72] I J95 := by rw [hJ95, hJ79]; exact (hS.up (by decide)).up (by decide)
      rw [gmi, ← g72, ← g70]
      exact ih (by omega) J95 _ _ _ hS2 (by have := Nat.div_le_self r (l + 1); omega) (by rw [ex4_57, ed]) (by rw [ex5_96]; exact pk_m1 l)
theorem l_X2_gm1 {cs : Nat → Nat} {o1 : Int32} {NC r : Nat} (h5 : NC ≤ 5) (hcs : ∀ l, l < NC → I 71 l = nI (cs l) ∧ cs l < 5) (er : o1 = nI r) (hr : r < 2147483648) : ∀ n i : Nat, i + n = NC → ∀ (J : Is) (x : Int32), J = upr I 72 (prf (fun l => I 10 (cs l)) i (I 72)) → x.toInt = i → RR sc mX2_giveMinutes 0 0 0 (gV (gvF I L tg (gmi cs NC r (fun l => I 10 (cs l)) (I 70)))) 0 0 3 [(4, .int x), (0, .ref 68), (1, .ref 3), (2, .int (nI NC)), (3, .int o1)] [] (XW J L tg) := by
  have hci : (nI NC).toInt = NC := nI_toInt (by omega)
  intro n
  induction n with
  | zero =>
    intro i hi J x eJ hx
    refine r_iload (j := 0) rfl dX2_giveMinutes_3 ?_
    refine r_iload_n (j := 3) rfl rfl dX2_giveMinutes_5 ?_
    refine r_icmp_ge (tgt := 34) dX2_giveMinutes_6 (by decide) (fun c6 => ?_) (fun c6 => ?_)
    · refine r_iload_n (j := 4) rfl rfl dX2_giveMinutes_34 ?_
      refine r_istore (lv' := fun z => [(4, .int z), (0, .ref 68), (1, .ref 3), (2, .int (nI NC)), (3, .int o1)]) dX2_giveMinutes_35 (Nat.le_of_ble_eq_true rfl) (fun _ => rfl) (fun x4_35 ex4_35 => ?_)
      refine r_iload_n (j := 3) rfl rfl dX2_giveMinutes_37 ?_
      refine r_istore (lv' := fun z => [(5, .int z), (4, .int x4_35), (0, .ref 68), (1, .ref 3), (2, .int (nI NC)), (3, .int o1)]) dX2_giveMinutes_38 (Nat.le_of_ble_eq_true rfl) (fun _ => rfl) (fun x5_38 ex5_38 => ?_)
      have g72 : J 72 = prf (fun l => I 10 (cs l)) NC (I 72) := by rw [eJ, upr_s, show i = NC by omega]
      have g70 : J 70 = I 70 := by rw [eJ, upr_n _ _ (by decide)]
      have := l_X2_gm2 (sc := sc) (L := L) (tg := tg) (n1 := nI NC) (o1 := o1) h5 hcs NC (Nat.le_refl _) J r x4_35 x5_38 (by rw [eJ]; exact SB.rf.upr (by decide)) hr (by rw [ex4_35]; exact er) ex5_38
      rw [gmi_u NC r (J 72) (fun l => I 10 (cs l)) (J 70) (fun j hj => by rw [g72]; unfold prf; rw [if_pos hj]), g70] at this
      exact this
    · exfalso; ((try simp only [bI_0, bI_1, lc_lt, lc_gt, lc_le, lc_ge, Classical.not_not] at *); (try simp only [i_lt, i_le, i_eq, l_lt, l_le, l_eq, Int32.toInt_toInt64, Int32.reduceToInt, Int64.reduceToInt] at *); omega)
  | succ n ih =>
    intro i hi J x eJ hx
    have cx := cl_of hx
    have hin := up_in (N := 5) hx (by omega)
    have j71 : J 71 = I 71 := by rw [eJ, upr_n _ _ (by decide)]
    have j10 : J 10 = I 10 := by rw [eJ, upr_n _ _ (by decide)]
    obtain ⟨c1, c2⟩ := hcs i (by omega)
    refine r_iload (j := 0) rfl dX2_giveMinutes_3 ?_
    refine r_iload_n (j := 3) rfl rfl dX2_giveMinutes_5 ?_
    refine r_icmp_ge (tgt := 34) dX2_giveMinutes_6 (by decide) (fun c6 => ?_) (fun c6 => ?_)
    · exfalso; ((try simp only [bI_0, bI_1, lc_lt, lc_gt, lc_le, lc_ge, Classical.not_not] at *); (try simp only [i_lt, i_le, i_eq, l_lt, l_le, l_eq, Int32.toInt_toInt64, Int32.reduceToInt, Int64.reduceToInt] at *); omega)
    · refine r_aload_n (j := 1) rfl rfl dX2_giveMinutes_9 ?_
      refine w_getR (b := 72) fX2_21 rfl rfl dX2_giveMinutes_10 ?_
      refine r_iload (j := 0) rfl dX2_giveMinutes_13 ?_
      refine r_aload_n (j := 2) rfl rfl dX2_giveMinutes_15 ?_
      refine w_getR (b := 10) fX2_36 rfl rfl dX2_giveMinutes_16 ?_
      refine r_aload_n (j := 1) rfl rfl dX2_giveMinutes_19 ?_
      refine w_getR (b := 71) fX2_18 rfl rfl dX2_giveMinutes_20 ?_
      refine r_iload (j := 0) rfl dX2_giveMinutes_23 ?_
      refine w_iald rfl (by first | assumption | (rw [vp_in_iff]; ((try simp only [bI_0, bI_1, lc_lt, lc_gt, lc_le, lc_ge, Classical.not_not] at *); (try simp only [i_lt, i_le, i_eq, l_lt, l_le, l_eq, Int32.toInt_toInt64, Int32.reduceToInt, Int64.reduceToInt] at *); omega))) dX2_giveMinutes_25 ?_
      refine w_iald rfl (by rw [cx, j71, c1]; exact vp_in_nI (by omega) (by omega)) dX2_giveMinutes_26 ?_
      refine w_iast rfl (by first | assumption | (rw [vp_in_iff]; ((try simp only [bI_0, bI_1, lc_lt, lc_gt, lc_le, lc_ge, Classical.not_not] at *); (try simp only [i_lt, i_le, i_eq, l_lt, l_le, l_eq, Int32.toInt_toInt64, Int32.reduceToInt, Int64.reduceToInt] at *); omega))) dX2_giveMinutes_27 (fun J27 hJ27 => ?_)
      refine r_iinc (j := 0) (lv' := fun z => [(4, .int z), (0, .ref 68), (1, .ref 3), (2, .int (nI NC)), (3, .int o1)]) dX2_giveMinutes_28 rfl (Nat.le_of_ble_eq_true rfl) (fun _ => rfl) (fun x4_28 ex4_28 => ?_)
      refine r_goto (tgt := 3) dX2_giveMinutes_31 (by decide) ?_
      refine ih (i + 1) (by omega) _ _ ?_ (by rw [ex4_28]; exact i_inc hx (by omega))
      rw [hJ27, cx, j71, c1, nI_clamp (by omega), j10, eJ, upr_up, ← prf_s (fun l => I 10 (cs l))]
theorem k_X2_giveMinutes {cs : Nat → Nat} {n1 o1 : Int32} {NC r : Nat} (h5 : NC ≤ 5) (en : n1 = nI NC) (hcs : ∀ l, l < NC → I 71 l = nI (cs l) ∧ cs l < 5) (er : o1 = nI r) (hr : r < 2147483648) : Con sc mX2_giveMinutes 0 0 0 [.ref 68, .ref 3, .int n1, .int o1] (XW I L tg) (gV (gvF I L tg (gmi cs NC r (fun l => I 10 (cs l)) (I 70)))) := by
  subst en
  refine Con_of (by decide) (Nat.le_of_ble_eq_true rfl) ?_
  refine r_iconst (v := 0) rfl dX2_giveMinutes_0 ?_
  refine r_istore (lv' := fun z => [(4, .int z), (0, .ref 68), (1, .ref 3), (2, .int (nI NC)), (3, .int o1)]) dX2_giveMinutes_1 (Nat.le_of_ble_eq_true rfl) (fun _ => rfl) (fun x4_1 ex4_1 => ?_)
  exact l_X2_gm1 h5 hcs er hr NC 0 (Nat.zero_add _) _ _ (by rw [prf_0, upr_id]) (by rw [ex4_1]; rfl)
/-- the counted huts in their order, how many, how many orders -/
def clN (mi : Nat → Int32) : Nat → Nat
  | 0 => 0
  | i + 1 => if mi i = -1 then clN mi i else clN mi i + 1
def clC (mi : Nat → Int32) : Nat → (Nat → Nat)
  | 0 => fun _ => 0
  | i + 1 => if mi i = -1 then clC mi i else fun l => if l = clN mi i then i else clC mi i l
def fac : Nat → Nat
  | 0 => 1
  | n + 1 => fac n * (n + 1)
theorem clN_le (mi : Nat → Int32) : ∀ i, clN mi i ≤ i := by
  intro i
  induction i with
  | zero => exact Nat.le_refl _
  | succ i ih => rw [clN]; split <;> omega
theorem clC_lt (mi : Nat → Int32) : ∀ i l, l < clN mi i → clC mi i l < i := by
  intro i
  induction i with
  | zero => intro l h; exact absurd h (Nat.not_lt_zero _)
  | succ i ih =>
    intro l h
    rw [clN] at h
    rw [clC]
    by_cases e : mi i = -1
    · rw [if_pos e] at h ⊢; have := ih l h; omega
    · rw [if_neg e] at h ⊢
      by_cases e2 : l = clN mi i
      · show (if l = clN mi i then i else clC mi i l) < _; rw [if_pos e2]; omega
      · show (if l = clN mi i then i else clC mi i l) < _; rw [if_neg e2]; have := ih l (by omega); omega
theorem clC_all (mi : Nat → Int32) : ∀ i h, h < i → ¬ mi h = -1 → ∃ l, l < clN mi i ∧ clC mi i l = h := by
  intro i
  induction i with
  | zero => intro h hh; omega
  | succ i ih =>
    intro h hh hm
    rw [clN, clC]
    by_cases e : mi i = -1
    · rw [if_pos e, if_pos e]
      exact ih h (by rcases Nat.lt_or_ge h i with q | q; exact q; exact absurd (show mi h = -1 by rw [show h = i by omega]; exact e) hm) hm
    · rw [if_neg e, if_neg e]
      by_cases e2 : h = i
      · exact ⟨clN mi i, by omega, by show (if _ then _ else _) = _; rw [if_pos rfl, e2]⟩
      · obtain ⟨l, h1, h2⟩ := ih h (by omega) hm
        exact ⟨l, by omega, by show (if _ then _ else _) = _; rw [if_neg (by omega)]; exact h2⟩
theorem clC_c (mi : Nat → Int32) : ∀ i l, l < clN mi i → ¬ mi (clC mi i l) = -1 := by
  intro i
  induction i with
  | zero => intro l h; exact absurd h (Nat.not_lt_zero _)
  | succ i ih =>
    intro l h
    rw [clN] at h
    rw [clC]
    by_cases e : mi i = -1
    · rw [if_pos e] at h ⊢; exact ih l h
    · rw [if_neg e] at h ⊢
      by_cases e2 : l = clN mi i
      · show ¬ mi (if l = clN mi i then i else clC mi i l) = -1; rw [if_pos e2]; exact e
      · show ¬ mi (if l = clN mi i then i else clC mi i l) = -1; rw [if_neg e2]; exact ih l (by omega)
theorem fac_le : ∀ n, n ≤ 5 → fac n ≤ 120 := by decide
/-- is an order of counting right? -/
def rtB (I : Is) (NH : Nat) (nd : Int32) (mi : Nat → Int32) : Bool := decide (grt (crJ (upr I 70 mi) NH NH) = nd)
def mik (mi : Nat → Int32) (NH k : Nat) : Nat → Int32 := gmi (clC mi NH) (clN mi NH) k (fun l => mi (clC mi NH l)) (fun _ => -1)
theorem wor_cg {p q : Nat → Bool} : ∀ n, (∀ g, g < n → p g = q g) → wor p n = wor q n := by
  intro n
  induction n with
  | zero => intro _; rfl
  | succ n ih => intro h; rw [wor, wor, ih (fun g hg => h g (by omega)), h n (by omega)]
theorem cwP_cg {rn mi mi' : Nat → Int32} {h o : Nat} (h1 : mi h = mi' h) (h2 : mi o = mi' o) : cwP rn mi h o = cwP rn mi' h o := by
  unfold cwP ltr
  rw [h1, h2]
theorem crJ_cg {J J' : Is} (h5 : NH ≤ 5) (h9 : J 9 = J' 9) (h69 : J 69 = J' 69) (h11 : J 11 = J' 11) (h70 : ∀ j, j < 5 → J 70 j = J' 70 j) : grt (crJ J NH NH) = grt (crJ J' NH NH) := by
  have z : ∀ f : Nat → Int32, ∀ i, i < 5 → fillr f 5 0 i = 0 := fun f i hi => by unfold fillr; rw [if_pos hi]
  unfold crJ
  refine grt_cg (fun i hi => ?_) (fun i hi => ?_) (fun i hi => ?_)
  · rw [W3_5, W3_5]; unfold prf cfF; rw [z _ i hi, z _ i hi, h70 i hi, h9]
  · rw [W3_6, W3_6]; unfold prf cfT; rw [z _ i hi, z _ i hi, h70 i hi, h69]
  · rw [W3_7, W3_7]; unfold prf cfW; rw [z _ i hi, z _ i hi, h70 i hi, h11]
    rw [wor_cg NH (fun g hg => cwP_cg (h70 i hi) (h70 g (by omega)))]
def wrN (I : Is) (NH : Nat) (nd : Int32) : Nat → Int32 := sm (fun k => if rtB I NH nd (mik (I 10) NH k) then 0 else 1)
theorem l_X2_wr2 {nd o : Int32} {NO : Nat} (hN : (I 3 14).toInt = NH) (h5 : NH ≤ 5) (hO : o.toInt = NO) (hO2 : NO ≤ 120) {J0 : Is} (hJ0 : SB [65, 66, 67, 70, 71, 72] I J0) (hcs : ∀ l, l < clN (I 10) NH → J0 71 l = nI (clC (I 10) NH l)) : ∀ n i : Nat, i + n = NO → ∀ (J : Is) (w x : Int32), SB [65, 66, 67, 70, 72] J0 J → (∀ j, j < 5 → (∃ l, l < clN (I 10) NH ∧ clC (I 10) NH l = j) ∨ J 70 j = -1) → w = wrN I NH nd i → x.toInt = i → RR sc mX2_wrongOrders 4 0 0 (gI (cgF I L tg (wrN I NH nd NO))) 0 0 83 [(7, .int x), (6, .int w), (5, .int o), (4, .int (nI (clN (I 10) NH))), (3, .int nd), (0, .ref 68), (1, .ref 3), (2, .ref 64)] [] (XW J L tg) := by
  have hcl := clN_le (I 10) NH
  intro n
  induction n with
  | zero =>
    intro i hi J w x hS h70 ew hx
    refine r_iload (j := 0) rfl dX2_wrongOrders_83 ?_
    refine r_iload (j := 2) rfl dX2_wrongOrders_85 ?_
    refine r_icmp_ge (tgt := 118) dX2_wrongOrders_87 (by decide) (fun c87 => ?_) (fun c87 => ?_)
    · refine r_iload (j := 1) rfl dX2_wrongOrders_118 ?_
      refine w_iretG rfl (rfl) (Nat.le_of_ble_eq_true rfl) (Nat.le_of_ble_eq_true rfl) dX2_wrongOrders_120 ?_
      exact ⟨by rw [ew, show i = NO by omega], hJ0.tr (hS.mono (by decide)), rfl, rfl⟩
    · exfalso; ((try simp only [bI_0, bI_1, lc_lt, lc_gt, lc_le, lc_ge, Classical.not_not] at *); (try simp only [i_lt, i_le, i_eq, l_lt, l_le, l_eq, Int32.toInt_toInt64, Int32.reduceToInt, Int64.reduceToInt] at *); omega)
  | succ n ih =>
    intro i hi J w x hS h70 ew hx
    have hSI := hJ0.tr (hS.mono (T := [65, 66, 67, 70, 71, 72]) (by decide))
    have j71 : J 71 = J0 71 := hS 71 (by decide)
    have j10 : J 10 = I 10 := hSI 10 (by decide)
    have hcs2 : ∀ l, l < clN (I 10) NH → J 71 l = nI (clC (I 10) NH l) ∧ clC (I 10) NH l < 5 := fun l hl => ⟨by rw [j71]; exact hcs l hl, by have := clC_lt (I 10) NH l hl; omega⟩
    refine r_iload (j := 0) rfl dX2_wrongOrders_83 ?_
    refine r_iload (j := 2) rfl dX2_wrongOrders_85 ?_
    refine r_icmp_ge (tgt := 118) dX2_wrongOrders_87 (by decide) (fun c87 => ?_) (fun c87 => ?_)
    · exfalso; ((try simp only [bI_0, bI_1, lc_lt, lc_gt, lc_le, lc_ge, Classical.not_not] at *); (try simp only [i_lt, i_le, i_eq, l_lt, l_le, l_eq, Int32.toInt_toInt64, Int32.reduceToInt, Int64.reduceToInt] at *); omega)
    · refine r_aload_n (j := 5) rfl rfl dX2_wrongOrders_90 ?_
      refine r_aload_n (j := 6) rfl rfl dX2_wrongOrders_91 ?_
      refine r_iload (j := 3) rfl dX2_wrongOrders_92 ?_
      refine r_iload (j := 0) rfl dX2_wrongOrders_94 ?_
      refine w_cV3h (k_X2_giveMinutes (cs := clC (I 10) NH) (NC := clN (I 10) NH) (r := i) (by omega) rfl hcs2 (x_nI hx) (by omega)) (Nat.le_of_ble_eq_true rfl) lX2_86 vmX2_giveMinutes rfl (Nat.le_of_ble_eq_true rfl) (Nat.le_of_ble_eq_true rfl) (Nat.le_of_ble_eq_true rfl) dX2_wrongOrders_96 (fun J96 K96 t96 h96 => ?_)
      obtain ⟨g70, gS, gK, gt⟩ := h96; subst gK gt; rw [j10] at g70
      refine r_aload_n (j := 5) rfl rfl dX2_wrongOrders_99 ?_
      refine r_aload_n (j := 6) rfl rfl dX2_wrongOrders_100 ?_
      refine r_aload_n (j := 7) rfl rfl dX2_wrongOrders_101 ?_
      refine r_iload_n (j := 4) rfl rfl dX2_wrongOrders_102 ?_
      have hS3 : SB [65, 66, 67, 70, 72] J0 J96 := hS.tr (gS.mono (by decide))
      have hSI3 := hJ0.tr (hS3.mono (T := [65, 66, 67, 70, 71, 72]) (by decide))
      have hN3 : (J96 3 14).toInt = NH := by rw [hSI3 3 (by decide)]; exact hN
      have hq : grt (crJ J96 NH NH) = grt (crJ (upr I 70 (mik (I 10) NH i)) NH NH) := by
        refine crJ_cg h5 ?_ ?_ ?_ (fun j hj => ?_)
        · rw [hSI3 9 (by decide), upr_n _ _ (by decide)]
        · rw [hSI3 69 (by decide), upr_n _ _ (by decide)]
        · rw [hSI3 11 (by decide), upr_n _ _ (by decide)]
        · rw [upr_s, g70]
          exact gmi_m _ _ _ _ _ j (h70 j hj)
      have h70b : ∀ j, j < 5 → (∃ l, l < clN (I 10) NH ∧ clC (I 10) NH l = j) ∨ J96 70 j = -1 := by
        intro j hj
        rcases h70 j hj with z | z
        · exact Or.inl z
        · by_cases hl : ∃ l, l < clN (I 10) NH ∧ clC (I 10) NH l = j
          · exact Or.inl hl
          · right
            rw [g70, gmi_o _ _ _ _ j (fun l hl2 e => hl ⟨l, hl2, e⟩)]
            exact z
      refine w_cV3s (k_X2_canBeRight hN3 h5) (Nat.le_of_ble_eq_true rfl) lX2_49 vmX2_canBeRight rfl (Nat.le_of_ble_eq_true rfl) (Nat.le_of_ble_eq_true rfl) (Nat.le_of_ble_eq_true rfl) dX2_wrongOrders_103 (fun J103 K103 hJ103 hK103 => ?_)
      subst hK103
      refine r_if_ne (tgt := 112) dX2_wrongOrders_106 (by decide) (fun c106 => ?_) (fun c106 => ?_)
      · refine r_iinc (j := 0) (lv' := fun z => [(7, .int z), (6, .int w), (5, .int o), (4, .int (nI (clN (I 10) NH))), (3, .int nd), (0, .ref 68), (1, .ref 3), (2, .ref 64)]) dX2_wrongOrders_112 rfl (Nat.le_of_ble_eq_true rfl) (fun _ => rfl) (fun x7_112 ex7_112 => ?_)
        refine r_goto (tgt := 83) dX2_wrongOrders_115 (by decide) ?_
        rw [hq] at c106
        have e : rtB I NH nd (mik (I 10) NH i) = true := decide_eq_true (bI_1.mp c106)
        refine ih (i + 1) (by omega) _ _ _ (by rw [hJ103]; exact hS3.tr ((W3_SB _ _ _ _).mono (by decide))) ?_ ?_ (by rw [ex7_112]; exact i_inc hx (by omega))
        · intro j hj
          rw [hJ103]; unfold crJ; rw [W3_n _ _ _ _ (by decide) (by decide) (by decide)]
          exact h70b j hj
        · show _ = wrN I NH nd i + (if rtB I NH nd (mik (I 10) NH i) then 0 else 1)
          rw [if_pos e, ew, Int32.add_zero]
      · refine r_iinc (j := 1) (lv' := fun z => [(6, .int z), (7, .int x), (5, .int o), (4, .int (nI (clN (I 10) NH))), (3, .int nd), (0, .ref 68), (1, .ref 3), (2, .ref 64)]) dX2_wrongOrders_109 rfl (Nat.le_of_ble_eq_true rfl) (fun _ => rfl) (fun x6_109 ex6_109 => ?_)
        refine r_iinc (j := 1) (lv' := fun z => [(7, .int z), (6, .int x6_109), (5, .int o), (4, .int (nI (clN (I 10) NH))), (3, .int nd), (0, .ref 68), (1, .ref 3), (2, .ref 64)]) dX2_wrongOrders_112 rfl (Nat.le_of_ble_eq_true rfl) (fun _ => rfl) (fun x7_112 ex7_112 => ?_)
        refine r_goto (tgt := 83) dX2_wrongOrders_115 (by decide) ?_
        rw [hq] at c106
        have e : ¬ rtB I NH nd (mik (I 10) NH i) = true := fun z => bI_0.mp c106 (of_decide_eq_true z)
        refine ih (i + 1) (by omega) _ _ _ (by rw [hJ103]; exact hS3.tr ((W3_SB _ _ _ _).mono (by decide))) ?_ ?_ (by rw [ex7_112]; exact i_inc hx (by omega))
        · intro j hj
          rw [hJ103]; unfold crJ; rw [W3_n _ _ _ _ (by decide) (by decide) (by decide)]
          exact h70b j hj
        · show _ = wrN I NH nd i + (if rtB I NH nd (mik (I 10) NH i) then 0 else 1)
          rw [if_neg e, ex6_109, ew]
          rfl
theorem l_X2_wr1 {nd : Int32} (hN : (I 3 14).toInt = NH) (h5 : NH ≤ 5) : ∀ n i : Nat, i + n = NH → ∀ (J : Is) (x4 x5 x : Int32), SB [71] I J → (∀ l, l < clN (I 10) i → J 71 l = nI (clC (I 10) i l)) → x4 = nI (clN (I 10) i) → x5 = nI (fac (clN (I 10) i)) → x.toInt = i → RR sc mX2_wrongOrders 4 0 0 (gI (cgF I L tg (wrN I NH nd (fac (clN (I 10) NH))))) 0 0 24 [(6, .int x), (5, .int x5), (4, .int x4), (3, .int nd), (0, .ref 68), (1, .ref 3), (2, .ref 64)] [] (XW J L tg) := by
  intro n
  induction n with
  | zero =>
    intro i hi J x4 x5 x hS hcs e4 e5 hx
    have e : i = NH := by omega
    subst e
    subst e4
    have hNJ : (J 3 14).toInt = i := by rw [hS 3 (by decide)]; exact hN
    have hcl := clN_le (I 10) i
    have hf := fac_le (clN (I 10) i) (by omega)
    refine r_iload (j := 0) rfl dX2_wrongOrders_24 ?_
    refine r_aload_n (j := 5) rfl rfl dX2_wrongOrders_26 ?_
    refine w_getI fX2_30 rfl dX2_wrongOrders_27 ?_
    refine r_icmp_ge (tgt := 69) dX2_wrongOrders_30 (by decide) (fun c30 => ?_) (fun c30 => ?_)
    · refine r_aload_n (j := 4) rfl rfl dX2_wrongOrders_69 ?_
      refine w_getR (b := 70) fX2_15 rfl rfl dX2_wrongOrders_70 ?_
      refine r_iconst (v := (-1)) rfl dX2_wrongOrders_73 ?_
      refine w_cS2v (k_J7_fill_53178 (N := 5) rfl (by decide)) (Nat.le_of_ble_eq_true rfl) lX2_24 mtJ7_fill_53178 (Nat.le_of_ble_eq_true rfl) (Nat.le_of_ble_eq_true rfl) (Nat.le_of_ble_eq_true rfl) dX2_wrongOrders_74 (fun J74 K74 hJ74 hK74 => ?_)
      subst hK74
      refine r_iconst (v := 0) rfl dX2_wrongOrders_77 ?_
      refine r_istore (lv' := fun z => [(6, .int z), (5, .int x5), (4, .int (nI (clN (I 10) i))), (3, .int nd), (0, .ref 68), (1, .ref 3), (2, .ref 64)]) dX2_wrongOrders_78 (Nat.le_of_ble_eq_true rfl) (fun _ => rfl) (fun x6_78 ex6_78 => ?_)
      refine r_iconst (v := 0) rfl dX2_wrongOrders_80 ?_
      refine r_istore (lv' := fun z => [(7, .int z), (6, .int x6_78), (5, .int x5), (4, .int (nI (clN (I 10) i))), (3, .int nd), (0, .ref 68), (1, .ref 3), (2, .ref 64)]) dX2_wrongOrders_81 (Nat.le_of_ble_eq_true rfl) (fun _ => rfl) (fun x7_81 ex7_81 => ?_)
      refine l_X2_wr2 hN h5 (by rw [e5, nI_toInt (by omega)]) hf (J0 := J74) ?_ ?_ _ 0 (Nat.zero_add _) J74 _ _ SB.rf ?_ (by rw [ex6_78]; rfl) (by rw [ex7_81]; rfl)
      · rw [hJ74]; exact (hS.mono (by decide)).upr (by decide)
      · intro l hl; rw [hJ74, upr_n _ _ (by decide)]; exact hcs l hl
      · intro j hj
        right
        rw [hJ74, upr_s]
        unfold fillr
        rw [if_pos hj]
    · exfalso; ((try simp only [bI_0, bI_1, lc_lt, lc_gt, lc_le, lc_ge, Classical.not_not] at *); (try simp only [i_lt, i_le, i_eq, l_lt, l_le, l_eq, Int32.toInt_toInt64, Int32.reduceToInt, Int64.reduceToInt] at *); omega)
  | succ n ih =>
    intro i hi J x4 x5 x hS hcs e4 e5 hx
    have cx := cl_of hx
    have hin := up_in (N := 5) hx (by omega)
    have hNJ : (J 3 14).toInt = NH := by rw [hS 3 (by decide)]; exact hN
    have j10 : J 10 = I 10 := hS 10 (by decide)
    have hcl := clN_le (I 10) i
    subst e4
    refine r_iload (j := 0) rfl dX2_wrongOrders_24 ?_
    refine r_aload_n (j := 5) rfl rfl dX2_wrongOrders_26 ?_
    refine w_getI fX2_30 rfl dX2_wrongOrders_27 ?_
    refine r_icmp_ge (tgt := 69) dX2_wrongOrders_30 (by decide) (fun c30 => ?_) (fun c30 => ?_)
    · exfalso; ((try simp only [bI_0, bI_1, lc_lt, lc_gt, lc_le, lc_ge, Classical.not_not] at *); (try simp only [i_lt, i_le, i_eq, l_lt, l_le, l_eq, Int32.toInt_toInt64, Int32.reduceToInt, Int64.reduceToInt] at *); omega)
    · refine r_aload_n (j := 5) rfl rfl dX2_wrongOrders_33 ?_
      refine w_getR (b := 10) fX2_36 rfl rfl dX2_wrongOrders_34 ?_
      refine r_iload (j := 0) rfl dX2_wrongOrders_37 ?_
      refine w_iald rfl (by first | assumption | (rw [vp_in_iff]; ((try simp only [bI_0, bI_1, lc_lt, lc_gt, lc_le, lc_ge, Classical.not_not] at *); (try simp only [i_lt, i_le, i_eq, l_lt, l_le, l_eq, Int32.toInt_toInt64, Int32.reduceToInt, Int64.reduceToInt] at *); omega))) dX2_wrongOrders_39 ?_
      refine r_iconst (v := (-1)) rfl dX2_wrongOrders_40 ?_
      refine r_icmp_eq (tgt := 63) dX2_wrongOrders_41 (by decide) (fun c41 => ?_) (fun c41 => ?_)
      · refine r_iinc (j := 0) (lv' := fun z => [(6, .int z), (5, .int x5), (4, .int (nI (clN (I 10) i))), (3, .int nd), (0, .ref 68), (1, .ref 3), (2, .ref 64)]) dX2_wrongOrders_63 rfl (Nat.le_of_ble_eq_true rfl) (fun _ => rfl) (fun x6_63 ex6_63 => ?_)
        refine r_goto (tgt := 24) dX2_wrongOrders_66 (by decide) ?_
        rw [cx, j10] at c41
        refine ih (i + 1) (by omega) _ _ _ _ hS ?_ ?_ ?_ (by rw [ex6_63]; exact i_inc hx (by omega))
        · rw [clN, clC, if_pos c41, if_pos c41]; exact hcs
        · rw [clN, if_pos c41]
        · rw [clN, if_pos c41]; exact e5
      · refine r_aload_n (j := 4) rfl rfl dX2_wrongOrders_44 ?_
        refine w_getR (b := 71) fX2_18 rfl rfl dX2_wrongOrders_45 ?_
        refine r_iload (j := 2) rfl dX2_wrongOrders_48 ?_
        refine r_iload (j := 0) rfl dX2_wrongOrders_50 ?_
        refine w_iast rfl (vp_in_nI (by omega) (by omega)) dX2_wrongOrders_52 (fun J52 hJ52 => ?_)
        refine r_iinc (j := 2) (lv' := fun z => [(4, .int z), (6, .int x), (5, .int x5), (3, .int nd), (0, .ref 68), (1, .ref 3), (2, .ref 64)]) dX2_wrongOrders_53 rfl (Nat.le_of_ble_eq_true rfl) (fun _ => rfl) (fun x4_53 ex4_53 => ?_)
        refine r_iload (j := 2) rfl dX2_wrongOrders_56 ?_
        refine r_iload (j := 0) rfl dX2_wrongOrders_58 ?_
        refine r_imul dX2_wrongOrders_60 ?_
        refine r_istore (lv' := fun z => [(5, .int z), (4, .int x4_53), (6, .int x), (3, .int nd), (0, .ref 68), (1, .ref 3), (2, .ref 64)]) dX2_wrongOrders_61 (Nat.le_of_ble_eq_true rfl) (fun _ => rfl) (fun x5_61 ex5_61 => ?_)
        refine r_iinc (j := 2) (lv' := fun z => [(6, .int z), (5, .int x5_61), (4, .int x4_53), (3, .int nd), (0, .ref 68), (1, .ref 3), (2, .ref 64)]) dX2_wrongOrders_63 rfl (Nat.le_of_ble_eq_true rfl) (fun _ => rfl) (fun x6_63 ex6_63 => ?_)
        refine r_goto (tgt := 24) dX2_wrongOrders_66 (by decide) ?_
        rw [cx, j10] at c41
        refine ih (i + 1) (by omega) _ _ _ _ ?_ ?_ ?_ ?_ (by rw [ex6_63]; exact i_inc hx (by omega))
        · rw [hJ52]; exact hS.up (by decide)
        · rw [clN, clC, if_neg c41, if_neg c41, hJ52, up_s, nI_clamp (by omega), x_nI hx]
          intro l hl
          rw [vu_eq]
          show _ = nI (if l = clN (I 10) i then i else clC (I 10) i l)
          by_cases e : l = clN (I 10) i
          · rw [if_pos e, if_pos e]
          · rw [if_neg e, if_neg e]; exact hcs l (by omega)
        · rw [clN, if_neg c41, ex4_53]; exact nI_1 _
        · rw [clN, if_neg c41, ex5_61, ex4_53, e5]
          show _ = nI (fac (clN (I 10) i) * (clN (I 10) i + 1))
          rw [← pk_mul]
          exact congrArg _ (nI_1 _)
theorem k_X2_wrongOrders (hN : (I 3 14).toInt = NH) (h5 : NH ≤ 5) : Con sc mX2_wrongOrders 4 0 0 [.ref 68, .ref 3, .ref 64] (XW I L tg) (gI (cgF I L tg (if 10 < (msS I NH).toInt then -3 else wrN I NH (msS I NH) (fac (clN (I 10) NH))))) := by
  refine Con_of (by decide) (Nat.le_of_ble_eq_true rfl) ?_
  refine r_aload_n (j := 0) rfl rfl dX2_wrongOrders_0 ?_
  refine r_aload_n (j := 1) rfl rfl dX2_wrongOrders_1 ?_
  refine w_cV1p (k_X2_missingAtCounts hN h5) (Nat.le_of_ble_eq_true rfl) lX2_39 vmX2_missingAtCounts rfl (Nat.le_of_ble_eq_true rfl) (Nat.le_of_ble_eq_true rfl) (Nat.le_of_ble_eq_true rfl) dX2_wrongOrders_2 ?_
  refine r_istore_n (lv' := fun z => [(3, .int z), (0, .ref 68), (1, .ref 3), (2, .ref 64)]) dX2_wrongOrders_5 rfl (Nat.le_of_ble_eq_true rfl) (fun _ => rfl) (fun x3_5 ex3_5 => ?_)
  refine r_iload_n (j := 0) rfl rfl dX2_wrongOrders_6 ?_
  refine r_bipush (v := 10) rfl dX2_wrongOrders_7 ?_
  refine r_icmp_le (tgt := 15) dX2_wrongOrders_9 (by decide) (fun c9 => ?_) (fun c9 => ?_)
  · refine r_iconst (v := 0) rfl dX2_wrongOrders_15 ?_
    refine r_istore (lv' := fun z => [(4, .int z), (3, .int x3_5), (0, .ref 68), (1, .ref 3), (2, .ref 64)]) dX2_wrongOrders_16 (Nat.le_of_ble_eq_true rfl) (fun _ => rfl) (fun x4_16 ex4_16 => ?_)
    refine r_iconst (v := 1) rfl dX2_wrongOrders_18 ?_
    refine r_istore (lv' := fun z => [(5, .int z), (4, .int x4_16), (3, .int x3_5), (0, .ref 68), (1, .ref 3), (2, .ref 64)]) dX2_wrongOrders_19 (Nat.le_of_ble_eq_true rfl) (fun _ => rfl) (fun x5_19 ex5_19 => ?_)
    refine r_iconst (v := 0) rfl dX2_wrongOrders_21 ?_
    refine r_istore (lv' := fun z => [(6, .int z), (5, .int x5_19), (4, .int x4_16), (3, .int x3_5), (0, .ref 68), (1, .ref 3), (2, .ref 64)]) dX2_wrongOrders_22 (Nat.le_of_ble_eq_true rfl) (fun _ => rfl) (fun x6_22 ex6_22 => ?_)
    rw [ex3_5, i_le] at c9
    have c9 : (msS I NH).toInt ≤ 10 := c9
    rw [if_neg (show ¬ 10 < (msS I NH).toInt by omega), ← ex3_5]
    exact l_X2_wr1 hN h5 _ 0 (Nat.zero_add _) _ _ _ _ SB.rf (fun l hl => absurd hl (Nat.not_lt_zero _)) (by rw [ex4_16]; rfl) (by rw [ex5_19]; rfl) (by rw [ex6_22]; rfl)
  · refine r_bipush (v := (-3)) rfl dX2_wrongOrders_12 ?_
    refine w_iretG rfl (rfl) (Nat.le_of_ble_eq_true rfl) (Nat.le_of_ble_eq_true rfl) dX2_wrongOrders_14 ?_
    rw [ex3_5, i_le] at c9; have c9 : ¬ (msS I NH).toInt ≤ 10 := c9; exact ⟨by rw [if_pos (by omega)], SB.rf, rfl, rfl⟩
theorem k_X11_wrong (hN : (I 3 14).toInt = NH) (h5 : NH ≤ 5) : Con sc mX11_wrong 5 0 0 [.ref 0] (XW I L tg) (gI (cgF I L tg (if 10 < (msS I NH).toInt then -3 else wrN I NH (msS I NH) (fac (clN (I 10) NH))))) := by
  refine Con_of (by decide) (Nat.le_of_ble_eq_true rfl) ?_
  refine r_aload_n (j := 0) rfl rfl dX11_wrong_0 ?_
  refine w_getR (b := 68) fX11_56 rfl rfl dX11_wrong_1 ?_
  refine r_aload_n (j := 0) rfl rfl dX11_wrong_4 ?_
  refine w_getR (b := 3) fX11_19 rfl rfl dX11_wrong_5 ?_
  refine r_aload_n (j := 0) rfl rfl dX11_wrong_8 ?_
  refine w_getR (b := 64) fX11_49 rfl rfl dX11_wrong_9 ?_
  refine w_cV2g (k_X2_wrongOrders hN h5) (Nat.le_of_ble_eq_true rfl) lX11_219 vmX2_wrongOrders rfl (Nat.le_of_ble_eq_true rfl) (Nat.le_of_ble_eq_true rfl) (Nat.le_of_ble_eq_true rfl) dX11_wrong_12 (fun v12 J12 K12 t12 h12 => ?_)
  obtain ⟨hv, hJ, hK, ht⟩ := h12
  refine w_iretG rfl (rfl) (Nat.le_of_ble_eq_true rfl) (Nat.le_of_ble_eq_true rfl) dX11_wrong_15 ?_
  exact ⟨hv, hJ, hK, ht⟩
end
