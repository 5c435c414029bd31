/-! best: the rows of both; the step -/
section
variable {sc : Sc} {I J : Is} {L K : Ls} {tg : Nat} {out out' bef : Nat → Int32 → Int32} {P : Nat}
theorem prs_j {la : Nat → Int32} {lf j : Nat} {m oth : Int32} (hj : j < 8) (h : fsk (lnp la out P lf m oth) P 0 = nI j) : prs la out P lf m oth = j := by
  unfold prs
  have : iMax 0 (nI j) = nI j := by
    apply Int32.toInt_inj.mp
    rw [iMax_i, nI_toInt (by omega), show (0 : Int32).toInt = 0 from rfl]
    omega
  rw [h, this, nI_clamp (by omega)]
theorem row_1 {lf sn mn i : Nat} {m goal : Int32} {base : Nat → Int32} (h8 : P ≤ 8) (hO : outOk out' P) (hb : befOk out' bef P) (hf : ∀ p m, p < P → out p m = out' p m) (hg : 0 ≤ goal.toInt ∧ goal.toInt ≤ 999) (hmn : mn ≤ P) (hi : i < mn) (hc : cmpl P lf sn) (hm : 0 ≤ m.toInt ∧ m.toInt ≤ 10000) (hcan : cando out' P lf m (mn - i) goal) : ∃ j, j < P ∧ prs (laT bef P goal base (2 ^ P)) out P lf m (nI mn - nI i - 1) = j ∧ chW out' P mn goal (sn, m) i = j ∧ ldB out' P sn m (mn - i - 1) goal j = true ∧ nxt out' P lf m (mn - i - 1) goal j := by
  have e1 : nI mn - nI i - 1 = nI (mn - i - 1) := by rw [pk_sub (by omega), nI_pr (by omega)]
  have hn : ∀ p, p < P → (ldB out' P sn m (mn - i - 1) goal p = true ↔ nxt out' P lf m (mn - i - 1) goal p) := fun p hp => ldB_nxt h8 hO hg hc hp hm
  obtain ⟨p, hp, np⟩ := can_nxt (k := mn - i - 1) h8 (by rw [show mn - i - 1 + 1 = mn - i by omega]; exact hcan)
  have ef : fsk (lnp (laT bef P goal base (2 ^ P)) out P lf m (nI (mn - i - 1))) P 0 = fsk (ldB out' P sn m (mn - i - 1) goal) P 0 := by
    refine fsk_cg P 0 (fun j _ hj => ?_)
    apply Bool.eq_iff_iff.mpr
    rw [hn j (by omega)]
    exact lnp_nxt h8 hO hb hf hg hc.1 (by omega) (by omega) hm
  rcases fsk_rng (ldB out' P sn m (mn - i - 1) goal) P 0 with ⟨-, g2⟩ | ⟨j, g1, g2, g3, g4, -⟩
  · have := (hn p hp).mpr np
    rw [g2 p (by omega) (by omega)] at this
    cases this
  · refine ⟨j, by omega, ?_, ?_, g4, (hn j (by omega)).mp g4⟩
    · rw [e1]
      exact prs_j (by omega) (by rw [ef, g3])
    · show nN (fsk (ldB out' P sn m (mn - i - 1) goal) P 0) = j
      rw [g3]
      exact nI_clamp (by omega)
theorem row_e {mn : Nat} {goal : Int32} {base : Nat → Int32} (h8 : P ≤ 8) (hO : outOk out' P) (hb : befOk out' bef P) (hf : ∀ p m, p < P → out p m = out' p m) (hg : 0 ≤ goal.toInt ∧ goal.toInt ≤ 999) (hmn : mn ≤ P) (h0 : cando out' P (2 ^ P - 1) 0 mn goal) : ∀ i, i ≤ mn → cmpl P (flS (laT bef P goal base (2 ^ P)) out P mn i).1 (brS out' P mn goal i).1 ∧ (flS (laT bef P goal base (2 ^ P)) out P mn i).2 = (brS out' P mn goal i).2 ∧ (0 ≤ (brS out' P mn goal i).2.toInt ∧ (brS out' P mn goal i).2.toInt ≤ 623 * i) ∧ cando out' P (flS (laT bef P goal base (2 ^ P)) out P mn i).1 (brS out' P mn goal i).2 (mn - i) goal := by
  intro i
  induction i with
  | zero => intro _; exact ⟨cmpl_0, rfl, ⟨by show 0 ≤ (0 : Int32).toInt; decide, by show (0 : Int32).toInt ≤ _; decide⟩, h0⟩
  | succ i ih =>
    intro hi
    obtain ⟨a1, a2, a3, a4⟩ := ih (by omega)
    obtain ⟨j, j1, j2, j3, j4, j5⟩ := row_1 (base := base) h8 hO hb hf hg hmn (i := i) (by omega) a1 (by omega) a4
    have j3 : chW out' P mn goal (brS out' P mn goal i) i = j := j3
    have q := (hO j j1).1 _ a3.1 (by omega)
    rw [flS, brS, a2, j2, j3]
    refine ⟨cmpl_s a1, hf j _ j1, ⟨?_, ?_⟩, ?_⟩
    · show 0 ≤ (out' j (brS out' P mn goal i).2).toInt
      omega
    · show (out' j (brS out' P mn goal i).2).toInt ≤ _
      omega
    · rw [show mn - (i + 1) = mn - i - 1 by omega]
      exact nxt_can j5
theorem row_w {mn i : Nat} {goal : Int32} {base : Nat → Int32} (h8 : P ≤ 8) (hO : outOk out' P) (hb : befOk out' bef P) (hf : ∀ p m, p < P → out p m = out' p m) (hg : 0 ≤ goal.toInt ∧ goal.toInt ≤ 999) (hmn : mn ≤ P) (h0 : cando out' P (2 ^ P - 1) 0 mn goal) (hi : i < mn) : flW (laT bef P goal base (2 ^ P)) out P mn i = brW out' P mn goal i ∧ flO (laT bef P goal base (2 ^ P)) out P mn i = brO out' P mn goal i ∧ ∃ w, w < P ∧ ldB out' P (brS out' P mn goal i).1 (brS out' P mn goal i).2 (mn - i - 1) goal w = true := by
  obtain ⟨a1, a2, a3, a4⟩ := row_e (base := base) h8 hO hb hf hg hmn h0 i (by omega)
  obtain ⟨j, j1, j2, j3, j4, -⟩ := row_1 (base := base) h8 hO hb hf hg hmn hi a1 (by omega) a4
  have j3 : chW out' P mn goal (brS out' P mn goal i) i = j := j3
  refine ⟨?_, (row_e (base := base) h8 hO hb hf hg hmn h0 (i + 1) (by omega)).2.1, j, j1, j4⟩
  unfold flW brW
  rw [a2, j2, j3]
theorem go_ok {t : Int32} (h8 : P ≤ 8) (hO : outOk out P) (ht : 0 ≤ t.toInt ∧ t.toInt ≤ 999) : (0 ≤ (nGo out P t).toInt ∧ (nGo out P t).toInt ≤ 999) ∧ cando out P (2 ^ P - 1) 0 (nMn out P t) (nGo out P t) := by
  have hle : (nGo out P t).toInt ≤ t.toInt := by
    rcases (bm_c (P := P) (T := nT0 out P) (t := t) P).1 with z | z
    · have z : nMn out P t = 0 := z
      unfold nGo
      rw [z]
      exact i_le.mp (ea_0 ht)
    · exact i_le.mp z
  obtain ⟨s, s1, s2, s3⟩ := (ea_le (T := nT0 out P) (k := nMn out P t) (u := (nGo out P t).toInt) (by omega) (2 ^ P)).mp (Int.le_refl _)
  have r := foT_rng (P := P) (gone := 0) (time := 0) (base := fun _ => 0) (n := 2 ^ P) hO ⟨by decide, by decide⟩ s s1
  have r : 0 ≤ (nT0 out P s).toInt ∧ _ := r
  refine ⟨⟨by omega, by omega⟩, ?_⟩
  obtain ⟨f1, -⟩ := foT_ok (gone := 0) (time := 0) (base := fun _ => 0) h8 hO ⟨by decide, by decide⟩ s s1 (fun j _ => Nat.zero_testBit j)
  obtain ⟨l, l1, l2⟩ := (f1 _ (by omega)).mp s3
  exact ⟨s, l, s1, tb_all s1, s2, l1, l2⟩
theorem st_best {n : Nat} {t : Int32} (h : Inv n I L) : Bth sc mX11_best mX12_best 5 3 [.int t] n I L tg := by
  by_cases hc : 0 ≤ t.toInt ∧ t.toInt ≤ 999
  · have hN := h.2.2.2.2.2.2.1
    obtain ⟨P', R', _, _, b1, _, _, _, _, hf⟩ := ou_e hN
    obtain ⟨P, R, q, p8, r5, q8, e1, e2, e3, e4, e5, e6, hp, hr, ho, hgo⟩ := id hN
    have eP : P' = P := (nI_ij (by omega) (by omega)).mp (b1.symm.trans e1)
    subst eP
    have hO := ouM_ok ho
    have hb : befOk (ouM I) (befI I) P' := fun p hp m u x1 x2 x3 x4 => by
      rw [← hf p m hp]
      exact (ob_ok hN e1 p8).2 p hp m u x1 x2 x3 x4
    have hE : ∀ s, s < 2 ^ P' → erT (outI I) P' (I 90) (2 ^ P') s = nT0 (ouM I) P' s := fun s hs => by
      rw [erT_og hf]
      exact er_fo p8 hO s hs
    have hfb := fb_n p8 hc hE
    obtain ⟨gr, gc⟩ := go_ok p8 hO hc
    have hmn : nMn (ouM I) P' t ≤ P' := bmM_le _ _ _ _
    have h0 : eaM (nT0 (ouM I) P') 0 (2 ^ P') ≤ t := ea_0 hc
    have hw := fun i hi => row_w (base := I 91) (out := outI I) (i := i) p8 hO hb hf gr hmn gc hi
    have hA := k_X11_best_y (sc := sc) (L := L) (tg := tg) hc e1 p8 (by rw [e3, nI_toInt (by omega)]; omega) (by rw [e3, nI_toInt (by omega)]; omega)
    have hB : bsI I P' t = flI (upr (upr I 90 (erT (outI I) P' (I 90) (2 ^ P'))) 91 (laT (befI I) P' (nGo (ouM I) P' t) (I 91) (2 ^ P'))) P' (nMn (ouM I) P' t) (nMn (ouM I) P' t) := by
      unfold bsI
      rw [hfb]
    rw [hB, hfb] at hA
    generalize hmq : nMn (ouM I) P' t = mn at *
    generalize hgq : nGo (ouM I) P' t = goal at *
    generalize hEq : erT (outI I) P' (I 90) (2 ^ P') = E at *
    generalize hLq : laT (befI I) P' goal (I 91) (2 ^ P') = La at *
    have eo : outI (upr (upr I 90 E) 91 La) = outI I := by
      unfold outI
      rw [upr_n _ _ (show (84 : Nat) ≠ 91 by decide), upr_n _ _ (show (84 : Nat) ≠ 90 by decide), upr_n _ _ (show (85 : Nat) ≠ 91 by decide), upr_n _ _ (show (85 : Nat) ≠ 90 by decide), upr_n _ _ (show (86 : Nat) ≠ 91 by decide), upr_n _ _ (show (86 : Nat) ≠ 90 by decide), upr_n _ _ (show (87 : Nat) ≠ 91 by decide), upr_n _ _ (show (87 : Nat) ≠ 90 by decide)]
    have bn : ∀ k, k ≠ 84 → k ≠ 88 → k ≠ 89 → k ≠ 90 → k ≠ 91 → flI (upr (upr I 90 E) 91 La) P' mn mn k = I k := fun k z1 z2 z3 z4 z5 => by
      rw [fl_n _ _ _ _ z1 z2 z3, upr_n _ _ z5, upr_n _ _ z4]
    have b84 : ∀ k, k ≠ 9 → flI (upr (upr I 90 E) 91 La) P' mn mn 84 k = I 84 k := fun k z => by
      rw [fl_84 _ _ _ _ z, upr_n _ _ (by decide), upr_n _ _ (by decide)]
    have b849 : flI (upr (upr I 90 E) 91 La) P' mn mn 84 9 = nI mn := by
      unfold flI
      simp [up_eq, upr_eq, vu_eq]
    have b88 : ∀ i, i < mn → flI (upr (upr I 90 E) 91 La) P' mn mn 88 i = flW La (outI I) P' mn i := fun i hi => by
      unfold flI
      rw [eo]
      simp [upr_eq, prf, hi]
    have b89 : ∀ i, i < mn → flI (upr (upr I 90 E) 91 La) P' mn mn 89 i = flO La (outI I) P' mn i := fun i hi => by
      unfold flI
      rw [eo]
      simp [upr_eq, prf, hi]
    generalize flI (upr (upr I 90 E) 91 La) P' mn mn = B at *
    have om : ouM B = ouM I := by
      unfold ouM
      rw [bn 95 (by decide) (by decide) (by decide) (by decide) (by decide), bn 144 (by decide) (by decide) (by decide) (by decide) (by decide), bn 145 (by decide) (by decide) (by decide) (by decide) (by decide), bn 146 (by decide) (by decide) (by decide) (by decide) (by decide)]
    have ntB : ntOk B P' := by
      unfold ntOk
      rw [bn 95 (by decide) (by decide) (by decide) (by decide) (by decide), bn 144 (by decide) (by decide) (by decide) (by decide) (by decide), bn 145 (by decide) (by decide) (by decide) (by decide) (by decide), bn 146 (by decide) (by decide) (by decide) (by decide) (by decide)]
      exact ho
    have hM := k_X12_best_y (sc := sc) (I := B) (L := L) (tg := tg) (P := P') hc ntB (by rw [bn 95 (by decide) (by decide) (by decide) (by decide) (by decide)]; exact e2) p8 (by rw [om]; exact h0) (by rw [om, hmq, hgq]; exact fun i hi => (hw i hi).2.2)
    rw [om, hmq, hgq] at hM
    refine Run_r hA (Run_g hM (fun v J K tq z => ?_))
    obtain ⟨z1, ⟨R2, z2⟩, z3, z4⟩ := z
    refine ⟨z1, ?_⟩
    subst z3
    have jn : ∀ k, k ≠ 95 → k ≠ 147 → k ≠ 148 → k ≠ 149 → J k = B k := fun k y1 y2 y3 y4 => by
      rw [z2, up_n _ _ _ y1, mb_n _ _ _ _ _ _ (by omega)]
    have j95 : ∀ k, k ≠ 91 → J 95 k = B 95 k := fun k y => by
      rw [z2, up_s, vu_n _ _ y, mb_n _ _ _ _ _ _ (by decide)]
    have j91 : J 95 91 = nI mn := by rw [z2, up_s, vu_s]
    have j148 : ∀ i, i < mn → J 148 i = brW (ouM I) P' mn goal i := fun i hi => by
      rw [z2, up_n _ _ _ (by decide)]
      unfold mbI
      rw [om]
      simp [upr_eq, prf, hi]
    have j149 : ∀ i, i < mn → J 149 i = brO (ouM I) P' mn goal i := fun i hi => by
      rw [z2, up_n _ _ _ (by decide)]
      unfold mbI
      rw [om]
      simp [upr_eq, prf, hi]
    clear z2
    have jI : ∀ k, k ≠ 95 → k ≠ 147 → k ≠ 148 → k ≠ 149 → k ≠ 84 → k ≠ 88 → k ≠ 89 → k ≠ 90 → k ≠ 91 → J k = I k := fun k y1 y2 y3 y4 y5 y6 y7 y8 y9 => by
      rw [jn k y1 y2 y3 y4, bn k y5 y6 y7 y8 y9]
    have k95 : ∀ k, k ≠ 91 → J 95 k = I 95 k := fun k y => by
      rw [j95 k y, bn 95 (by decide) (by decide) (by decide) (by decide) (by decide)]
    have k84 : ∀ k, k ≠ 9 → J 84 k = I 84 k := fun k y => by
      rw [jn 84 (by decide) (by decide) (by decide) (by decide), b84 k y]
    refine Inv_n (Nat.le_succ n) h (fun a y1 y2 => jI a (by unfold scr at y1; omega) (by unfold scr at y1; omega) (by omega) (by omega) (by omega) (by omega) (by omega) (by unfold scr at y1; omega) (by unfold scr at y1; omega)) (fun k _ => by rw [jI 33 (by decide) (by decide) (by decide) (by decide) (by decide) (by decide) (by decide) (by decide) (by decide)]) (fun k y1 y2 => k95 k (by omega)) keL_r ⟨P', R, mn, p8, r5, by omega, by rw [k84 7 (by decide)]; exact e1, by rw [k95 83 (by decide)]; exact e2, by rw [k84 8 (by decide)]; exact e3, by rw [k95 84 (by decide)]; exact e4, by rw [jn 84 (by decide) (by decide) (by decide) (by decide)]; exact b849, j91, fun p hpp => ?_, fun r hrr => ?_, ?_, fun i hi => ⟨?_, ?_⟩⟩
    · rw [jI 85 (by decide) (by decide) (by decide) (by decide) (by decide) (by decide) (by decide) (by decide) (by decide), jI 144 (by decide) (by decide) (by decide) (by decide) (by decide) (by decide) (by decide) (by decide) (by decide)]
      exact hp p hpp
    · rw [jI 86 (by decide) (by decide) (by decide) (by decide) (by decide) (by decide) (by decide) (by decide) (by decide), jI 87 (by decide) (by decide) (by decide) (by decide) (by decide) (by decide) (by decide) (by decide) (by decide), jI 145 (by decide) (by decide) (by decide) (by decide) (by decide) (by decide) (by decide) (by decide) (by decide), jI 146 (by decide) (by decide) (by decide) (by decide) (by decide) (by decide) (by decide) (by decide) (by decide)]
      exact hr r hrr
    · unfold ntOk at ho ⊢
      rw [k95 84 (by decide), jI 144 (by decide) (by decide) (by decide) (by decide) (by decide) (by decide) (by decide) (by decide) (by decide), jI 145 (by decide) (by decide) (by decide) (by decide) (by decide) (by decide) (by decide) (by decide) (by decide), jI 146 (by decide) (by decide) (by decide) (by decide) (by decide) (by decide) (by decide) (by decide) (by decide)]
      exact ho
    · rw [jn 88 (by decide) (by decide) (by decide) (by decide), b88 i hi, j148 i hi]
      exact (hw i hi).1
    · rw [jn 89 (by decide) (by decide) (by decide) (by decide), b89 i hi, j149 i hi]
      exact (hw i hi).2.1
  · exact Bth_p h (k_X11_best_r hc) (k_X12_best_r hc) rfl
end
