/-! matchings and cuts, with the huts -/
section
variable {G : Gx}
theorem hu_sum {M : Mx} (hF : gFit G) (hV : Vl G M 99) (c : Nat → Bool) : smN (fun h => if c h then cwt (fun q => decide (M.2.1 q = srcv (10 + h))) (gS G) else 0) (gH G) = cwt (fun q => isHu M q && c (nN (M.2.1 q) - 100)) (gS G) := by
  have h5 := hF.2.1
  have key : ∀ S, S ≤ gS G → smN (fun h => if c h then cwt (fun q => decide (M.2.1 q = srcv (10 + h))) S else 0) (gH G) = cwt (fun q => isHu M q && c (nN (M.2.1 q) - 100)) S := by
    intro S
    induction S with
    | zero =>
      intro _
      have : ∀ n, smN (fun h => if c h then cwt (fun q => decide (M.2.1 q = srcv (10 + h))) 0 else 0) n = 0 := by
        intro n
        induction n with
        | zero => rfl
        | succ n ih => show smN _ n + (if c n then 0 else 0) = 0; rw [ih]; split <;> rfl
      exact this _
    | succ S ih =>
      intro hS
      show _ = cwt (fun q => isHu M q && c (nN (M.2.1 q) - 100)) S + (isHu M S && c (nN (M.2.1 S) - 100)).toNat
      rw [← ih (by omega)]
      have e1 : (isHu M S && c (nN (M.2.1 S) - 100)).toNat = smN (fun h => (decide (M.2.1 S = srcv (10 + h)) && c h).toNat) (gH G) := by
        rcases src_c hF hV (show S < gS G by omega) with ⟨w1, -, w2⟩ | ⟨s, w1, w2, -, -, w3, -⟩ | ⟨h, w1, -, w2, -, -, w3, w4⟩
        · rw [w2]
          have : smN (fun h => (decide (M.2.1 S = srcv (10 + h)) && c h).toNat) (gH G) = smN (fun _ => 0) (gH G) := smN_cg _ (fun h hh => by
            rw [decide_eq_false (by rw [w1]; exact fun z => srcv_nn (by omega) z.symm)]; rfl)
          rw [this]
          have z : ∀ n, smN (fun _ => 0) n = 0 := by intro n; induction n with | zero => rfl | succ n ih => show smN _ n + 0 = 0; rw [ih]
          rw [z]
          rfl
        · rw [w3]
          have : smN (fun h => (decide (M.2.1 S = srcv (10 + h)) && c h).toNat) (gH G) = smN (fun _ => 0) (gH G) := smN_cg _ (fun h hh => by
            have := hF.1
            rw [decide_eq_false (by rw [w2]; exact fun z => by have := srcv_inj (by omega) (by omega) z; omega)]; rfl)
          rw [this]
          have z : ∀ n, smN (fun _ => 0) n = 0 := by intro n; induction n with | zero => rfl | succ n ih => show smN _ n + 0 = 0; rw [ih]
          rw [z]
          rfl
        · rw [w3, w4, Nat.add_sub_cancel_left, Bool.true_and]
          have : smN (fun k => (decide (M.2.1 S = srcv (10 + k)) && c k).toNat) (gH G) = smN (fun k => (decide (h = k) && c k).toNat) (gH G) := smN_cg _ (fun k hk => by
            congr 2
            apply Bool.eq_iff_iff.mpr
            rw [decide_eq_true_iff, decide_eq_true_iff, w2]
            constructor
            · intro z; have := srcv_inj (by omega) (by omega) z; omega
            · intro z; rw [z])
          rw [this, smN_one, decide_eq_true w1, Bool.true_and]
      rw [e1, ← smN_add]
      refine smN_cg _ (fun k hk => ?_)
      show (if c k then cwt (fun q => decide (M.2.1 q = srcv (10 + k))) S + (decide (M.2.1 S = srcv (10 + k))).toNat else 0) = _
      cases hc : c k with
      | true => simp
      | false => simp
  exact key _ (Nat.le_refl _)
/-- how many begin at a hut -/
def bgN (M : Mx) (G : Gx) (h : Nat) : Nat := cwt (fun q => decide (M.2.1 q = srcv (10 + h))) (gS G)
theorem bg_i {M : Mx} (hF : gFit G) (hV : Vl G M 99) {h : Nat} (hh : h < gH G) : (M.2.2 h).toInt = bgN M G h := by
  have h5 := hF.2.1
  have := hV.2.2.2.1 h hh
  rw [if_neg (by omega)] at this
  unfold bgN
  omega
theorem bg_c {M : Mx} (hF : gFit G) (hV : Vl G M 99) {h : Nat} (hh : h < gH G) : bgN M G h + tnG G h ≤ mnG G h := by
  have h5 := hF.2.1
  have h10 := hF.1
  unfold mnG
  cases hc : gct G h with
  | true =>
    have h1 := hV.2.2.2.2 h hh
    rw [bg_i hF hV hh] at h1
    simp
    omega
  | false =>
    have z1 : bgN M G h = 0 := by
      have : bgN M G h = cwt (fun _ => false) (gS G) := cwt_cg _ (fun q hq => decide_eq_false (fun z => by
        rcases src_c hF hV hq with ⟨w1, -⟩ | ⟨s, w1, w2, -⟩ | ⟨k, w1, w2, w3, -⟩
        · rw [z] at w1; exact srcv_nn (by omega) w1
        · rw [z] at w2; have := srcv_inj (by omega) (by omega) w2; omega
        · rw [z] at w3; have := srcv_inj (by omega) (by omega) w3; rw [show k = h by omega, hc] at w2; cases w2))
      rw [this]
      have : ∀ n, cwt (fun _ => false) n = 0 := by intro n; induction n with | zero => rfl | succ n ih => show cwt _ n + 0 = 0; rw [ih]
      exact this _
    have z2 : tnG G h = 0 := by
      have : tnG G h = cwt (fun _ => false) (gS G) := cwt_cg _ (fun q hq => decide_eq_false (fun z => by
        have := (hF.2.2 q hq).2
        rw [z, hc] at this
        cases this))
      rw [this]
      have : ∀ n, cwt (fun _ => false) n = 0 := by intro n; induction n with | zero => rfl | succ n ih => show cwt _ n + 0 = 0; rw [ih]
      exact this _
    rw [z1, z2]
    exact Nat.zero_le _
/-- all places found one: no cut is below their number -/
theorem cut_all {M : Mx} (hF : gFit G) (hV : Vl G M 99) (ha : ∀ q, q < gS G → ¬ M.2.1 q = -1) (X : Nat → Bool) : gS G ≤ cuG G (mnG G) X := by
  have h5 := hF.2.1
  have h10 := hF.1
  have e0 : gS G = cwt (fun _ => true) (gS G) := (cwt_all _ (fun _ _ => rfl)).symm
  have h1 := cwt_or (A := fun _ => true) (B := fun q => (isSt M q && !X (gsh G (nN (M.2.1 q)))) || (isHu M q && !X (nN (M.2.1 q) - 100))) (C := bhG G X) (gS G) (fun q hq _ => by
    rcases src_c hF hV hq with ⟨w, -⟩ | ⟨s, w1, w2, w4, w5, w6, w3⟩ | ⟨h, w1, w2, w3, w4, w5, w6, w7⟩
    · exact absurd w (ha q hq)
    · cases hx : X (gsh G s) with
      | false => left; rw [w5, w3, hx]; rfl
      | true => exact Or.inr (bhG_i.mpr ⟨gsh G s, (hF.2.2 s w1).1, hx, wG_st hF w1 w4⟩)
    · cases hx : X h with
      | false => left; rw [w6, w7, Nat.add_sub_cancel_left, hx]; simp
      | true => exact Or.inr (bhG_i.mpr ⟨h, w1, hx, by unfold wG; rw [decide_eq_true w1, w2, w4]; rfl⟩))
  have h2 := cwt_or (A := fun q => (isSt M q && !X (gsh G (nN (M.2.1 q)))) || (isHu M q && !X (nN (M.2.1 q) - 100))) (B := fun q => isSt M q && !X (gsh G (nN (M.2.1 q)))) (C := fun q => isHu M q && !X (nN (M.2.1 q) - 100)) (gS G) (fun q _ h => by rw [Bool.or_eq_true] at h; exact h)
  have h3 : cwt (fun q => isSt M q && !X (gsh G (nN (M.2.1 q)))) (gS G) ≤ cwt (fun p => !X (gsh G p)) (gS G) := by
    refine cwt_inj (gS G) _ _ (gS G) (fun q => nN (M.2.1 q)) (fun q hq ha => ?_) (fun q q' hq hq' ha ha' e => ?_)
    · rw [Bool.and_eq_true] at ha
      rcases src_c hF hV hq with ⟨-, w, -⟩ | ⟨s, w1, w2, w4, -, -, w3⟩ | ⟨h, -, -, -, -, w, -⟩
      · rw [w] at ha; exact absurd ha.1 (by decide)
      · exact ⟨by show nN (M.2.1 q) < _; rw [w3]; exact w1, ha.2⟩
      · rw [w] at ha; exact absurd ha.1 (by decide)
    · rw [Bool.and_eq_true] at ha ha'
      rcases src_c hF hV hq with ⟨-, w, -⟩ | ⟨s, w1, w2, -, -, -, w3⟩ | ⟨h, -, -, -, -, w, -⟩
      · rw [w] at ha; exact absurd ha.1 (by decide)
      · rcases src_c hF hV hq' with ⟨-, w', -⟩ | ⟨s', w1', w2', -, -, -, w3'⟩ | ⟨h, -, -, -, -, w', -⟩
        · rw [w'] at ha'; exact absurd ha'.1 (by decide)
        · have e : nN (M.2.1 q) = nN (M.2.1 q') := e
          rw [w3, w3'] at e
          subst e
          rcases hV.2.1 s w1 (by omega) with ⟨-, v⟩ | ⟨q0, v1, v2, v3, v4⟩
          · exact absurd w2 (v q hq)
          · rw [v4 q hq w2, v4 q' hq' w2']
        · rw [w'] at ha'; exact absurd ha'.1 (by decide)
      · rw [w] at ha; exact absurd ha.1 (by decide)
  rw [← tn_sum hF X] at h3
  have h4 := hu_sum hF hV (fun h => !X h)
  have h5' : smN (fun h => if X h then 0 else tnG G h) (gH G) + smN (fun h => if (!X h) = true then cwt (fun q => decide (M.2.1 q = srcv (10 + h))) (gS G) else 0) (gH G) ≤ smN (fun h => if X h then 0 else mnG G h) (gH G) := by
    rw [← smN_add]
    refine smN_le _ (fun h hh => ?_)
    have := bg_c hF hV hh
    unfold bgN at this
    cases X h with
    | true => simp
    | false => simp; omega
  unfold cuG
  have e1 : cwt (fun _ => true) (gS G) = gS G := cwt_all _ (fun _ _ => rfl)
  omega
/-- one found none: a cut is below their number -/
theorem cut_no {M : Mx} {Z : Nat → Prop} {i : Nat} (hF : gFit G) (hV : Vl G M 99) (hZ : clZ G true M Z) (hi : i < gS G) (hzi : Z i) (hci : M.2.1 i = -1) : ∃ X, cuG G (mnG G) X < gS G := by
  have h5 := hF.2.1
  have h10 := hF.1
  obtain ⟨B, hB⟩ := to_bool Z
  obtain ⟨X, hX1, hX2⟩ := cut_Z hF (B := B)
  refine ⟨X, ?_⟩
  have h1 : cwt (fun p => !X (gsh G p)) (gS G) ≤ cwt (fun q => isSt M q && B q) (gS G) := by
    have inf : ∀ s, s < gS G → (!X (gsh G s)) = true → ∃ q, q < gS G ∧ M.1 s = nI q ∧ nN (M.1 s) = q ∧ M.2.1 q = srcv s ∧ isSt M q = true ∧ B q = true := by
      intro s hs ha
      obtain ⟨z, z1, z2, z3⟩ := (hX1 _ (hF.2.2 s hs).1).mp (by simpa using ha)
      unfold wG at z3
      rw [Bool.and_eq_true] at z3
      have hr : rch G true s z := ⟨Or.inl hs, by unfold hof; rw [if_pos (by omega)]; exact z3.2⟩
      obtain ⟨a1, a2⟩ := hZ z z1 ((hB z).mp z2) s hr
      obtain ⟨q, g1, g2, g3, g4, g5⟩ := nx_c hF hV hs (a1.1 (by omega))
      exact ⟨q, g1, g2, g3, g4, g5, (hB q).mpr (a2 q g1 g4)⟩
    refine cwt_inj (gS G) _ _ (gS G) (fun s => nN (M.1 s)) (fun s hs ha => ?_) (fun s s' hs hs' ha ha' e => ?_)
    · obtain ⟨q, g1, g2, g3, g4, g5, g6⟩ := inf s hs ha
      show nN (M.1 s) < _ ∧ (isSt M (nN (M.1 s)) && B (nN (M.1 s))) = true
      rw [g3, g5, g6]
      exact ⟨g1, rfl⟩
    · obtain ⟨q, g1, g2, g3, g4, g5, g6⟩ := inf s hs ha
      obtain ⟨q', k1, k2, k3, k4, k5, k6⟩ := inf s' hs' ha'
      have e : nN (M.1 s) = nN (M.1 s') := e
      rw [g3, k3] at e
      subst e
      exact srcv_inj (by omega) (by omega) (g4.symm.trans k4)
  rw [← tn_sum hF X] at h1
  have hs := hu_sum hF hV (fun h => !X h)
  have h2 : smN (fun h => if X h then 0 else mnG G h) (gH G) ≤ smN (fun h => if X h then 0 else tnG G h) (gH G) + smN (fun h => if (!X h) = true then cwt (fun q => decide (M.2.1 q = srcv (10 + h))) (gS G) else 0) (gH G) := by
    rw [← smN_add]
    refine smN_le _ (fun h hh => ?_)
    cases hx : X h with
    | true => simp
    | false =>
      simp
      unfold mnG
      cases hc : gct G h with
      | false => simp
      | true =>
        obtain ⟨z, z1, z2, z3⟩ := (hX1 h hh).mp hx
        unfold wG at z3
        rw [Bool.and_eq_true] at z3
        have hr : rch G true (10 + h) z := ⟨Or.inr ⟨rfl, by omega, by omega, by rw [Nat.add_sub_cancel_left]; exact hc⟩, by unfold hof; rw [if_neg (by omega), Nat.add_sub_cancel_left]; exact z3.2⟩
        have a1 := (hZ z z1 ((hB z).mp z2) (10 + h) hr).1.2 (by omega)
        rw [Nat.add_sub_cancel_left, bg_i hF hV hh] at a1
        unfold bgN at a1
        simp
        omega
  have h3 : cwt (fun q => isHu M q && !X (nN (M.2.1 q) - 100)) (gS G) ≤ cwt (fun q => isHu M q && B q) (gS G) := by
    refine cwt_mono _ (fun q hq ha => ?_)
    rw [Bool.and_eq_true] at ha
    rcases src_c hF hV hq with ⟨-, -, w⟩ | ⟨s, -, -, -, -, w, -⟩ | ⟨h, w1, w2, w3, w4, w5, w6, w7⟩
    · rw [w] at ha; exact absurd ha.1 (by decide)
    · rw [w] at ha; exact absurd ha.1 (by decide)
    · rw [w7, Nat.add_sub_cancel_left] at ha
      obtain ⟨z, z1, z2, z3⟩ := (hX1 h w1).mp (by simpa using ha.2)
      unfold wG at z3
      rw [Bool.and_eq_true] at z3
      have hr : rch G true (10 + h) z := ⟨Or.inr ⟨rfl, by omega, by omega, by rw [Nat.add_sub_cancel_left]; exact w2⟩, by unfold hof; rw [if_neg (by omega), Nat.add_sub_cancel_left]; exact z3.2⟩
      have a2 := (hZ z z1 ((hB z).mp z2) (10 + h) hr).2 q hq w3
      rw [w6, (hB q).mpr a2]
      rfl
  have h4 := cwt_dis (A := fun q => isSt M q && B q) (B := fun q => isHu M q && B q) (C := fun q => B q && decide (q ≠ i)) (gS G) (fun q hq ha => by
    rw [Bool.and_eq_true] at ha
    have : q ≠ i := fun z => by
      subst z
      rcases src_c hF hV hq with ⟨-, w, -⟩ | ⟨s, w1, w2, -⟩ | ⟨h, w1, -, w2, -⟩
      · rw [w] at ha; exact absurd ha.1 (by decide)
      · rw [w2] at hci; exact srcv_nn (by omega) hci
      · rw [w2] at hci; exact srcv_nn (by omega) hci
    rw [ha.2, decide_eq_true this]; rfl) (fun q hq ha => by
    rw [Bool.and_eq_true] at ha
    have : q ≠ i := fun z => by
      subst z
      rcases src_c hF hV hq with ⟨-, -, w⟩ | ⟨s, w1, w2, -⟩ | ⟨h, w1, -, w2, -⟩
      · rw [w] at ha; exact absurd ha.1 (by decide)
      · rw [w2] at hci; exact srcv_nn (by omega) hci
      · rw [w2] at hci; exact srcv_nn (by omega) hci
    rw [ha.2, decide_eq_true this]; rfl) (fun q hq ha => by
    rw [Bool.and_eq_true, Bool.and_eq_true] at ha
    rcases src_c hF hV hq with ⟨-, w, -⟩ | ⟨s, -, -, -, -, w, -⟩ | ⟨h, -, -, -, -, w, -⟩
    · rw [w] at ha; exact absurd ha.1.1 (by decide)
    · rw [w] at ha; exact absurd ha.2.1 (by decide)
    · rw [w] at ha; exact absurd ha.1.1 (by decide))
  have h6 := cwt_flip (f := B) (g := fun q => B q && decide (q ≠ i)) (p := i) (gS G) hi (fun q hq => by simp [hq])
  rw [(hB i).mpr hzi] at h6
  have h7 := cwt_dis (A := B) (B := fun q => !B q) (C := fun _ => true) (gS G) (fun _ _ _ => rfl) (fun _ _ _ => rfl) (fun q _ ha => by rw [ha.1] at ha; exact absurd ha.2 (by decide))
  have e1 : cwt (fun _ => true) (gS G) = gS G := cwt_all _ (fun _ _ => rfl)
  simp at h6
  simp at h4
  unfold cuG
  omega
theorem cut_full (hF : gFit G) (fr : Nat → Nat) : cuG G fr (fun _ => true) ≤ gS G := by
  unfold cuG
  have z : smN (fun h => if (fun _ => true) h = true then 0 else fr h) (gH G) = 0 := by
    have : ∀ n, smN (fun h => if (fun _ : Nat => true) h = true then 0 else fr h) n = 0 := by
      intro n
      induction n with
      | zero => rfl
      | succ n ih => show smN _ n + 0 = 0; rw [ih]
    exact this _
  rw [z, Nat.zero_add]
  exact cwt_le _ _
/-- what fewest says, in cuts -/
theorem feV_c {v : Int32} (hF : gFit G) (h : feV G v) : (v = -1 ∧ ∃ X, cuG G (mnG G) X < gS G) ∨ ((∀ X, gS G ≤ cuG G (mnG G) X) ∧ ∃ k : Nat, (∀ X, k ≤ cuG G (tnG G) X) ∧ (∃ X, cuG G (tnG G) X ≤ k) ∧ k ≤ gS G ∧ v.toInt = (gS G : Int) - k) := by
  have h5 := hF.2.1
  have h10 := hF.1
  rcases h with ⟨hv, M, Z, i, hV, hZ, hi, hz, hc⟩ | ⟨M1, Z, M, ⟨hV1, hst, hZ, hu⟩, hV, ha, hm, hv⟩
  · exact Or.inl ⟨hv, cut_no hF hV hZ hi hz hc⟩
  · right
    refine ⟨cut_all hF hV ha, kM G M, kM_cut hF hV, ?_, cwt_le _ _, ?_⟩
    · obtain ⟨X, hX⟩ := cut_1 hF hV1 hst hZ hu
      refine ⟨X, Nat.le_trans hX (cwt_mono _ (fun s hs h => ?_))⟩
      exact decide_eq_true (hm s hs (of_decide_eq_true h))
    · have h1 := hu_sum hF hV (fun _ => true)
      have h2 : cwt (fun q => isHu M q && true) (gS G) + kM G M = gS G := by
        rw [kM_st hF hV]
        have e1 : cwt (fun _ => true) (gS G) = gS G := cwt_all _ (fun _ _ => rfl)
        have d1 := cwt_dis (A := fun q => isHu M q && true) (B := isSt M) (C := fun _ => true) (gS G) (fun _ _ _ => rfl) (fun _ _ _ => rfl) (fun q hq z => by
          rcases src_c hF hV hq with ⟨-, w, -⟩ | ⟨s, -, -, -, -, w, -⟩ | ⟨h, -, -, -, -, w, -⟩
          · rw [w] at z; exact absurd z.2 (by decide)
          · rw [w] at z; exact absurd z.1 (by decide)
          · rw [w] at z; exact absurd z.2 (by decide))
        have d2 := cwt_or (A := fun _ => true) (B := fun q => isHu M q && true) (C := isSt M) (gS G) (fun q hq _ => by
          rcases src_c hF hV hq with ⟨w, -⟩ | ⟨s, -, -, -, w, -⟩ | ⟨h, -, -, -, -, -, w, -⟩
          · exact absurd w (ha q hq)
          · exact Or.inr w
          · left; rw [w]; rfl)
        omega
      have h3 : ∀ n, n ≤ gH G → (sm M.2.2 n).toInt = (smN (bgN M G) n : Int) ∧ smN (bgN M G) n ≤ 10 * n := by
        intro n
        induction n with
        | zero => intro _; exact ⟨rfl, Nat.le_refl _⟩
        | succ n ih =>
          intro hn
          obtain ⟨i1, i2⟩ := ih (by omega)
          have b1 := bg_i hF hV (show n < gH G by omega)
          have b2 : bgN M G n ≤ gS G := cwt_le _ _
          refine ⟨?_, by show smN _ n + bgN M G n ≤ _; omega⟩
          show (sm M.2.2 n + M.2.2 n).toInt = _
          rw [i_add (by omega) (by omega), i1, b1]
          rfl
      have h4 : smN (bgN M G) (gH G) = smN (fun h => if (fun _ : Nat => true) h = true then cwt (fun q => decide (M.2.1 q = srcv (10 + h))) (gS G) else 0) (gH G) := smN_cg _ (fun h _ => rfl)
      rw [hv, (h3 _ (Nat.le_refl _)).1, h4, h1]
      omega
end
