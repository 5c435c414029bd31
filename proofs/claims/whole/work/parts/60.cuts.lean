/-! matchings and cuts -/
section
def smN (f : Nat → Nat) : Nat → Nat
  | 0 => 0
  | n + 1 => smN f n + f n
theorem smN_le {f g : Nat → Nat} : ∀ n, (∀ h, h < n → f h ≤ g h) → smN f n ≤ smN g n := by
  intro n
  induction n with
  | zero => intro _; exact Nat.le_refl _
  | succ n ih => intro h; have h1 := ih (fun k hk => h k (by omega)); have h2 := h n (by omega); show smN f n + f n ≤ smN g n + g n; omega
theorem smN_cg {f g : Nat → Nat} : ∀ n, (∀ h, h < n → f h = g h) → smN f n = smN g n := by
  intro n
  induction n with
  | zero => intro _; rfl
  | succ n ih => intro h; show smN f n + f n = smN g n + g n; rw [ih (fun k hk => h k (by omega)), h n (by omega)]
theorem smN_add (f g : Nat → Nat) : ∀ n, smN (fun h => f h + g h) n = smN f n + smN g n := by
  intro n
  induction n with
  | zero => rfl
  | succ n ih => show smN (fun h => f h + g h) n + (f n + g n) = smN f n + f n + (smN g n + g n); omega
/-- one of them, at most -/
theorem smN_one {c : Nat → Bool} {a : Nat} : ∀ n, smN (fun h => (decide (a = h) && c h).toNat) n = (decide (a < n) && c a).toNat := by
  intro n
  induction n with
  | zero => simp [smN]
  | succ n ih =>
    show smN _ n + (decide (a = n) && c n).toNat = _
    rw [ih]
    by_cases e : a = n
    · subst e; simp
    · by_cases e2 : a < n
      · simp [e, e2, show a < n + 1 by omega]
      · simp [e, e2, show ¬ a < n + 1 by omega]
theorem sum_fib {c : Nat → Bool} {sh : Nat → Nat} {n : Nat} : ∀ S, (∀ p, p < S → sh p < n) → smN (fun h => if c h then cwt (fun p => decide (sh p = h)) S else 0) n = cwt (fun p => c (sh p)) S := by
  intro S
  induction S with
  | zero =>
    intro _
    have : ∀ n, smN (fun h => if c h then cwt (fun p => decide (sh p = h)) 0 else 0) n = 0 := by
      intro n
      induction n with
      | zero => rfl
      | succ n ih => show smN _ n + (if c n then 0 else 0) = 0; rw [ih]; split <;> rfl
    exact this n
  | succ S ih =>
    intro h
    show _ = cwt (fun p => c (sh p)) S + (c (sh S)).toNat
    rw [← ih (fun p hp => h p (by omega))]
    have e1 : (c (sh S)).toNat = smN (fun h => (decide (sh S = h) && c h).toNat) n := by
      rw [smN_one, decide_eq_true (h S (by omega))]
      simp
    rw [e1, ← smN_add]
    refine smN_cg n (fun k hk => ?_)
    show (if c k then cwt (fun p => decide (sh p = k)) S + (decide (sh S = k)).toNat else 0) = _
    cases hc : c k with
    | true => simp
    | false => simp
theorem cwt_or {A B C : Nat → Bool} : ∀ n, (∀ q, q < n → A q = true → B q = true ∨ C q = true) → cwt A n ≤ cwt B n + cwt C n := by
  intro n
  induction n with
  | zero => intro _; exact Nat.zero_le _
  | succ n ih =>
    intro h
    have h1 := ih (fun q hq => h q (by omega))
    show cwt A n + (A n).toNat ≤ cwt B n + (B n).toNat + (cwt C n + (C n).toNat)
    cases ha : A n with
    | false => simp; omega
    | true =>
      rcases h n (by omega) ha with z | z
      · rw [z]; simp; omega
      · rw [z]; simp; omega
theorem cwt_dis {A B C : Nat → Bool} : ∀ n, (∀ q, q < n → A q = true → C q = true) → (∀ q, q < n → B q = true → C q = true) → (∀ q, q < n → ¬ (A q = true ∧ B q = true)) → cwt A n + cwt B n ≤ cwt C n := by
  intro n
  induction n with
  | zero => intro _ _ _; exact Nat.le_refl _
  | succ n ih =>
    intro h1 h2 h3
    have h := ih (fun q hq => h1 q (by omega)) (fun q hq => h2 q (by omega)) (fun q hq => h3 q (by omega))
    show cwt A n + (A n).toNat + (cwt B n + (B n).toNat) ≤ cwt C n + (C n).toNat
    cases ha : A n with
    | true =>
      have hb : B n = false := by
        cases hb : B n with
        | false => rfl
        | true => exact absurd ⟨ha, hb⟩ (h3 n (by omega))
      rw [hb, h1 n (by omega) ha]; simp; omega
    | false =>
      cases hb : B n with
      | true => rw [h2 n (by omega) hb]; simp; omega
      | false => simp; omega
theorem cwt_inj : ∀ n (A C : Nat → Bool) (m : Nat) (f : Nat → Nat), (∀ q, q < n → A q = true → f q < m ∧ C (f q) = true) → (∀ q q', q < n → q' < n → A q = true → A q' = true → f q = f q' → q = q') → cwt A n ≤ cwt C m := by
  intro n
  induction n with
  | zero => intro A C m f _ _; exact Nat.zero_le _
  | succ n ih =>
    intro A C m f h1 h2
    show cwt A n + (A n).toNat ≤ cwt C m
    cases ha : A n with
    | false =>
      simp
      exact ih A C m f (fun q hq => h1 q (by omega)) (fun q q' hq hq' => h2 q q' (by omega) (by omega))
    | true =>
      obtain ⟨g1, g2⟩ := h1 n (by omega) ha
      have h3 := ih A (fun s => C s && decide (s ≠ f n)) m f (fun q hq haq => ?_) (fun q q' hq hq' => h2 q q' (by omega) (by omega))
      · have h4 := cwt_flip (f := C) (g := fun s => C s && decide (s ≠ f n)) (p := f n) m g1 (fun s hs => by simp [hs])
        rw [g2] at h4
        simp at h4 ⊢
        simp at h3
        omega
      · obtain ⟨k1, k2⟩ := h1 q (by omega) haq
        refine ⟨k1, ?_⟩
        rw [k2]
        have : f q ≠ f n := fun z => by have := h2 q n (by omega) (by omega) haq ha z; omega
        simp [this]
theorem cwt_cg {A B : Nat → Bool} : ∀ n, (∀ q, q < n → A q = B q) → cwt A n = cwt B n := by
  intro n
  induction n with
  | zero => intro _; rfl
  | succ n ih => intro h; show cwt A n + (A n).toNat = cwt B n + (B n).toNat; rw [ih (fun q hq => h q (by omega)), h n (by omega)]
theorem cwt_all {A : Nat → Bool} : ∀ n, (∀ q, q < n → A q = true) → cwt A n = n := by
  intro n
  induction n with
  | zero => intro _; rfl
  | succ n ih => intro h; show cwt A n + (A n).toNat = n + 1; rw [ih (fun q hq => h q (by omega)), h n (by omega)]; rfl
theorem to_bool (Z : Nat → Prop) : ∃ B : Nat → Bool, ∀ q, B q = true ↔ Z q := ⟨fun q => @decide (Z q) (Classical.propDecidable _), fun q => @decide_eq_true_iff (Z q) (Classical.propDecidable _)⟩
variable {G : Gx}
/-- ways between huts; places behind a set; a cut -/
def wG (G : Gx) (h o : Nat) : Bool := decide (h < gH G) && gct G h && gcn G h o
def bhG (G : Gx) (X : Nat → Bool) (q : Nat) : Bool := (List.range (gH G)).any (fun h => X h && wG G h (gsh G q))
def cuG (G : Gx) (fr : Nat → Nat) (X : Nat → Bool) : Nat := smN (fun h => if X h then 0 else fr h) (gH G) + cwt (bhG G X) (gS G)
def tnG (G : Gx) (h : Nat) : Nat := cwt (fun p => decide (gsh G p = h)) (gS G)
def mnG (G : Gx) (h : Nat) : Nat := if gct G h then gcp G h + tnG G h else 0
theorem bhG_i {X : Nat → Bool} {q : Nat} : bhG G X q = true ↔ ∃ h, h < gH G ∧ X h = true ∧ wG G h (gsh G q) = true := by
  unfold bhG
  rw [List.any_eq_true]
  constructor
  · rintro ⟨h, h1, h2⟩
    rw [Bool.and_eq_true] at h2
    exact ⟨h, List.mem_range.mp h1, h2.1, h2.2⟩
  · rintro ⟨h, h1, h2, h3⟩
    exact ⟨h, List.mem_range.mpr h1, by rw [h2, h3]; rfl⟩
/-- what holds of the stands -/
def gFit (G : Gx) : Prop := gS G ≤ 10 ∧ gH G ≤ 5 ∧ ∀ p, p < gS G → gsh G p < gH G ∧ gct G (gsh G p) = true
theorem wG_st (hF : gFit G) {s q : Nat} (hs : s < gS G) (h : gcn G (gsh G s) (gsh G q) = true) : wG G (gsh G s) (gsh G q) = true := by
  obtain ⟨-, -, h3⟩ := hF
  unfold wG
  rw [decide_eq_true (h3 s hs).1, (h3 s hs).2, h]
  rfl
/-- the source of a place is a stand, a hut -/
def isSt (M : Mx) (q : Nat) : Bool := decide (0 ≤ (M.2.1 q).toInt ∧ (M.2.1 q).toInt < 10)
def isHu (M : Mx) (q : Nat) : Bool := decide (100 ≤ (M.2.1 q).toInt)
theorem src_c {M : Mx} (hF : gFit G) (hV : Vl G M 99) {q : Nat} (hq : q < gS G) : (M.2.1 q = -1 ∧ isSt M q = false ∧ isHu M q = false) ∨ (∃ s, s < gS G ∧ M.2.1 q = srcv s ∧ gcn G (gsh G s) (gsh G q) = true ∧ isSt M q = true ∧ isHu M q = false ∧ nN (M.2.1 q) = s) ∨ (∃ h, h < gH G ∧ gct G h = true ∧ M.2.1 q = srcv (10 + h) ∧ gcn G h (gsh G q) = true ∧ isSt M q = false ∧ isHu M q = true ∧ nN (M.2.1 q) = 100 + h) := by
  obtain ⟨f1, f2, f3⟩ := hF
  rcases hV.1 q hq with h | ⟨x, h1, h2, h3⟩
  · left
    unfold isSt isHu
    rw [h]
    exact ⟨rfl, by decide, by decide⟩
  · have hx := isS_lt f1 f2 h1
    have hi := srcv_i hx
    rcases h1 with z | ⟨-, z1, z2, z3⟩
    · right; left
      rw [if_pos (by omega)] at hi
      unfold hof at h3
      rw [if_pos (by omega)] at h3
      refine ⟨x, z, h2, h3, ?_, ?_, ?_⟩
      · unfold isSt; rw [h2, hi]; exact decide_eq_true (by omega)
      · unfold isHu; rw [h2, hi]; exact decide_eq_false (by omega)
      · rw [h2, srcv_s (by omega)]; unfold nN; exact nI_clamp (by omega)
    · right; right
      rw [if_neg (by omega)] at hi
      unfold hof at h3
      rw [if_neg (by omega)] at h3
      refine ⟨x - 10, by omega, z3, by rw [show 10 + (x - 10) = x by omega]; exact h2, h3, ?_, ?_, ?_⟩
      · unfold isSt; rw [h2, hi]; exact decide_eq_false (by omega)
      · unfold isHu; rw [h2, hi]; exact decide_eq_true (by omega)
      · have e : srcv x = srcv (10 + (x - 10)) := by rw [show 10 + (x - 10) = x by omega]
        rw [h2, e, srcv_h]; unfold nN; exact nI_clamp (by omega)
def kM (G : Gx) (M : Mx) : Nat := cwt (fun s => decide (¬ M.1 s = -1)) (gS G)
theorem nx_c {M : Mx} (hF : gFit G) (hV : Vl G M 99) {s : Nat} (hs : s < gS G) (h : ¬ M.1 s = -1) : ∃ q, q < gS G ∧ M.1 s = nI q ∧ nN (M.1 s) = q ∧ M.2.1 q = srcv s ∧ isSt M q = true := by
  obtain ⟨f1, f2, f3⟩ := id hF
  rcases hV.2.1 s hs (by omega) with ⟨z, -⟩ | ⟨q, z1, z2, z3, z4⟩
  · exact absurd z h
  · refine ⟨q, z1, z2, by rw [z2]; unfold nN; exact nI_clamp (by omega), z3, ?_⟩
    rcases src_c hF hV z1 with ⟨w, -⟩ | ⟨s', -, -, -, w, -⟩ | ⟨h', w1, -, w2, -⟩
    · rw [z3] at w; exact absurd w (srcv_nn (by omega))
    · exact w
    · rw [z3] at w2; have := srcv_inj (by omega) (by omega) w2; omega
theorem kM_st {M : Mx} (hF : gFit G) (hV : Vl G M 99) : kM G M = cwt (isSt M) (gS G) := by
  apply Nat.le_antisymm
  · refine cwt_inj (gS G) _ _ (gS G) (fun s => nN (M.1 s)) (fun s hs ha => ?_) (fun s s' hs hs' ha ha' e => ?_)
    · obtain ⟨q, h1, h2, h3, h4, h5⟩ := nx_c hF hV hs (of_decide_eq_true ha)
      show nN (M.1 s) < _ ∧ _
      rw [h3]
      exact ⟨h1, h5⟩
    · obtain ⟨q, h1, h2, h3, h4, h5⟩ := nx_c hF hV hs (of_decide_eq_true ha)
      obtain ⟨q', g1, g2, g3, g4, g5⟩ := nx_c hF hV hs' (of_decide_eq_true ha')
      have e : nN (M.1 s) = nN (M.1 s') := e
      rw [h3, g3] at e
      subst e
      have := hF.1
      exact srcv_inj (by omega) (by omega) (h4.symm.trans g4)
  · refine cwt_inj (gS G) _ _ (gS G) (fun q => nN (M.2.1 q)) (fun q hq ha => ?_) (fun q q' hq hq' ha ha' e => ?_)
    · rcases src_c hF hV hq with ⟨-, w, -⟩ | ⟨s, w1, w2, -, -, -, w3⟩ | ⟨h, -, -, -, -, w, -⟩
      · rw [w] at ha; cases ha
      · show nN (M.2.1 q) < _ ∧ decide (¬ M.1 (nN (M.2.1 q)) = -1) = true
        rw [w3]
        refine ⟨w1, decide_eq_true (fun z => ?_)⟩
        have := hF.1
        rcases hV.2.1 s w1 (by omega) with ⟨-, v⟩ | ⟨q0, v1, v2, -⟩
        · exact v q hq w2
        · rw [z] at v2; exact nI_nn (by omega) v2.symm
      · rw [w] at ha; cases ha
    · rcases src_c hF hV hq with ⟨-, w, -⟩ | ⟨s, w1, w2, -, -, -, w3⟩ | ⟨h, -, -, -, -, w, -⟩
      · rw [w] at ha; cases ha
      · rcases src_c hF hV hq' with ⟨-, w', -⟩ | ⟨s', w1', w2', -, -, -, w3'⟩ | ⟨h, -, -, -, -, w', -⟩
        · rw [w'] at ha'; cases ha'
        · have e : nN (M.2.1 q) = nN (M.2.1 q') := e
          rw [w3, w3'] at e
          subst e
          have := hF.1
          rcases hV.2.1 s w1 (by omega) with ⟨-, v⟩ | ⟨q0, v1, v2, v3, v4⟩
          · exact absurd w2 (v q hq)
          · rw [v4 q hq w2, v4 q' hq' w2']
        · rw [w'] at ha'; cases ha'
      · rw [w] at ha; cases ha
theorem tn_sum (hF : gFit G) (X : Nat → Bool) : smN (fun h => if X h then 0 else tnG G h) (gH G) = cwt (fun p => !X (gsh G p)) (gS G) := by
  rw [← sum_fib (c := fun h => !X h) (sh := gsh G) (n := gH G) (gS G) (fun p hp => (hF.2.2 p hp).1)]
  refine smN_cg _ (fun h hh => ?_)
  show (if X h then 0 else tnG G h) = (if (!X h) = true then tnG G h else 0)
  cases X h <;> rfl
/-- a matching isn't greater than a cut -/
theorem kM_cut {M : Mx} (hF : gFit G) (hV : Vl G M 99) (X : Nat → Bool) : kM G M ≤ cuG G (tnG G) X := by
  unfold cuG
  rw [tn_sum hF, kM_st hF hV]
  have h1 := cwt_or (A := isSt M) (B := fun q => isSt M q && !X (gsh G (nN (M.2.1 q)))) (C := bhG G X) (gS G) (fun q hq ha => by
    rcases src_c hF hV hq with ⟨-, w, -⟩ | ⟨s, w1, w2, w4, -, -, w3⟩ | ⟨h, -, -, -, -, w, -⟩
    · rw [w] at ha; cases ha
    · cases hx : X (gsh G s) with
      | false => left; rw [ha, w3, hx]; rfl
      | true => exact Or.inr (bhG_i.mpr ⟨gsh G s, (hF.2.2 s w1).1, hx, wG_st hF w1 w4⟩)
    · rw [w] at ha; cases ha)
  have h2 : cwt (fun q => isSt M q && !X (gsh G (nN (M.2.1 q)))) (gS G) ≤ cwt (fun p => !X (gsh G p)) (gS G) := by
    refine cwt_inj (gS G) _ _ (gS G) (fun q => nN (M.2.1 q)) (fun q hq ha => ?_) (fun q q' hq hq' ha ha' e => ?_)
    · rw [Bool.and_eq_true] at ha
      rcases src_c hF hV hq with ⟨-, w, -⟩ | ⟨s, w1, w2, w4, -, -, w3⟩ | ⟨h, -, -, -, -, w, -⟩
      · rw [w] at ha; exact absurd ha.1 (by decide)
      · exact ⟨by show nN (M.2.1 q) < _; rw [w3]; exact w1, ha.2⟩
      · rw [w] at ha; exact absurd ha.1 (by decide)
    · rw [Bool.and_eq_true] at ha ha'
      rcases src_c hF hV hq with ⟨-, w, -⟩ | ⟨s, w1, w2, -, -, -, w3⟩ | ⟨h, -, -, -, -, w, -⟩
      · rw [w] at ha; exact absurd ha.1 (by decide)
      · rcases src_c hF hV hq' with ⟨-, w', -⟩ | ⟨s', w1', w2', -, -, -, w3'⟩ | ⟨h, -, -, -, -, w', -⟩
        · rw [w'] at ha'; exact absurd ha'.1 (by decide)
        · have e : nN (M.2.1 q) = nN (M.2.1 q') := e
          rw [w3, w3'] at e
          subst e
          have := hF.1
          rcases hV.2.1 s w1 (by omega) with ⟨-, v⟩ | ⟨q0, v1, v2, v3, v4⟩
          · exact absurd w2 (v q hq)
          · rw [v4 q hq w2, v4 q' hq' w2']
        · rw [w'] at ha'; exact absurd ha'.1 (by decide)
      · rw [w] at ha; exact absurd ha.1 (by decide)
  omega
/-- huts from which no place of Z is reached -/
theorem cut_Z (hF : gFit G) {B : Nat → Bool} : ∃ X : Nat → Bool, (∀ h, h < gH G → (X h = false ↔ ∃ z, z < gS G ∧ B z = true ∧ wG G h (gsh G z) = true)) ∧ cwt (bhG G X) (gS G) ≤ cwt (fun q => !B q) (gS G) := by
  obtain ⟨Y, hY⟩ := to_bool (fun h => ∃ z, z < gS G ∧ B z = true ∧ wG G h (gsh G z) = true)
  refine ⟨fun h => !Y h, fun h _ => ?_, cwt_mono _ (fun q hq ha => ?_)⟩
  · rw [← hY h]
    show (!Y h) = false ↔ Y h = true
    cases Y h <;> simp
  · obtain ⟨h, h1, h2, h3⟩ := bhG_i.mp ha
    cases hb : B q with
    | false => rfl
    | true =>
      have := (hY h).mpr ⟨q, hq, hb, h3⟩
      rw [this] at h2
      cases h2
theorem cut_1 {M : Mx} {Z : Nat → Prop} (hF : gFit G) (hV : Vl G M 99) (hst : ∀ q, q < gS G → M.2.1 q = -1 ∨ ∃ s, s < gS G ∧ M.2.1 q = srcv s) (hZ : clZ G false M Z) (hu : ∀ q, q < gS G → M.2.1 q = -1 → Z q) : ∃ X, cuG G (tnG G) X ≤ kM G M := by
  obtain ⟨B, hB⟩ := to_bool Z
  obtain ⟨X, hX1, hX2⟩ := cut_Z hF (B := B)
  refine ⟨X, ?_⟩
  unfold cuG
  rw [tn_sum hF, kM_st hF hV]
  have h10 := hF.1
  have h1 : cwt (fun p => !X (gsh G p)) (gS G) ≤ cwt (fun q => isSt M q && B q) (gS G) := by
    have inf : ∀ s, s < gS G → (!X (gsh G s)) = true → ∃ q, q < gS G ∧ M.1 s = nI q ∧ nN (M.1 s) = q ∧ M.2.1 q = srcv s ∧ isSt M q = true ∧ B q = true := by
      intro s hs ha
      obtain ⟨z, z1, z2, z3⟩ := (hX1 _ (hF.2.2 s hs).1).mp (by simpa using ha)
      unfold wG at z3
      rw [Bool.and_eq_true] at z3
      have hr : rch G false s z := ⟨Or.inl hs, by unfold hof; rw [if_pos (by omega)]; exact z3.2⟩
      obtain ⟨a1, a2⟩ := hZ z z1 ((hB z).mp z2) s hr
      obtain ⟨q, g1, g2, g3, g4, g5⟩ := nx_c hF hV hs (a1.1 (by omega))
      exact ⟨q, g1, g2, g3, g4, g5, (hB q).mpr (a2 q g1 g4)⟩
    refine cwt_inj (gS G) _ _ (gS G) (fun s => nN (M.1 s)) (fun s hs ha => ?_) (fun s s' hs hs' ha ha' e => ?_)
    · obtain ⟨q, g1, g2, g3, g4, g5, g6⟩ := inf s hs ha
      show nN (M.1 s) < _ ∧ (isSt M (nN (M.1 s)) && B (nN (M.1 s))) = true
      rw [g3, g5, g6]
      exact ⟨g1, rfl⟩
    · obtain ⟨q, g1, g2, g3, g4, g5, g6⟩ := inf s hs ha
      obtain ⟨q', k1, k2, k3, k4, k5, k6⟩ := inf s' hs' ha'
      have e : nN (M.1 s) = nN (M.1 s') := e
      rw [g3, k3] at e
      subst e
      exact srcv_inj (by omega) (by omega) (g4.symm.trans k4)
  have h2 := cwt_dis (A := fun q => isSt M q && B q) (B := fun q => !B q) (C := isSt M) (gS G) (fun q _ ha => by rw [Bool.and_eq_true] at ha; exact ha.1) (fun q hq ha => by
    rcases src_c hF hV hq with ⟨w, -⟩ | ⟨s, -, -, -, w, -⟩ | ⟨h, w1, -, w2, -⟩
    · have := (hB q).mpr (hu q hq w)
      rw [this] at ha
      cases ha
    · exact w
    · rcases hst q hq with z | ⟨s, z1, z2⟩
      · rw [w2] at z; have := hF.2.1; exact absurd z (srcv_nn (by omega))
      · rw [w2] at z2; have := hF.2.1; have := srcv_inj (by omega) (by omega) z2; omega) (fun q _ ha => by
    rw [Bool.and_eq_true] at ha
    have h1 := ha.1.2
    rw [h1] at ha
    exact absurd ha.2 (by decide))
  omega
end
