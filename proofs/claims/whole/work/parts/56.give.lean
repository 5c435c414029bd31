/-! who stands for whom: the matching -/
section
def srcv (x : Nat) : Int32 := if x < 10 then nI x else nI (90 + x)
theorem srcv_i {x : Nat} (h : x < 15) : (srcv x).toInt = if x < 10 then (x : Int) else 90 + x := by
  unfold srcv
  by_cases e : x < 10
  · rw [if_pos e, if_pos e, nI_toInt (by omega)]
  · rw [if_neg e, if_neg e, nI_toInt (by omega)]; omega
theorem srcv_inj {x y : Nat} (hx : x < 15) (hy : y < 15) (h : srcv x = srcv y) : x = y := by
  have := congrArg Int32.toInt h
  rw [srcv_i hx, srcv_i hy] at this
  split at this <;> split at this <;> omega
theorem srcv_nn {x : Nat} (hx : x < 15) : ¬ srcv x = -1 := by
  intro h
  have := congrArg Int32.toInt h
  rw [srcv_i hx, show (-1 : Int32).toInt = -1 from rfl] at this
  split at this <;> omega
theorem srcv_s {s : Nat} (h : s < 10) : srcv s = nI s := if_pos h
theorem srcv_h {h : Nat} : srcv (10 + h) = nI (100 + h) := by
  unfold srcv
  rw [if_neg (by omega), show 90 + (10 + h) = 100 + h by omega]
theorem cwt_flip {f g : Nat → Bool} {p : Nat} : ∀ n, p < n → (∀ q, q ≠ p → g q = f q) → cwt g n + (f p).toNat = cwt f n + (g p).toNat := by
  intro n
  induction n with
  | zero => intro h; omega
  | succ n ih =>
    intro hp hq
    show cwt g n + (g n).toNat + (f p).toNat = cwt f n + (f n).toNat + (g p).toNat
    by_cases e : p = n
    · subst e
      have : ∀ m, m ≤ p → cwt g m = cwt f m := by
        intro m
        induction m with
        | zero => intro _; rfl
        | succ m im => intro hm; show cwt g m + (g m).toNat = cwt f m + (f m).toNat; rw [im (by omega), hq m (by omega)]
      rw [this p (Nat.le_refl _)]
      omega
    · have := ih (by omega) hq
      rw [hq n (Ne.symm e)]
      omega
/-- stands, huts, whose hut, who is counted, who can run, how many can begin -/
abbrev Gx : Type := Nat × Nat × (Nat → Nat) × (Nat → Bool) × (Nat → Nat → Bool) × (Nat → Nat)
abbrev gS (G : Gx) : Nat := G.1
abbrev gH (G : Gx) : Nat := G.2.1
abbrev gsh (G : Gx) : Nat → Nat := G.2.2.1
abbrev gct (G : Gx) : Nat → Bool := G.2.2.2.1
abbrev gcn (G : Gx) : Nat → Nat → Bool := G.2.2.2.2.1
abbrev gcp (G : Gx) : Nat → Nat := G.2.2.2.2.2
def hof (G : Gx) (x : Nat) : Nat := if x < 10 then gsh G x else x - 10
def isS (G : Gx) (b : Bool) (x : Nat) : Prop := x < gS G ∨ (b = true ∧ 10 ≤ x ∧ x < 10 + gH G ∧ gct G (x - 10) = true)
def rch (G : Gx) (b : Bool) (x p : Nat) : Prop := isS G b x ∧ gcn G (hof G x) (gsh G p) = true
/-- next, cameFrom, begins -/
abbrev Mx : Type := (Nat → Int32) × (Nat → Int32) × (Nat → Int32)
def sat (G : Gx) (M : Mx) (x : Nat) : Prop := (x < 10 → ¬ M.1 x = -1) ∧ (10 ≤ x → (gcp G (x - 10) : Int) ≤ (M.2.2 (x - 10)).toInt)
def V1 (G : Gx) (M : Mx) : Prop := ∀ q, q < gS G → M.2.1 q = -1 ∨ ∃ x, isS G true x ∧ M.2.1 q = srcv x ∧ gcn G (hof G x) (gsh G q) = true
def V2 (G : Gx) (M : Mx) (d : Nat) : Prop := ∀ s, s < gS G → s ≠ d → (M.1 s = -1 ∧ ∀ q, q < gS G → ¬ M.2.1 q = srcv s) ∨ ∃ q, q < gS G ∧ M.1 s = nI q ∧ M.2.1 q = srcv s ∧ ∀ q', q' < gS G → M.2.1 q' = srcv s → q' = q
def V2d (G : Gx) (M : Mx) (d : Nat) : Prop := d < gS G → ¬ M.1 d = -1 ∧ ∀ q, q < gS G → ¬ M.2.1 q = srcv d
def V3 (G : Gx) (M : Mx) (d : Nat) : Prop := ∀ h, h < gH G → (M.2.2 h).toInt = (cwt (fun q => decide (M.2.1 q = srcv (10 + h))) (gS G) : Int) + (if d = 10 + h then 1 else 0)
def V4 (G : Gx) (M : Mx) : Prop := ∀ h, h < gH G → (M.2.2 h).toInt ≤ (gcp G h : Int)
def Vl (G : Gx) (M : Mx) (d : Nat) : Prop := V1 G M ∧ V2 G M d ∧ V2d G M d ∧ V3 G M d ∧ V4 G M
/-- the source of a place -/
def srcO (M : Mx) (p o : Nat) : Prop := (o = 99 ∧ M.2.1 p = -1) ∨ (o < 15 ∧ M.2.1 p = srcv o)
theorem srcO_c {M : Mx} {p o x : Nat} (h : srcO M p o) (hx : x < 15) (e : M.2.1 p = srcv x) : x = o := by
  rcases h with ⟨-, h⟩ | ⟨h1, h2⟩
  · rw [e] at h; exact absurd h (srcv_nn hx)
  · exact srcv_inj hx h1 (e.symm.trans h2)
theorem hutc {G : Gx} {cf : Nat → Int32} {p x : Nat} (hp : p < gS G) {h : Nat} : (cwt (fun q => decide (va_up cf p (srcv x) q = srcv (10 + h))) (gS G) : Int) + (if cf p = srcv (10 + h) then 1 else 0) = (cwt (fun q => decide (cf q = srcv (10 + h))) (gS G) : Int) + (if srcv x = srcv (10 + h) then 1 else 0) := by
  have := cwt_flip (f := fun q => decide (cf q = srcv (10 + h))) (g := fun q => decide (va_up cf p (srcv x) q = srcv (10 + h))) (p := p) (gS G) hp (fun q hq => by simp only [vu_n _ _ hq])
  simp only [vu_s] at this
  by_cases c1 : cf p = srcv (10 + h)
  · by_cases c2 : srcv x = srcv (10 + h)
    · simp [c1, c2] at this ⊢; omega
    · simp [c1, c2] at this ⊢; omega
  · by_cases c2 : srcv x = srcv (10 + h)
    · simp [c1, c2] at this ⊢; omega
    · simp [c1, c2] at this ⊢; omega
/-- a stand is given to a place -/
theorem Vl_stand {G : Gx} {M : Mx} {p s o d : Nat} (h10 : gS G ≤ 10) (h5 : gH G ≤ 5) (hv : Vl G M d) (hd : (d = 99 ∧ M.1 s = -1) ∨ d = s) (hp : p < gS G) (hs : s < gS G) (hc : gcn G (gsh G s) (gsh G p) = true) (ho : srcO M p o) (hso : s ≠ o) : Vl G (va_up M.1 s (nI p), va_up M.2.1 p (srcv s), M.2.2) o := by
  obtain ⟨v1, v2, v2d, v3, v4⟩ := hv
  have hns : ∀ q, q < gS G → ¬ M.2.1 q = srcv s := by
    intro q hq
    rcases hd with ⟨e, e2⟩ | e
    · rcases v2 s hs (by omega) with ⟨-, z⟩ | ⟨q', z1, z2, -⟩
      · exact z q hq
      · rw [e2] at z2; exact absurd z2.symm (nI_nn (by omega))
    · subst e; exact (v2d hs).2 q hq
  refine ⟨fun q hq => ?_, fun t ht hto => ?_, fun hoS => ?_, fun h hh => ?_, v4⟩
  · by_cases e : q = p
    · subst e
      right
      refine ⟨s, Or.inl hs, vu_s _ _ _, ?_⟩
      unfold hof
      rw [if_pos (by omega)]
      exact hc
    · show va_up M.2.1 p (srcv s) q = -1 ∨ _
      rw [show (va_up M.1 s (nI p), va_up M.2.1 p (srcv s), M.2.2).2.1 q = M.2.1 q from vu_n _ _ e, vu_n _ _ e]
      exact v1 q hq
  · show (va_up M.1 s (nI p) t = -1 ∧ _) ∨ _
    by_cases e : t = s
    · subst e
      right
      refine ⟨p, hp, vu_s _ _ _, vu_s _ _ _, fun q' hq' hq2 => ?_⟩
      have hq2 : va_up M.2.1 p (srcv t) q' = srcv t := hq2
      by_cases e2 : q' = p
      · exact e2
      · rw [vu_n _ _ e2] at hq2; exact absurd hq2 (hns q' hq')
    · rw [vu_n _ _ e]
      have hne : ¬ srcv s = srcv t := fun z => e (srcv_inj (by omega) (by omega) z).symm
      have hpt : ¬ M.2.1 p = srcv t := fun z => hto (srcO_c ho (by omega) z)
      rcases v2 t ht (by rcases hd with ⟨z, -⟩ | z <;> omega) with ⟨z1, z2⟩ | ⟨q, z1, z2, z3, z4⟩
      · left
        refine ⟨z1, fun q hq hq2 => ?_⟩
        have hq2 : va_up M.2.1 p (srcv s) q = srcv t := hq2
        by_cases e2 : q = p
        · subst e2; rw [vu_s] at hq2; exact hne hq2
        · rw [vu_n _ _ e2] at hq2; exact z2 q hq hq2
      · right
        have hqp : q ≠ p := fun z => by rw [z] at z3; exact hpt z3
        refine ⟨q, z1, ?_, (vu_n _ _ hqp).trans z3, fun q' hq' hq2 => ?_⟩
        · show va_up M.1 s (nI p) t = nI q
          rw [vu_n _ _ e]; exact z2
        · have hq2 : va_up M.2.1 p (srcv s) q' = srcv t := hq2
          by_cases e2 : q' = p
          · subst e2; rw [vu_s] at hq2; exact absurd hq2 hne
          · rw [vu_n _ _ e2] at hq2; exact z4 q' hq' hq2
  · rcases ho with ⟨z, -⟩ | ⟨z1, z2⟩
    · omega
    · have hos : o ≠ s := Ne.symm hso
      rcases v2 o hoS (by rcases hd with ⟨z, -⟩ | z <;> omega) with ⟨w1, w2⟩ | ⟨q, w1, w2, w3, w4⟩
      · exact absurd z2 (w2 p hp)
      · have hpq := w4 p hp z2
        refine ⟨?_, fun q' hq' hq2 => ?_⟩
        · show ¬ va_up M.1 s (nI p) o = -1
          rw [vu_n _ _ hos, w2]; exact nI_nn (by omega)
        · have hq2 : va_up M.2.1 p (srcv s) q' = srcv o := hq2
          by_cases e2 : q' = p
          · subst e2; rw [vu_s] at hq2; exact hso (srcv_inj (by omega) z1 hq2)
          · rw [vu_n _ _ e2] at hq2; exact e2 ((w4 q' hq' hq2).trans hpq.symm)
  · have hx := hutc (G := G) (cf := M.2.1) (x := s) hp (h := h)
    have h3 := v3 h hh
    rw [if_neg (show ¬ srcv s = srcv (10 + h) from fun z => by have := srcv_inj (by omega) (by omega) z; omega)] at hx
    rw [if_neg (show ¬ d = 10 + h by rcases hd with ⟨z, -⟩ | z <;> omega)] at h3
    show (M.2.2 h).toInt = (cwt (fun q => decide (va_up M.2.1 p (srcv s) q = srcv (10 + h))) (gS G) : Int) + _
    by_cases e : M.2.1 p = srcv (10 + h)
    · rw [if_pos e] at hx
      rw [if_pos (srcO_c ho (by omega) e).symm]
      omega
    · rw [if_neg e] at hx
      rw [if_neg (fun z => by
        rcases ho with ⟨w, -⟩ | ⟨-, w⟩
        · omega
        · rw [z] at w; exact e w)]
      omega
/-- a man of a hut begins for a place -/
theorem Vl_hut {G : Gx} {M : Mx} {p h o d : Nat} {bg : Nat → Int32} (h10 : gS G ≤ 10) (h5 : gH G ≤ 5) (hv : Vl G M d) (hp : p < gS G) (hh : h < gH G) (hct : gct G h = true) (hc : gcn G h (gsh G p) = true) (ho : srcO M p o) (hso : 10 + h ≠ o) (hd : (d = 99 ∧ bg = va_up M.2.2 h (M.2.2 h + 1) ∧ (M.2.2 h).toInt < (gcp G h : Int) ∧ gcp G h ≤ 1000) ∨ (d = 10 + h ∧ bg = M.2.2)) : Vl G (M.1, va_up M.2.1 p (srcv (10 + h)), bg) o := by
  obtain ⟨v1, v2, v2d, v3, v4⟩ := hv
  have b0 : ∀ k, k < gH G → 0 ≤ (M.2.2 k).toInt := fun k hk => by have := v3 k hk; split at this <;> omega
  have hbg : ∀ k, k < gH G → (bg k).toInt = (M.2.2 k).toInt + (if d = 99 ∧ k = h then 1 else 0) := by
    intro k hk
    rcases hd with ⟨e1, e2, e3, e4⟩ | ⟨e1, e2⟩
    · rw [e2]
      by_cases e : k = h
      · subst e
        have := b0 k hk
        rw [vu_s, if_pos ⟨e1, rfl⟩]
        exact i_add (b := 1) (by simp only [Int32.reduceToInt]; omega) (by simp only [Int32.reduceToInt]; omega)
      · rw [vu_n _ _ e, if_neg (fun z => e z.2)]; omega
    · rw [e2, if_neg (fun z => by omega)]; omega
  refine ⟨fun q hq => ?_, fun t ht hto => ?_, fun hoS => ?_, fun k hk => ?_, fun k hk => ?_⟩
  · by_cases e : q = p
    · subst e
      right
      refine ⟨10 + h, Or.inr ⟨rfl, by omega, by omega, by rw [Nat.add_sub_cancel_left]; exact hct⟩, vu_s _ _ _, ?_⟩
      unfold hof
      rw [if_neg (by omega), Nat.add_sub_cancel_left]
      exact hc
    · show va_up M.2.1 p (srcv (10 + h)) q = -1 ∨ _
      rw [show (M.1, va_up M.2.1 p (srcv (10 + h)), bg).2.1 q = M.2.1 q from vu_n _ _ e, vu_n _ _ e]
      exact v1 q hq
  · have hne : ¬ srcv (10 + h) = srcv t := fun z => by have := srcv_inj (by omega) (by omega) z; omega
    have hpt : ¬ M.2.1 p = srcv t := fun z => hto (srcO_c ho (by omega) z)
    rcases v2 t ht (by rcases hd with ⟨z, -⟩ | ⟨z, -⟩ <;> omega) with ⟨z1, z2⟩ | ⟨q, z1, z2, z3, z4⟩
    · left
      refine ⟨z1, fun q hq hq2 => ?_⟩
      have hq2 : va_up M.2.1 p (srcv (10 + h)) q = srcv t := hq2
      by_cases e2 : q = p
      · subst e2; rw [vu_s] at hq2; exact hne hq2
      · rw [vu_n _ _ e2] at hq2; exact z2 q hq hq2
    · right
      have hqp : q ≠ p := fun z => by rw [z] at z3; exact hpt z3
      refine ⟨q, z1, z2, (vu_n _ _ hqp).trans z3, fun q' hq' hq2 => ?_⟩
      have hq2 : va_up M.2.1 p (srcv (10 + h)) q' = srcv t := hq2
      by_cases e2 : q' = p
      · subst e2; rw [vu_s] at hq2; exact absurd hq2 hne
      · rw [vu_n _ _ e2] at hq2; exact z4 q' hq' hq2
  · rcases ho with ⟨z, -⟩ | ⟨z1, z2⟩
    · omega
    · rcases v2 o hoS (by rcases hd with ⟨z, -⟩ | ⟨z, -⟩ <;> omega) with ⟨w1, w2⟩ | ⟨q, w1, w2, w3, w4⟩
      · exact absurd z2 (w2 p hp)
      · have hpq := w4 p hp z2
        refine ⟨by rw [w2]; exact nI_nn (by omega), fun q' hq' hq2 => ?_⟩
        have hq2 : va_up M.2.1 p (srcv (10 + h)) q' = srcv o := hq2
        by_cases e2 : q' = p
        · subst e2; rw [vu_s] at hq2; exact hso (srcv_inj (by omega) z1 hq2)
        · rw [vu_n _ _ e2] at hq2; exact e2 ((w4 q' hq' hq2).trans hpq.symm)
  · have hx := hutc (G := G) (cf := M.2.1) (x := 10 + h) hp (h := k)
    have h3 := v3 k hk
    have hb := hbg k hk
    show (bg k).toInt = (cwt (fun q => decide (va_up M.2.1 p (srcv (10 + h)) q = srcv (10 + k))) (gS G) : Int) + _
    have c1 : (if M.2.1 p = srcv (10 + k) then (1 : Int) else 0) = (if o = 10 + k then 1 else 0) := by
      by_cases e : M.2.1 p = srcv (10 + k)
      · rw [if_pos e, if_pos (srcO_c ho (by omega) e).symm]
      · rw [if_neg e, if_neg (fun z => by
          rcases ho with ⟨w, -⟩ | ⟨-, w⟩
          · omega
          · rw [z] at w; exact e w)]
    have c2 : (if srcv (10 + h) = srcv (10 + k) then (1 : Int) else 0) = (if k = h then 1 else 0) := by
      by_cases e : k = h
      · rw [if_pos e, if_pos (by rw [e])]
      · rw [if_neg e, if_neg (fun z => by have := srcv_inj (by omega) (by omega) z; omega)]
    rw [c1, c2] at hx
    rcases hd with ⟨e1, -⟩ | ⟨e1, -⟩
    · rw [if_neg (show ¬ d = 10 + k by omega)] at h3
      by_cases e : k = h
      · rw [if_pos ⟨e1, e⟩] at hb; rw [if_pos e] at hx; omega
      · rw [if_neg (fun z => e z.2)] at hb; rw [if_neg e] at hx; omega
    · rw [if_neg (show ¬ (d = 99 ∧ k = h) by omega)] at hb
      by_cases e : k = h
      · rw [if_pos (by omega)] at h3; rw [if_pos e] at hx; omega
      · rw [if_neg (by omega)] at h3; rw [if_neg e] at hx; omega
  · have hb := hbg k hk
    have h4 := v4 k hk
    show (bg k).toInt ≤ _
    rcases hd with ⟨e1, e2, e3, e4⟩ | ⟨e1, e2⟩
    · by_cases e : k = h
      · subst e; rw [if_pos ⟨e1, rfl⟩] at hb; omega
      · rw [if_neg (fun z => e z.2)] at hb; omega
    · rw [e2]; exact h4
end
