/-! best: how many, by when -/
section
variable {P : Nat}
theorem ea_le {T : Nat → Int32} {k : Nat} {u : Int} (hu : u < 1000000) : ∀ n, (eaM T k n).toInt ≤ u ↔ ∃ s, s < n ∧ cnt s 32 = k ∧ (T s).toInt ≤ u := by
  intro n
  induction n with
  | zero =>
    refine ⟨fun z => ?_, fun ⟨p, z, _⟩ => absurd z (Nat.not_lt_zero _)⟩
    have z : (1000000 : Int32).toInt ≤ u := z
    simp only [Int32.reduceToInt] at z
    omega
  | succ n ih =>
    rw [eaM]
    by_cases z : cnt n 32 = k
    · rw [if_pos z, iMin_i]
      constructor
      · intro y
        by_cases w : (T n).toInt ≤ u
        · exact ⟨n, by omega, z, w⟩
        · obtain ⟨p, p1, p2⟩ := ih.mp (by omega)
          exact ⟨p, by omega, p2⟩
      · rintro ⟨p, p1, p2, p3⟩
        by_cases w : p = n
        · subst w; omega
        · have := ih.mpr ⟨p, by omega, p2, p3⟩; omega
    · rw [if_neg z, ih]
      constructor
      · rintro ⟨p, p1, p2⟩; exact ⟨p, by omega, p2⟩
      · rintro ⟨p, p1, p2, p3⟩
        by_cases w : p = n
        · subst w; exact absurd p2 z
        · exact ⟨p, by omega, p2, p3⟩
theorem fb_c {e : Nat → Int32} {lim : Int32} (e0 : e 0 = 0) (hl : 0 ≤ lim.toInt) : ∀ n, (∃ s, s ≤ n ∧ pop s = (fbS e lim n).1 ∧ e s = (fbS e lim n).2 ∧ (e s).toInt ≤ lim.toInt) ∧ ∀ s, s ≤ n → (e s).toInt ≤ lim.toInt → pop s < (fbS e lim n).1 ∨ pop s = (fbS e lim n).1 ∧ (fbS e lim n).2.toInt ≤ (e s).toInt := by
  intro n
  induction n with
  | zero =>
    refine ⟨⟨0, Nat.le_refl _, by show pop 0 = 0; decide, e0, by rw [e0]; exact hl⟩, fun s hs _ => Or.inr ?_⟩
    obtain rfl : s = 0 := by omega
    exact ⟨by show pop 0 = 0; decide, by rw [e0]; exact Int.le_refl _⟩
  | succ n ih =>
    obtain ⟨⟨s0, i1, i2, i3, i4⟩, i5⟩ := ih
    rw [fbS]
    by_cases z : e (n + 1) ≤ lim ∧ ((fbS e lim n).1 < pop (n + 1) ∨ pop (n + 1) = (fbS e lim n).1 ∧ e (n + 1) < (fbS e lim n).2)
    · rw [if_pos z]
      refine ⟨⟨n + 1, Nat.le_refl _, rfl, rfl, by rw [← i_le]; exact z.1⟩, fun s hs hse => ?_⟩
      show pop s < pop (n + 1) ∨ pop s = pop (n + 1) ∧ (e (n + 1)).toInt ≤ (e s).toInt
      by_cases y : s = n + 1
      · rw [y]; exact Or.inr ⟨rfl, Int.le_refl _⟩
      · have := i5 s (by omega) hse
        rcases z.2 with w | ⟨w1, w2⟩
        · left; omega
        · rw [i_lt] at w2
          rcases this with v | ⟨v1, v2⟩
          · left; omega
          · right; omega
    · rw [if_neg z]
      refine ⟨⟨s0, by omega, i2, i3, i4⟩, fun s hs hse => ?_⟩
      by_cases y : s = n + 1
      · rw [y] at hse ⊢
        by_cases w : pop (n + 1) < (fbS e lim n).1
        · exact Or.inl w
        · right
          have c : ¬ ((fbS e lim n).1 < pop (n + 1) ∨ pop (n + 1) = (fbS e lim n).1 ∧ e (n + 1) < (fbS e lim n).2) := fun v => z ⟨i_le.mpr hse, v⟩
          have c1 : pop (n + 1) = (fbS e lim n).1 := by
            have : ¬ (fbS e lim n).1 < pop (n + 1) := fun v => c (Or.inl v)
            omega
          refine ⟨c1, ?_⟩
          have : ¬ e (n + 1) < (fbS e lim n).2 := fun v => c (Or.inr ⟨c1, v⟩)
          rw [i_lt] at this
          omega
      · exact i5 s (by omega) hse
theorem bm_c {T : Nat → Int32} {t : Int32} : ∀ k, (bmM T P t k = 0 ∨ eaM T (bmM T P t k) (2 ^ P) ≤ t) ∧ ∀ j, bmM T P t k < j → j ≤ k → ¬ eaM T j (2 ^ P) ≤ t := by
  intro k
  induction k with
  | zero => exact ⟨Or.inl rfl, fun j h1 h2 => by have h1 : 0 < j := h1; omega⟩
  | succ k ih =>
    rw [bmM]
    by_cases z : eaM T (k + 1) (2 ^ P) ≤ t
    · rw [if_pos z]; exact ⟨Or.inr z, fun j h1 h2 => by omega⟩
    · rw [if_neg z]
      refine ⟨ih.1, fun j h1 h2 => ?_⟩
      by_cases y : j = k + 1
      · rw [y]; exact z
      · exact ih.2 j h1 (by omega)
end
