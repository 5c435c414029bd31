/-! best: some of a row's words -/
section
theorem any_i {p : Nat → Bool} : ∀ n k, anyN p n k = true ↔ ∃ s, k ≤ s ∧ s < k + n ∧ p s = true := by
  intro n
  induction n with
  | zero => intro k; exact ⟨fun z => absurd z (by simp [anyN]), fun ⟨s, h1, h2, _⟩ => by omega⟩
  | succ n ih =>
    intro k
    rw [anyN]
    by_cases z : p k = true
    · rw [if_pos z]; exact ⟨fun _ => ⟨k, Nat.le_refl _, by omega, z⟩, fun _ => rfl⟩
    · rw [if_neg z, ih]
      constructor
      · rintro ⟨s, h1, h2, h3⟩; exact ⟨s, by omega, by omega, h3⟩
      · rintro ⟨s, h1, h2, h3⟩
        by_cases y : s = k
        · subst y; exact absurd h3 z
        · exact ⟨s, by omega, by omega, h3⟩
end
