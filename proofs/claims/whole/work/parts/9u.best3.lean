/-! best: both find the same number and minute -/
section
variable {P : Nat} {out : Nat → Int32 → Int32}
theorem nT_0 : nT0 out P 0 = 0 := by
  unfold nT0
  rw [foT_eq _ 0 (Nat.two_pow_pos P), if_pos rfl]
theorem fb_n {e : Nat → Int32} {t : Int32} (h8 : P ≤ 8) (ht : 0 ≤ t.toInt ∧ t.toInt ≤ 999) (he : ∀ s, s < 2 ^ P → e s = nT0 out P s) : fbS e t (2 ^ P - 1) = (nMn out P t, nGo out P t) := by
  have hp := Nat.two_pow_pos P
  obtain ⟨⟨s0, i1, i2, i3, i4⟩, i5⟩ := fb_c (e := e) (lim := t) (by rw [he 0 hp]; exact nT_0) ht.1 (2 ^ P - 1)
  obtain ⟨b1, b2⟩ := bm_c (P := P) (T := nT0 out P) (t := t) P
  have b1 : nMn out P t = 0 ∨ eaM (nT0 out P) (nMn out P t) (2 ^ P) ≤ t := b1
  have b2 : ∀ j, nMn out P t < j → j ≤ P → ¬ eaM (nT0 out P) j (2 ^ P) ≤ t := b2
  have c0 : cnt s0 32 = (fbS e t (2 ^ P - 1)).1 := i2
  have t0 : nT0 out P s0 = (fbS e t (2 ^ P - 1)).2 := by rw [← he s0 (by omega)]; exact i3
  have e0 : (nT0 out P s0).toInt ≤ t.toInt := by rw [← he s0 (by omega)]; exact i4
  have m1 : (fbS e t (2 ^ P - 1)).1 ≤ nMn out P t := by
    by_cases z : nMn out P t < (fbS e t (2 ^ P - 1)).1
    · exfalso
      refine b2 _ z (by rw [← c0]; exact cnt_P h8 (by omega)) ?_
      rw [i_le]
      exact (ea_le (by omega) (2 ^ P)).mpr ⟨s0, by omega, c0, e0⟩
    · omega
  have m2 : nMn out P t ≤ (fbS e t (2 ^ P - 1)).1 := by
    rcases b1 with z | z
    · omega
    · rw [i_le] at z
      obtain ⟨s, s1, s2, s3⟩ := (ea_le (by omega) (2 ^ P)).mp z
      have := i5 s (by omega) (by rw [he s s1]; exact s3)
      have s2 : pop s = nMn out P t := s2
      omega
  have em : (fbS e t (2 ^ P - 1)).1 = nMn out P t := by omega
  have ed : (fbS e t (2 ^ P - 1)).2 = nGo out P t := by
    apply Int32.toInt_inj.mp
    unfold nGo
    rw [← t0]
    have a1 : (eaM (nT0 out P) (nMn out P t) (2 ^ P)).toInt ≤ (nT0 out P s0).toInt := (ea_le (by omega) (2 ^ P)).mpr ⟨s0, by omega, by rw [c0, em], Int.le_refl _⟩
    obtain ⟨s, s1, s2, s3⟩ := (ea_le (T := nT0 out P) (k := nMn out P t) (u := (eaM (nT0 out P) (nMn out P t) (2 ^ P)).toInt) (by omega) (2 ^ P)).mp (Int.le_refl _)
    have s2 : pop s = nMn out P t := s2
    have := i5 s (by omega) (by rw [he s s1]; omega)
    rw [he s s1, ← t0] at this
    omega
  exact Prod.ext em ed
/-- of no one: at once -/
theorem ea_0 {t : Int32} (ht : 0 ≤ t.toInt ∧ t.toInt ≤ 999) : eaM (nT0 out P) 0 (2 ^ P) ≤ t := by
  rw [i_le]
  refine (ea_le (by omega) (2 ^ P)).mpr ⟨0, Nat.two_pow_pos P, by decide, ?_⟩
  rw [nT_0]
  exact ht.1
end
