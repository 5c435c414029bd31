/-! the two camps change their names -/
section
variable {sc : Sc} {I : Is} {L : Ls}
theorem PWf_none {tg a f : Nat} (h : 151 ≤ a ∨ 100 ≤ f) : PWf tg a f = none := by
  unfold PWf
  rw [if_neg (by omega)]
  rcases h with h | h
  · have : pwl.getD a [] = [] := by
      rw [List.getD_eq_getElem?_getD, List.getElem?_eq_none (Nat.le_trans (by decide +kernel) h)]
      rfl
    rw [this]
    rfl
  · by_cases ha : a < 151
    · have : ∀ a, a < 151 → (pwl.getD a []).length ≤ 100 := by decide +kernel
      have := this a ha
      rw [List.getD_eq_getElem?_getD, List.getElem?_eq_none (by omega)]
      rfl
    · have : pwl.getD a [] = [] := by
        rw [List.getD_eq_getElem?_getD, List.getElem?_eq_none (Nat.le_trans (by decide +kernel) (show 151 ≤ a by omega))]
        rfl
      rw [this]
      rfl
theorem sw_now : sw2 (up (up (PWf 18) 0 2 (some 18)) 0 3 (some 3)) = PWf 3 := by
  funext a f
  by_cases h : 151 ≤ a ∨ 100 ≤ f
  · rw [PWf_none h]
    unfold sw2
    have hs : 151 ≤ swp a ∨ 100 ≤ f := by
      rcases h with h | h
      · left; rw [swp_out (by omega)]; exact h
      · exact Or.inr h
    have e : up (up (PWf 18) 0 2 (some 18)) 0 3 (some 3) (swp a) f = none := by
      by_cases h0 : swp a = 0
      · rw [h0, up_s, vu_n _ _ (by omega), up_s, vu_n _ _ (by omega)]
        exact PWf_none (by omega)
      · rw [up_n _ _ _ h0, up_n _ _ _ h0]
        exact PWf_none hs
    rw [e]
    rfl
  · have : ∀ a, a < 151 → ∀ f, f < 100 → sw2 (up (up (PWf 18) 0 2 (some 18)) 0 3 (some 3)) a f = PWf 3 a f := by decide +kernel
    exact this a (by omega) f (by omega)
theorem PWf_lt {tg : Nat} (ht : tg < NW) : ∀ a f b, PWf tg a f = some b → b < NW := by
  intro a f b h
  by_cases h1 : 151 ≤ a ∨ 100 ≤ f
  · rw [PWf_none h1] at h; cases h
  · by_cases h2 : a = 33 ∧ f = 3
    · unfold PWf at h; rw [if_pos h2] at h; cases h; exact ht
    · have : ∀ a, a < 151 → ∀ f, f < 100 → ((pwl.getD a []).getD f none).all (fun b => decide (b < NW)) = true := by decide +kernel
      have q := this a (by omega) f (by omega)
      unfold PWf at h
      rw [if_neg h2] at h
      rw [h] at q
      simpa using q
end
