/-! THE FIRST WORLD -/
def Z32 : Is := fun _ _ => 0
def Z64 : Ls := fun _ _ => 0
def IW : Is := I12 (I11 Z32)
def LW : Ls := L12 (L11 Z64)
def lW : Rl := l12 (l11 [])
theorem PA_mem {l : Rl} {a f b : Nat} : PA l a f = some b → (a, f, b) ∈ l := by
  induction l with
  | nil => intro h; cases h
  | cons e t ih =>
    intro h
    have h : (if e.1 = a ∧ e.2.1 = f then some e.2.2 else PA t a f) = some b := h
    by_cases z : e.1 = a ∧ e.2.1 = f
    · rw [if_pos z] at h
      have e9 : e = (a, f, b) := by
        obtain ⟨e1, e2, e3⟩ := e
        simp only at z h
        rw [z.1, z.2, Option.some.inj h]
      rw [e9]
      exact List.mem_cons_self
    · rw [if_neg z] at h
      exact List.mem_cons_of_mem _ (ih h)
theorem PA_some {l : Rl} {a f b : Nat} : (a, f, b) ∈ l → ∃ c, PA l a f = some c := by
  induction l with
  | nil => intro h; cases h
  | cons e t ih =>
    intro h
    show ∃ c, (if e.1 = a ∧ e.2.1 = f then some e.2.2 else PA t a f) = some c
    by_cases z : e.1 = a ∧ e.2.1 = f
    · rw [if_pos z]; exact ⟨_, rfl⟩
    · rw [if_neg z]
      rcases List.mem_cons.mp h with y | y
      · exact absurd (by rw [← y]; exact ⟨rfl, rfl⟩) z
      · exact ih y
theorem lW_1 : lW.all (fun e => decide (PWf 18 e.1 e.2.1 = some e.2.2)) = true := by decide +kernel
def pwR (a : Nat) : List (Option Nat) := pwl.getD a []
theorem lW_2 : (List.range 151).all (fun a => (List.range (pwR a).length).all (fun f => match PWf 18 a f with | none => true | some b => decide ((a, f, b) ∈ lW))) = true := by decide +kernel
theorem lW_eq : PA lW = PWf 18 := by
  funext a f
  cases h : PA lW a f with
  | some b =>
    have := List.all_eq_true.mp lW_1 _ (PA_mem h)
    exact (of_decide_eq_true this).symm
  | none =>
    cases g : PWf 18 a f with
    | none => rfl
    | some b =>
      exfalso
      have ha : a < 151 ∧ f < (pwR a).length := by
        unfold PWf at g
        by_cases z : a = 33 ∧ f = 3
        · rw [z.1, z.2]; decide
        · rw [if_neg z] at g
          refine ⟨?_, ?_⟩
          · rcases Nat.lt_or_ge a 151 with y | y
            · exact y
            · have : pwl.getD a [] = [] := by
                rw [List.getD_eq_getElem?_getD, List.getElem?_eq_none (show pwl.length ≤ a from y)]
                rfl
              rw [this] at g
              cases g
          · rcases Nat.lt_or_ge f (pwR a).length with y | y
            · exact y
            · have : (pwl.getD a []).getD f none = none := by
                rw [List.getD_eq_getElem?_getD, List.getElem?_eq_none (show (pwl.getD a []).length ≤ f from y)]
                rfl
              rw [this] at g
              cases g
      have m := List.all_eq_true.mp (List.all_eq_true.mp lW_2 a (List.mem_range.mpr ha.1)) f (List.mem_range.mpr ha.2)
      rw [g] at m
      obtain ⟨c, hc⟩ := PA_some (of_decide_eq_true m)
      rw [h] at hc
      cases hc
theorem XW_0 : XV 151 IW LW (PA lW) = XW IW LW 18 := by rw [lW_eq]; rfl
/-- rows where nothing has been written -/
theorem IW_0 {a : Nat} (h : ¬ ((3 ≤ a ∧ a ≤ 11) ∨ (18 ≤ a ∧ a ≤ 26) ∨ a = 33 ∨ a = 95 ∨ a = 97)) : IW a = fun _ => 0 := by
  have n : ∀ b, ((3 ≤ b ∧ b ≤ 11) ∨ (18 ≤ b ∧ b ≤ 26) ∨ b = 33 ∨ b = 95 ∨ b = 97) → a ≠ b := fun b hb e => h (e ▸ hb)
  unfold IW I12 I11 cuV
  simp only [up_eq, upr_eq]
  simp [n 3 (by omega), n 4 (by omega), n 5 (by omega), n 10 (by omega), n 11 (by omega), n 18 (by omega), n 19 (by omega), n 20 (by omega), n 25 (by omega), n 26 (by omega), n 33 (by omega), n 95 (by omega), n 97 (by omega), Z32]
  rfl
theorem Inv_0 : Inv 0 IW LW := by
  have z : ∀ a, ¬ ((3 ≤ a ∧ a ≤ 11) ∨ (18 ≤ a ∧ a ≤ 26) ∨ a = 33 ∨ a = 95 ∨ a = 97) → ∀ k, IW a k = 0 := fun a ha k => by rw [IW_0 ha]
  have z95 : ∀ k, k ≠ 9 → k ≠ 14 → k ≠ 15 → IW 95 k = 0 := fun k h1 h2 h3 => by
    unfold IW I12
    simp only [up_eq, upr_eq]
    show va_up (va_up (va_up (I11 Z32 95) 9 (-1)) 14 8) 15 4 k = 0
    rw [vu_n _ _ h3, vu_n _ _ h2, vu_n _ _ h1]
    rfl
  have z3 : ∀ k, IW 3 k = 0 := fun k => by
    unfold IW I12 I11 cuV
    simp [up_eq, upr_eq, vu_eq, Z32]
  have t0 : (0 : Int32).toInt = 0 := rfl
  refine ⟨⟨⟨0, by omega, z 1 (by omega) 1, z95 1 (by decide) (by decide) (by decide)⟩, ?_, fun j => ?_⟩, ⟨?_, ?_⟩, ?_, ?_, ⟨fun h hh => ?_, fun h _ _ => z 69 (by omega) h⟩, ?_, ?_, ?_, ?_⟩
  · funext j
    unfold mtp
    rw [z 2 (by omega), z 96 (by omega)]
    rfl
  · rw [z 96 (by omega), t0]; omega
  · rw [z95 8 (by decide) (by decide) (by decide)]; rfl
  · rfl
  · refine ⟨0, 0, 0, ⟨by omega, by omega, by omega⟩, ⟨z3 14, z3 15, z3 16⟩, ⟨z95 10 (by decide) (by decide) (by decide), z95 11 (by decide) (by decide) (by decide), z95 12 (by decide) (by decide) (by decide)⟩, ⟨by rw [z95 13 (by decide) (by decide) (by decide)]; exact (z3 17).symm, rfl, rfl, by decide, by decide, by decide, by decide⟩, fun i hi => ?_, fun j hj => ⟨fun y => by omega, ?_⟩, fun h hh => by omega, fun h hh => by omega, fun h hh => by omega, fun h _ hh => ?_⟩
    · have : ∀ i, i < 9 → IW 97 i = IW 4 (i + 3) ∧ (ol3.getD (18 + 3 * i) 0).toInt ≤ (IW 4 (i + 3)).toInt ∧ (IW 4 (i + 3)).toInt ≤ (ol4.getD (18 + 3 * i) 0).toInt := by decide +kernel
      exact this i hi
    · have : ∀ j, j < 25 → -1 ≤ (IW 11 j).toInt ∧ (IW 11 j).toInt ≤ 60 := by decide +kernel
      exact this j hj
    · have : ∀ h, h < 5 → IW 10 h = -1 := by decide +kernel
      exact this h hh
  · have l44 : LW 44 0 = LW 95 47 := by decide +kernel
    have bz : ∀ b, (b = 36 ∨ b = 46 ∨ b = 55) → dgB 0 IW b := fun b hb => by
      refine ⟨⟨0, by omega, z b (by omega) 8, fun t ht => by omega⟩, ?_, fun h _ => ?_, fun g _ => ?_⟩
      · have : (bAll IW).toInt = 0 := by decide +kernel
        rw [z b (by omega), this, t0]; omega
      · rw [z _ (by omega), t0]; omega
      · rw [z _ (by omega), t0]
        refine ⟨by omega, fun y => ?_⟩
        rw [z3] at y
        exact absurd y (Nat.not_lt_zero _)
    refine ⟨bz 36 (by omega), ⟨?_, ?_, fun t ht => ?_, fun t ht => ?_, fun t ht => ?_, l44⟩, ⟨?_, fun y => absurd (z 46 (by omega) 10) y⟩, ⟨?_, fun y => absurd (z 55 (by omega) 10) y⟩⟩
    · rw [z 36 (by omega), z95 48 (by decide) (by decide) (by decide)]
    · rw [z 36 (by omega), z95 49 (by decide) (by decide) (by decide)]
    · rw [z 37 (by omega), z 38 (by omega), z 39 (by omega), z 40 (by omega), z 41 (by omega), z 120 (by omega), z 121 (by omega), z 122 (by omega), z 123 (by omega), z 124 (by omega)]; exact ⟨rfl, rfl, rfl, rfl, rfl⟩
    · rw [z 42 (by omega), z 125 (by omega)]
    · rw [z 43 (by omega), z 126 (by omega)]
    · rw [z 46 (by omega), z 129 (by omega)]
    · rw [z 55 (by omega), z 129 (by omega)]
  · rw [z3] at hh
    exact absurd hh (Nat.not_lt_zero _)
  · refine ⟨0, 0, by omega, by omega, z 75 (by omega) 8, z95 69 (by decide) (by decide) (by decide), z 75 (by omega) 9, z95 70 (by decide) (by decide) (by decide), ?_, ?_, ?_, fun k hk => by omega, fun k hk => by omega⟩
    · rw [z 75 (by omega), z95 71 (by decide) (by decide) (by decide)]
    · rw [z 75 (by omega), t0]; omega
    · rw [z 75 (by omega), z95 72 (by decide) (by decide) (by decide)]
  · refine ⟨0, 0, 0, by omega, by omega, by omega, z 84 (by omega) 7, z95 83 (by decide) (by decide) (by decide), z 84 (by omega) 8, z95 84 (by decide) (by decide) (by decide), z 84 (by omega) 9, z95 91 (by decide) (by decide) (by decide), fun k hk => by omega, fun k hk => by omega, ⟨?_, ⟨?_, fun r hr => ?_⟩, fun k hk => by omega⟩, fun k hk => by omega⟩
    · rw [z95 84 (by decide) (by decide) (by decide), t0]; omega
    · rw [z95 84 (by decide) (by decide) (by decide)]; decide
    · rw [z95 84 (by decide) (by decide) (by decide)] at hr
      exact absurd hr (Nat.not_lt_zero _)
  · exact ⟨0, by omega, z 92 (by omega) 3, z95 92 (by decide) (by decide) (by decide), fun k hk => by omega⟩
  · intro k hk
    show LW 34 k = lN (kwC k)
    unfold LW L12 L11 rdR
    simp [up_eq, upr_eq, hk]
