/-! rows of people, and the two tables -/
section
variable {out bef : Nat → Int32 → Int32} {P : Nat}
def runL (out : Nat → Int32 → Int32) : List Nat → Int32 → Int32
  | [], t => t
  | p :: l, t => runL out l (out p t)
def enm : List Nat → Nat → Prop
  | [], s => s = 0
  | p :: l, s => s.testBit p = true ∧ enm l (clr s p)
def outOk (out : Nat → Int32 → Int32) (P : Nat) : Prop := ∀ p, p < P → (∀ m : Int32, 0 ≤ m.toInt → m.toInt ≤ 1500000 → m.toInt ≤ (out p m).toInt ∧ (out p m).toInt ≤ m.toInt + 623) ∧ ∀ m m' : Int32, 0 ≤ m.toInt → m.toInt ≤ m'.toInt → m'.toInt ≤ 1500000 → (out p m).toInt ≤ (out p m').toInt
theorem clr_comm (s p q : Nat) : clr (clr s p) q = clr (clr s q) p := by
  apply Nat.eq_of_testBit_eq
  intro j
  rw [clr_tb, clr_tb, clr_tb, clr_tb, Bool.and_assoc, Bool.and_assoc, Bool.and_comm (decide (j ≠ p))]
theorem enm_last : ∀ (l : List Nat) (s p : Nat), enm (l ++ [p]) s ↔ s.testBit p = true ∧ enm l (clr s p) := by
  intro l
  induction l with
  | nil => intro s p; exact Iff.rfl
  | cons q l ih =>
    intro s p
    show (s.testBit q = true ∧ enm (l ++ [p]) (clr s q)) ↔ (s.testBit p = true ∧ (clr s p).testBit q = true ∧ enm l (clr (clr s p) q))
    rw [ih, clr_tb, clr_tb, clr_comm s q p]
    constructor
    · rintro ⟨h1, h2, h3⟩
      rw [Bool.and_eq_true] at h2
      have hne : p ≠ q := of_decide_eq_true h2.2
      exact ⟨h2.1, by rw [h1]; simp [Ne.symm hne], h3⟩
    · rintro ⟨h1, h2, h3⟩
      rw [Bool.and_eq_true] at h2
      have hne : q ≠ p := of_decide_eq_true h2.2
      exact ⟨h2.1, by rw [h1]; simp [Ne.symm hne], h3⟩
theorem runL_last : ∀ (l : List Nat) (p : Nat) (t : Int32), runL out (l ++ [p]) t = out p (runL out l t) := by
  intro l
  induction l with
  | nil => intro p t; rfl
  | cons q l ih => intro p t; exact ih p (out q t)
theorem clr_lt2 {s p n : Nat} (h : s < 2 ^ n) : clr s p < 2 ^ n := Nat.lt_of_le_of_lt (clr_le s p) h
theorem clr_lts {s p : Nat} (h : s.testBit p = true) : clr s p < s := by
  unfold clr
  rw [if_pos h]
  have := Nat.two_pow_pos p
  have := Nat.ge_two_pow_of_testBit h
  omega
theorem enm_len : ∀ (l : List Nat) (s : Nat), s < 2 ^ 32 → enm l s → l.length = cnt s 32 := by
  intro l
  induction l with
  | nil => intro s _ h; have h : s = 0 := h; subst h; rfl
  | cons p l ih =>
    intro s hs h
    have h1 := ih _ (clr_lt2 hs) h.2
    have h2 := cnt_clr h.1 32
    have h3 : p < 32 := low_lt h.1 hs
    rw [if_pos h3] at h2
    show l.length + 1 = _
    omega
theorem run_rng (hO : outOk out P) : ∀ (l : List Nat) (s : Nat) (t : Int32), s < 2 ^ P → enm l s → 0 ≤ t.toInt → t.toInt + 623 * l.length ≤ 1500000 → t.toInt ≤ (runL out l t).toInt ∧ (runL out l t).toInt ≤ t.toInt + 623 * l.length := by
  intro l
  induction l with
  | nil => intro s t _ _ h0 h1; exact ⟨Int.le_refl _, by simp [runL]⟩
  | cons p l ih =>
    intro s t hs h h0 h1
    have hp : p < P := low_lt h.1 hs
    have hl : ((p :: l).length : Int) = l.length + 1 := by simp
    rw [hl] at h1 ⊢
    have q := (hO p hp).1 t h0 (by omega)
    have := ih _ (out p t) (clr_lt2 hs) h.2 (by omega) (by omega)
    show t.toInt ≤ (runL out l (out p t)).toInt ∧ (runL out l (out p t)).toInt ≤ _
    omega
theorem enm_ex : ∀ (n s : Nat), s < 2 ^ 32 → cnt s 32 = n → ∃ l, enm l s := by
  intro n
  induction n with
  | zero =>
    intro s hs hc
    rcases Nat.eq_zero_or_pos s with h | h
    · exact ⟨[], h⟩
    · obtain ⟨p, h1, -⟩ := low_ex h
      have := cnt_lt h1 (low_lt h1 hs)
      omega
  | succ n ih =>
    intro s hs hc
    rcases Nat.eq_zero_or_pos s with h | h
    · subst h; exact ⟨[], rfl⟩
    · obtain ⟨p, h1, -⟩ := low_ex h
      have h2 := cnt_clr h1 32
      rw [if_pos (low_lt h1 hs)] at h2
      obtain ⟨l, hl⟩ := ih (clr s p) (clr_lt2 hs) (by omega)
      exact ⟨p :: l, h1, hl⟩
/-- the least that is reached through the people below i -/
def mnM (out : Nat → Int32 → Int32) (t : Nat → Int32) (gone s : Nat) : Nat → Int32
  | 0 => 1000000
  | p + 1 => if s.testBit p = true ∧ gone.testBit p = false ∧ t (clr s p) < 1000000 then iMin (mnM out t gone s p) (out p (t (clr s p))) else mnM out t gone s p
def foT (out : Nat → Int32 → Int32) (P gone : Nat) (time : Int32) (base : Nat → Int32) : Nat → (Nat → Int32)
  | 0 => base
  | s + 1 => va_up (foT out P gone time base s) s (if s = 0 then time else mnM out (foT out P gone time base s) gone s P)
theorem iMin_i (a b : Int32) : (iMin a b).toInt = min a.toInt b.toInt := by
  unfold iMin
  by_cases h : b < a
  · rw [if_pos h]; rw [i_lt] at h; omega
  · rw [if_neg h]; rw [i_lt] at h; omega
theorem iMax_i (a b : Int32) : (iMax a b).toInt = max a.toInt b.toInt := by
  unfold iMax
  by_cases h : a < b
  · rw [if_pos h]; rw [i_lt] at h; omega
  · rw [if_neg h]; rw [i_lt] at h; omega
theorem mil : (1000000 : Int32).toInt = 1000000 := rfl
theorem mnM_le {t : Nat → Int32} {gone s : Nat} {u : Int} (hu : u < 1000000) : ∀ i, (mnM out t gone s i).toInt ≤ u ↔ ∃ p, p < i ∧ s.testBit p = true ∧ gone.testBit p = false ∧ (t (clr s p)).toInt < 1000000 ∧ (out p (t (clr s p))).toInt ≤ u := by
  intro i
  induction i with
  | zero =>
    constructor
    · intro h
      have h : (1000000 : Int32).toInt ≤ u := h
      rw [mil] at h
      omega
    · rintro ⟨p, hp, -⟩; omega
  | succ i ih =>
    rw [mnM]
    by_cases hc : s.testBit i = true ∧ gone.testBit i = false ∧ t (clr s i) < 1000000
    · rw [if_pos hc, iMin_i]
      constructor
      · intro h
        by_cases g : (mnM out t gone s i).toInt ≤ u
        · obtain ⟨p, h1, h2⟩ := ih.mp g
          exact ⟨p, by omega, h2⟩
        · exact ⟨i, by omega, hc.1, hc.2.1, by have := i_lt.mp hc.2.2; rw [mil] at this; exact this, by omega⟩
      · rintro ⟨p, h1, h2⟩
        by_cases e : p = i
        · subst e; have := h2.2.2.2; omega
        · have := ih.mpr ⟨p, by omega, h2⟩; omega
    · rw [if_neg hc, ih]
      constructor
      · rintro ⟨p, h1, h2⟩; exact ⟨p, by omega, h2⟩
      · rintro ⟨p, h1, h2⟩
        by_cases e : p = i
        · subst e; exact absurd ⟨h2.1, h2.2.1, by rw [i_lt, mil]; exact h2.2.2.1⟩ hc
        · exact ⟨p, by omega, h2⟩
theorem mnM_rng {t : Nat → Int32} {gone s : Nat} (h : ∀ p, s.testBit p = true → 0 ≤ (t (clr s p)).toInt ∧ (t (clr s p)).toInt ≤ 1000000) (hO : outOk out P) : ∀ i, i ≤ P → 0 ≤ (mnM out t gone s i).toInt ∧ (mnM out t gone s i).toInt ≤ 1000000 := by
  intro i
  induction i with
  | zero =>
    intro _
    show 0 ≤ (1000000 : Int32).toInt ∧ (1000000 : Int32).toInt ≤ 1000000
    decide
  | succ i ih =>
    intro hi
    have := ih (by omega)
    rw [mnM]
    by_cases hc : s.testBit i = true ∧ gone.testBit i = false ∧ t (clr s i) < 1000000
    · rw [if_pos hc, iMin_i]
      have q := h i hc.1
      have := (hO i (by omega)).1 _ q.1 (by omega)
      omega
    · rw [if_neg hc]
      exact this
theorem mnM_cg {t t' : Nat → Int32} {gone s : Nat} (h : ∀ p, s.testBit p = true → t (clr s p) = t' (clr s p)) : ∀ i, mnM out t gone s i = mnM out t' gone s i := by
  intro i
  induction i with
  | zero => rfl
  | succ i ih =>
    rw [mnM, mnM, ih]
    by_cases hb : s.testBit i = true
    · rw [h i hb]
    · rw [if_neg (fun z => hb z.1), if_neg (fun z => hb z.1)]
/-- the table's own equation -/
theorem foT_eq {gone : Nat} {time : Int32} {base : Nat → Int32} : ∀ n s, s < n → foT out P gone time base n s = if s = 0 then time else mnM out (foT out P gone time base n) gone s P := by
  have key : ∀ n s, s < n → foT out P gone time base n s = foT out P gone time base (s + 1) s := by
    intro n
    induction n with
    | zero => intro s h; omega
    | succ n ih =>
      intro s h
      by_cases e : s = n
      · subst e; rfl
      · rw [← ih s (by omega)]
        show va_up _ n _ s = _
        rw [vu_n _ _ e]
  intro n s h
  rw [key n s h]
  show va_up _ s _ s = _
  rw [vu_s]
  by_cases e : s = 0
  · rw [if_pos e, if_pos e]
  · rw [if_neg e, if_neg e]
    refine mnM_cg (fun p hp => ?_) P
    have h1 := clr_lts hp
    rw [key s _ h1, key n _ (by omega)]
theorem foT_rng {gone : Nat} {time : Int32} {base : Nat → Int32} {n : Nat} (hO : outOk out P) (ht : 0 ≤ time.toInt ∧ time.toInt ≤ 1000000) : ∀ s, s < n → 0 ≤ (foT out P gone time base n s).toInt ∧ (foT out P gone time base n s).toInt ≤ 1000000 := by
  intro s
  induction s using Nat.strongRecOn with
  | ind s ih =>
    intro h
    rw [foT_eq n s h]
    by_cases e : s = 0
    · rw [if_pos e]; exact ht
    · rw [if_neg e]
      exact mnM_rng (fun p hp => ih _ (clr_lts hp) (by have := clr_lts hp; omega)) hO P (Nat.le_refl _)
/-- the table says which rows are done by when -/
theorem foT_ok {gone : Nat} {time : Int32} {base : Nat → Int32} (h8 : P ≤ 8) (hO : outOk out P) (ht : 0 ≤ time.toInt ∧ time.toInt ≤ 900000) : ∀ s, s < 2 ^ P → (∀ j, s.testBit j = true → gone.testBit j = false) → (∀ u : Int, u < 1000000 → ((foT out P gone time base (2 ^ P) s).toInt ≤ u ↔ ∃ l, enm l s ∧ (runL out l time).toInt ≤ u)) ∧ (foT out P gone time base (2 ^ P) s).toInt < 1000000 := by
  have h256 := p2_le P h8
  intro s
  induction s using Nat.strongRecOn with
  | ind s ih =>
    intro hs hg
    have hs32 : s < 2 ^ 32 := Nat.lt_of_lt_of_le (Nat.lt_of_lt_of_le hs h256) (by decide)
    have main : ∀ u : Int, u < 1000000 → ((foT out P gone time base (2 ^ P) s).toInt ≤ u ↔ ∃ l, enm l s ∧ (runL out l time).toInt ≤ u) := by
      intro u hu
      rw [foT_eq _ s hs]
      by_cases e : s = 0
      · rw [if_pos e]
        subst e
        constructor
        · intro h; exact ⟨[], rfl, h⟩
        · rintro ⟨l, h1, h2⟩
          cases l with
          | nil => exact h2
          | cons p l => have := h1.1; simp at this
      · rw [if_neg e, mnM_le hu]
        constructor
        · rintro ⟨p, h1, h2, h3, h4, h5⟩
          obtain ⟨i1, -⟩ := ih _ (clr_lts h2) (clr_lt2 hs) (fun j hj => by rw [clr_tb, Bool.and_eq_true] at hj; exact hg j hj.1)
          obtain ⟨l, l1, l2⟩ := (i1 _ h4).mp (Int.le_refl _)
          have r := foT_rng (gone := gone) (base := base) (n := 2 ^ P) hO (time := time) (by omega) (clr s p) (clr_lt2 hs)
          have len := enm_len l _ (clr_lt2 hs32) l1
          have cl := cnt_le (clr s p) 32
          have rr := run_rng hO l _ time (clr_lt2 hs) l1 ht.1 (by omega)
          refine ⟨l ++ [p], (enm_last l s p).mpr ⟨h2, l1⟩, ?_⟩
          rw [runL_last]
          have := (hO p h1).2 (runL out l time) (foT out P gone time base (2 ^ P) (clr s p)) (by omega) l2 (by omega)
          omega
        · rintro ⟨l, l1, l2⟩
          rcases List.eq_nil_or_concat l with rfl | ⟨l', p, rfl⟩
          · exact absurd l1 e
          · rw [List.concat_eq_append] at l1 l2
            rw [enm_last] at l1
            rw [runL_last] at l2
            have hp : p < P := low_lt l1.1 hs
            obtain ⟨i1, i2⟩ := ih _ (clr_lts l1.1) (clr_lt2 hs) (fun j hj => by rw [clr_tb, Bool.and_eq_true] at hj; exact hg j hj.1)
            have len := enm_len l' _ (clr_lt2 hs32) l1.2
            have cl := cnt_le (clr s p) 32
            have rr := run_rng hO l' _ time (clr_lt2 hs) l1.2 ht.1 (by omega)
            have r := foT_rng (gone := gone) (base := base) (n := 2 ^ P) hO (time := time) (by omega) (clr s p) (clr_lt2 hs)
            have hle := (i1 (runL out l' time).toInt (by omega)).mpr ⟨l', l1.2, Int.le_refl _⟩
            have := (hO p hp).2 (foT out P gone time base (2 ^ P) (clr s p)) (runL out l' time) r.1 hle (by omega)
            exact ⟨p, hp, l1.1, hg p l1.1, i2, by omega⟩
    refine ⟨main, ?_⟩
    obtain ⟨l, hl⟩ := enm_ex _ s hs32 rfl
    have len := enm_len l _ hs32 hl
    have cl := cnt_le s 32
    have rr := run_rng hO l _ time hs hl ht.1 (by omega)
    have := (main (runL out l time).toInt (by omega)).mpr ⟨l, hl, Int.le_refl _⟩
    omega
theorem foT_gone {gone : Nat} {time : Int32} {base : Nat → Int32} (hO : outOk out P) (ht : 0 ≤ time.toInt ∧ time.toInt ≤ 900000) : ∀ s, s < 2 ^ P → (∃ j, s.testBit j = true ∧ gone.testBit j = true) → ¬ (foT out P gone time base (2 ^ P) s).toInt < 1000000 := by
  intro s
  induction s using Nat.strongRecOn with
  | ind s ih =>
    intro hs ⟨j, h1, h2⟩ hlt
    rw [foT_eq _ s hs, if_neg (fun z => by subst z; simp at h1)] at hlt
    have hlt2 : (mnM out (foT out P gone time base (2 ^ P)) gone s P).toInt ≤ 999999 := by omega
    obtain ⟨p, g1, g2, g3, g4, -⟩ := (mnM_le (by omega) P).mp hlt2
    refine ih _ (clr_lts g2) (clr_lt2 hs) ⟨j, ?_, h2⟩ g4
    rw [clr_tb, h1]
    have : j ≠ p := fun z => by rw [z, g3] at h2; cases h2
    simp [this]
/-- the other table: who must begin when -/
def befOk (out bef : Nat → Int32 → Int32) (P : Nat) : Prop := ∀ p, p < P → ∀ m u : Int32, 0 ≤ m.toInt → m.toInt ≤ 1500000 → -1000 ≤ u.toInt → u.toInt ≤ 1500000 → ((out p m).toInt ≤ u.toInt ↔ m.toInt ≤ (bef p u).toInt) ∧ (bef p u).toInt ≤ u.toInt
theorem mxq_ge {t : Nat → Int32} {s : Nat} {m : Int} (hm : 0 ≤ m) : ∀ i, m ≤ (mxq bef t s i).toInt ↔ ∃ p, p < i ∧ s.testBit p = true ∧ m ≤ (bef p (t (clr s p))).toInt := by
  intro i
  induction i with
  | zero =>
    constructor
    · intro h
      have h : m ≤ (-1 : Int32).toInt := h
      rw [show (-1 : Int32).toInt = -1 from rfl] at h
      omega
    · rintro ⟨p, hp, -⟩; omega
  | succ i ih =>
    rw [mxq]
    by_cases hc : s.testBit i = true
    · rw [if_pos hc, iMax_i]
      constructor
      · intro h
        by_cases g : m ≤ (mxq bef t s i).toInt
        · obtain ⟨p, h1, h2⟩ := ih.mp g
          exact ⟨p, by omega, h2⟩
        · exact ⟨i, by omega, hc, by omega⟩
      · rintro ⟨p, h1, h2⟩
        by_cases e : p = i
        · subst e; have := h2.2; omega
        · have := ih.mpr ⟨p, by omega, h2⟩; omega
    · rw [if_neg hc, ih]
      constructor
      · rintro ⟨p, h1, h2⟩; exact ⟨p, by omega, h2⟩
      · rintro ⟨p, h1, h2⟩
        by_cases e : p = i
        · subst e; exact absurd h2.1 hc
        · exact ⟨p, by omega, h2⟩
theorem mxq_cg {t t' : Nat → Int32} {s : Nat} (h : ∀ p, s.testBit p = true → t (clr s p) = t' (clr s p)) : ∀ i, mxq bef t s i = mxq bef t' s i := by
  intro i
  induction i with
  | zero => rfl
  | succ i ih =>
    rw [mxq, mxq, ih]
    by_cases hb : s.testBit i = true
    · rw [h i hb]
    · rw [if_neg hb, if_neg hb]
theorem laT_eq {done : Int32} {base : Nat → Int32} : ∀ n s, s < n → laT bef P done base n s = if s = 0 then done else mxq bef (laT bef P done base n) s P := by
  have key : ∀ n s, s < n → laT bef P done base n s = laT bef P done base (s + 1) s := by
    intro n
    induction n with
    | zero => intro s h; omega
    | succ n ih =>
      intro s h
      by_cases e : s = n
      · subst e; rfl
      · rw [← ih s (by omega)]
        show va_up _ n _ s = _
        rw [vu_n _ _ e]
  intro n s h
  rw [key n s h]
  show va_up _ s _ s = _
  rw [vu_s]
  by_cases e : s = 0
  · rw [if_pos e, if_pos e]
  · rw [if_neg e, if_neg e]
    refine mxq_cg (fun p hp => ?_) P
    have h1 := clr_lts hp
    rw [key s _ h1, key n _ (by omega)]
theorem mxq_rng {t : Nat → Int32} {s : Nat} {B : Int} (hB : -1 ≤ B) (h : ∀ p, s.testBit p = true → -1 ≤ (t (clr s p)).toInt ∧ (t (clr s p)).toInt ≤ B) (hb : befOk out bef P) (hB2 : B ≤ 1500000) : ∀ i, i ≤ P → -1 ≤ (mxq bef t s i).toInt ∧ (mxq bef t s i).toInt ≤ B := by
  intro i
  induction i with
  | zero =>
    intro _
    show -1 ≤ (-1 : Int32).toInt ∧ (-1 : Int32).toInt ≤ B
    exact ⟨by decide, hB⟩
  | succ i ih =>
    intro hi
    have := ih (by omega)
    rw [mxq]
    by_cases hc : s.testBit i = true
    · rw [if_pos hc, iMax_i]
      have q := h i hc
      have := (hb i (by omega) 0 (t (clr s i)) (by decide) (by decide) (by omega) (by omega)).2
      omega
    · rw [if_neg hc]; exact this
theorem laT_rng {done : Int32} {base : Nat → Int32} {n : Nat} (hb : befOk out bef P) (hd : 0 ≤ done.toInt ∧ done.toInt ≤ 1500000) : ∀ s, s < n → -1 ≤ (laT bef P done base n s).toInt ∧ (laT bef P done base n s).toInt ≤ done.toInt := by
  intro s
  induction s using Nat.strongRecOn with
  | ind s ih =>
    intro h
    rw [laT_eq n s h]
    by_cases e : s = 0
    · rw [if_pos e]; exact ⟨by omega, Int.le_refl _⟩
    · rw [if_neg e]
      exact mxq_rng (by omega) (fun p hp => ih _ (clr_lts hp) (by have := clr_lts hp; omega)) hb hd.2 P (Nat.le_refl _)
theorem laT_ok {done : Int32} {base : Nat → Int32} (hO : outOk out P) (hb : befOk out bef P) (hd : 0 ≤ done.toInt ∧ done.toInt ≤ 1000000) : ∀ s, s < 2 ^ P → s < 2 ^ 32 → ∀ m : Int32, 0 ≤ m.toInt → m.toInt + 623 * cnt s 32 ≤ 1500000 → (m.toInt ≤ (laT bef P done base (2 ^ P) s).toInt ↔ ∃ l, enm l s ∧ (runL out l m).toInt ≤ done.toInt) := by
  intro s
  induction s using Nat.strongRecOn with
  | ind s ih =>
    intro hs hs32 m h0 h1
    rw [laT_eq _ s hs]
    by_cases e : s = 0
    · rw [if_pos e]
      subst e
      constructor
      · intro h; exact ⟨[], rfl, h⟩
      · rintro ⟨l, h1, h2⟩
        cases l with
        | nil => exact h2
        | cons p l => have := h1.1; simp at this
    · rw [if_neg e, mxq_ge h0]
      have step : ∀ p, s.testBit p = true → (m.toInt ≤ (bef p (laT bef P done base (2 ^ P) (clr s p))).toInt ↔ ∃ l, enm l (clr s p) ∧ (runL out l (out p m)).toInt ≤ done.toInt) := by
        intro p hp
        have hP : p < P := low_lt hp hs
        have r := laT_rng (out := out) (base := base) (n := 2 ^ P) hb (done := done) (by omega) (clr s p) (clr_lt2 hs)
        have q := (hO p hP).1 m h0 (by omega)
        have hc := cnt_clr hp 32
        rw [if_pos (low_lt hp hs32)] at hc
        rw [← (hb p hP m _ h0 (by omega) (by omega) (by omega)).1]
        exact ih _ (clr_lts hp) (clr_lt2 hs) (clr_lt2 hs32) (out p m) (by omega) (by omega)
      constructor
      · rintro ⟨p, g1, g2, g3⟩
        obtain ⟨l, l1, l2⟩ := (step p g2).mp g3
        exact ⟨p :: l, ⟨g2, l1⟩, l2⟩
      · rintro ⟨l, l1, l2⟩
        cases l with
        | nil => exact absurd l1 e
        | cons p l => exact ⟨p, low_lt l1.1 hs, l1.1, (step p l1.1).mpr ⟨l, l1.2, l2⟩⟩
end
