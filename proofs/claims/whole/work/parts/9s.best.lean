/-! best: the first table of both -/
section
variable {sc : Sc} {I J : Is} {L K : Ls} {tg P : Nat} {out : Nat → Int32 → Int32}
theorem cnt_P (h8 : P ≤ 8) {s : Nat} (hs : s < 2 ^ P) : cnt s 32 ≤ P := by
  have := cnt_sub (tb_all hs) 32
  rw [cnt_all P (by omega)] at this
  exact this
theorem mnq_le {t : Nat → Int32} {s : Nat} {u : Int} (hu : u < 10000) : ∀ i, (mnq out t s i).toInt ≤ u ↔ ∃ p, p < i ∧ s.testBit p = true ∧ (out p (t (clr s p))).toInt ≤ u := by
  intro i
  induction i with
  | zero =>
    refine ⟨fun z => ?_, fun ⟨p, z, _⟩ => absurd z (Nat.not_lt_zero _)⟩
    have z : (10000 : Int32).toInt ≤ u := z
    simp only [Int32.reduceToInt] at z
    omega
  | succ i ih =>
    rw [mnq]
    by_cases z : s.testBit i = true
    · rw [if_pos z, iMin_i]
      constructor
      · intro y
        by_cases w : (out i (t (clr s i))).toInt ≤ u
        · exact ⟨i, by omega, z, w⟩
        · obtain ⟨p, p1, p2⟩ := ih.mp (by omega)
          exact ⟨p, by omega, p2⟩
      · rintro ⟨p, p1, p2, p3⟩
        by_cases w : p = i
        · subst w; omega
        · have := ih.mpr ⟨p, by omega, p2, p3⟩; omega
    · rw [if_neg z, ih]
      constructor
      · rintro ⟨p, p1, p2⟩; exact ⟨p, by omega, p2⟩
      · rintro ⟨p, p1, p2, p3⟩
        by_cases w : p = i
        · subst w; exact absurd p2 z
        · exact ⟨p, by omega, p2, p3⟩
theorem mnq_cg {t t' : Nat → Int32} {s : Nat} (h : ∀ p, s.testBit p = true → t (clr s p) = t' (clr s p)) : ∀ i, mnq out t s i = mnq out t' s i := by
  intro i
  induction i with
  | zero => rfl
  | succ i ih =>
    rw [mnq, mnq, ih]
    by_cases z : s.testBit i = true
    · rw [if_pos z, if_pos z, h i z]
    · rw [if_neg z, if_neg z]
theorem erT_eq {base : Nat → Int32} : ∀ n s, s < n → erT out P base n s = if s = 0 then 0 else mnq out (erT out P base n) s P := by
  intro n
  induction n with
  | zero => intro s hs; omega
  | succ n ih =>
    have keep : ∀ s, s < n → erT out P base (n + 1) s = erT out P base n s := fun s hs => by rw [erT, vu_n _ _ (by omega)]
    intro s hs
    by_cases z : s = n
    · subst z
      have e : erT out P base (s + 1) s = if s = 0 then 0 else mnq out (erT out P base s) s P := by rw [erT, vu_s]
      rw [e]
      by_cases y : s = 0
      · rw [if_pos y, if_pos y]
      · rw [if_neg y, if_neg y]
        exact mnq_cg (fun p hp => (keep _ (clr_lts hp)).symm) P
    · rw [keep s (by omega), ih s (by omega)]
      by_cases y : s = 0
      · rw [if_pos y, if_pos y]
      · rw [if_neg y, if_neg y]
        exact mnq_cg (fun p hp => (keep _ (by have := clr_lts hp; omega)).symm) P
/-- the table of the component is the model's -/
theorem er_fo {base base' : Nat → Int32} (h8 : P ≤ 8) (hO : outOk out P) : ∀ s, s < 2 ^ P → erT out P base (2 ^ P) s = foT out P 0 0 base' (2 ^ P) s := by
  have fo := foT_ok (gone := 0) (time := 0) (base := base') h8 hO ⟨by decide, by decide⟩
  have z0 : ∀ s : Nat, ∀ j, s.testBit j = true → (0 : Nat).testBit j = false := fun _ j _ => Nat.zero_testBit j
  intro s
  induction s using Nat.strongRecOn with
  | _ s ih =>
    intro hs
    rw [erT_eq _ s hs, foT_eq _ s hs]
    by_cases y : s = 0
    · rw [if_pos y, if_pos y]
    · rw [if_neg y, if_neg y, mnq_cg (t' := foT out P 0 0 base' (2 ^ P)) (fun p hp => ih _ (clr_lts hp) (clr_lt2 hs)) P]
      apply Int32.toInt_inj.mp
      have lt := (fo s hs (z0 s)).2
      have lt4 : (foT out P 0 0 base' (2 ^ P) s).toInt < 10000 := by
        have h256 := p2_le P h8
        have hs32 : s < 2 ^ 32 := Nat.lt_of_lt_of_le (Nat.lt_of_lt_of_le hs h256) (by decide)
        obtain ⟨l, l1, _⟩ := ((fo s hs (z0 s)).1 _ lt).mp (Int.le_refl _)
        have hl : l.length ≤ 8 := by rw [enm_len l s hs32 l1]; exact Nat.le_trans (cnt_P h8 hs) h8
        have r := run_rng hO l s 0 hs l1 (by decide) (by simp only [Int32.reduceToInt]; omega)
        have r2 := ((fo s hs (z0 s)).1 (runL out l 0).toInt (by simp only [Int32.reduceToInt] at r; omega)).mpr ⟨l, l1, Int.le_refl _⟩
        simp only [Int32.reduceToInt] at r
        omega
      rw [foT_eq _ s hs, if_neg y] at lt lt4
      have lc : ∀ p, s.testBit p = true → (foT out P 0 0 base' (2 ^ P) (clr s p)).toInt < 1000000 := fun p hp => (fo _ (clr_lt2 hs) (z0 _)).2
      have a1 : (mnq out (foT out P 0 0 base' (2 ^ P)) s P).toInt ≤ (mnM out (foT out P 0 0 base' (2 ^ P)) 0 s P).toInt := by
        obtain ⟨p, p1, p2, p3⟩ := (mnM_le (out := out) (t := foT out P 0 0 base' (2 ^ P)) (gone := 0) (s := s) lt P).mp (Int.le_refl _)
        exact (mnq_le (by omega) P).mpr ⟨p, p1, p2, p3.2.2⟩
      have a2 : (mnM out (foT out P 0 0 base' (2 ^ P)) 0 s P).toInt ≤ (mnq out (foT out P 0 0 base' (2 ^ P)) s P).toInt := by
        obtain ⟨p, p1, p2, p3⟩ := (mnq_le (out := out) (t := foT out P 0 0 base' (2 ^ P)) (s := s) (u := (mnq out (foT out P 0 0 base' (2 ^ P)) s P).toInt) (by omega) P).mp (Int.le_refl _)
        exact (mnM_le (by omega) P).mpr ⟨p, p1, p2, Nat.zero_testBit p, lc p p2, p3⟩
      omega
end
