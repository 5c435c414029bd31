/-! best: who is next, on both sides -/
section
variable {out out' bef : Nat → Int32 → Int32} {P : Nat}
theorem mnq_og {t : Nat → Int32} {s : Nat} (hf : ∀ p m, p < P → out p m = out' p m) : ∀ i, i ≤ P → mnq out t s i = mnq out' t s i := by
  intro i
  induction i with
  | zero => intro _; rfl
  | succ i ih =>
    intro hi
    rw [mnq, mnq, ih (by omega), hf i _ (by omega)]
theorem erT_og {base : Nat → Int32} (hf : ∀ p m, p < P → out p m = out' p m) : ∀ n, erT out P base n = erT out' P base n := by
  intro n
  induction n with
  | zero => rfl
  | succ n ih => rw [erT, erT, ih, mnq_og hf P (Nat.le_refl _)]
/-- one may be next -/
def nxt (out : Nat → Int32 → Int32) (P lf : Nat) (m : Int32) (k : Nat) (goal : Int32) (p : Nat) : Prop := lf.testBit p = true ∧ ∃ s l, s < 2 ^ P ∧ (∀ j, s.testBit j = true → (clr lf p).testBit j = true) ∧ cnt s 32 = k ∧ enm l s ∧ (runL out l (out p m)).toInt ≤ goal.toInt
theorem sub_z {s c : Nat} (hs : s < 256) (hc : c < 256) : nI s &&& (nI c ^^^ (-1)) = 0 ↔ ∀ j, s.testBit j = true → c.testBit j = true := by
  have hl : spk s c ≤ s := Nat.and_le_left
  rw [spk_n (by omega) (by omega), show (0 : Int32) = nI 0 from rfl, nI_ij (by omega) (by omega)]
  constructor
  · intro h j hj
    have := spk_tb (S := s) (W := c) (by omega) j
    rw [h, hj, Nat.zero_testBit] at this
    cases hb : c.testBit j with
    | true => rfl
    | false => rw [hb] at this; cases this
  · intro h
    apply Nat.eq_of_testBit_eq
    intro j
    rw [spk_tb (by omega), Nat.zero_testBit]
    cases hb : s.testBit j with
    | false => rfl
    | true => rw [h j hb]; rfl
theorem lnp_nxt {lf k p : Nat} {m goal : Int32} {base : Nat → Int32} (h8 : P ≤ 8) (hO : outOk out' P) (hb : befOk out' bef P) (hf : ∀ p m, p < P → out p m = out' p m) (hg : 0 ≤ goal.toInt ∧ goal.toInt ≤ 999) (hlf : lf < 2 ^ P) (hp : p < P) (hk : k ≤ 8) (hm : 0 ≤ m.toInt ∧ m.toInt ≤ 10000) : lnp (laT bef P goal base (2 ^ P)) out P lf m (nI k) p = true ↔ nxt out' P lf m k goal p := by
  have h256 := p2_le P h8
  have q := (hO p hp).1 m hm.1 (by omega)
  have hcl := clr_le lf p
  unfold lnp nxt
  rw [Bool.and_eq_true, any_i, hf p m hp]
  refine and_congr_right (fun _ => ?_)
  constructor
  · rintro ⟨s, h1, h2, h3⟩
    obtain ⟨g1, g2, g3⟩ := of_decide_eq_true h3
    have hs : s < 2 ^ P := by omega
    have c8 := cnt_le s 32
    have g2 : cnt s 32 = k := (nI_ij (a := cnt s 32) (by omega) (by omega)).mp g2
    rw [i_le] at g3
    obtain ⟨l, l1, l2⟩ := (laT_ok hO hb (done := goal) (base := base) (by omega) s hs (by omega) (out' p m) (by omega) (by omega)).mp g3
    exact ⟨s, l, hs, (sub_z (by omega) (by omega)).mp g1, g2, l1, l2⟩
  · rintro ⟨s, l, hs, g1, g2, l1, l2⟩
    have c8 := cnt_le s 32
    refine ⟨s, Nat.zero_le _, by omega, decide_eq_true ⟨(sub_z (by omega) (by omega)).mpr g1, ?_, ?_⟩⟩
    · show nI (cnt s 32) = nI k
      rw [g2]
    · rw [i_le]
      exact (laT_ok hO hb (done := goal) (base := base) (by omega) s hs (by omega) (out' p m) (by omega) (by omega)).mpr ⟨l, l1, l2⟩
/-- those who are gone, those who are left -/
def cmpl (P lf sn : Nat) : Prop := lf < 2 ^ P ∧ ∀ j, j < P → lf.testBit j = !sn.testBit j
theorem ldB_nxt {lf sn k p : Nat} {m goal : Int32} (h8 : P ≤ 8) (hO : outOk out' P) (hg : 0 ≤ goal.toInt ∧ goal.toInt ≤ 999) (hc : cmpl P lf sn) (hp : p < P) (hm : 0 ≤ m.toInt ∧ m.toInt ≤ 10000) : ldB out' P sn m k goal p = true ↔ nxt out' P lf m k goal p := by
  have q := (hO p hp).1 m hm.1 (by omega)
  unfold ldB nxt
  rw [Bool.and_eq_true, ← hc.2 p hp, decide_eq_true_iff, i_le, ea_le (by omega)]
  refine and_congr_right (fun hpl => ?_)
  have or_tb : ∀ j, (sn ||| 2 ^ p).testBit j = false ↔ sn.testBit j = false ∧ j ≠ p := fun j => by
    rw [Nat.testBit_or, Nat.testBit_two_pow, Bool.or_eq_false_iff, decide_eq_false_iff_not]
    exact and_congr_right (fun _ => ne_comm)
  have sub : ∀ s, s < 2 ^ P → ((∀ j, s.testBit j = true → (sn ||| 2 ^ p).testBit j = false) ↔ ∀ j, s.testBit j = true → (clr lf p).testBit j = true) := by
    intro s hs
    constructor
    · intro h j hj
      have := (or_tb j).mp (h j hj)
      rw [clr_tb, hc.2 j (low_lt hj hs), this.1]
      simp [this.2]
    · intro h j hj
      have := h j hj
      rw [clr_tb, hc.2 j (low_lt hj hs), Bool.and_eq_true] at this
      refine (or_tb j).mpr ⟨?_, of_decide_eq_true this.2⟩
      cases hx : sn.testBit j with
      | false => rfl
      | true => rw [hx] at this; exact absurd this.1 (by decide)
  constructor
  · rintro ⟨s, s1, s2, s3⟩
    have ng : ∀ j, s.testBit j = true → (sn ||| 2 ^ p).testBit j = false := by
      intro j hj
      cases hx : (sn ||| 2 ^ p).testBit j with
      | false => rfl
      | true => exact absurd (show _ < (1000000 : Int) by omega) (foT_gone (base := fun _ => 0) hO (time := out' p m) (by omega) s s1 ⟨j, hj, hx⟩)
    obtain ⟨f1, -⟩ := foT_ok (base := fun _ => 0) h8 hO (gone := sn ||| 2 ^ p) (time := out' p m) (by omega) s s1 ng
    obtain ⟨l, l1, l2⟩ := (f1 _ (by omega)).mp s3
    exact ⟨s, l, s1, (sub s s1).mp ng, s2, l1, l2⟩
  · rintro ⟨s, l, s1, g1, s2, l1, l2⟩
    obtain ⟨f1, -⟩ := foT_ok (base := fun _ => 0) h8 hO (gone := sn ||| 2 ^ p) (time := out' p m) (by omega) s s1 ((sub s s1).mpr g1)
    exact ⟨s, s1, s2, (f1 _ (by omega)).mpr ⟨l, l1, l2⟩⟩
theorem cmpl_s {lf sn p : Nat} (h : cmpl P lf sn) : cmpl P (clr lf p) (sn ||| 2 ^ p) := by
  refine ⟨clr_lt2 h.1, fun j hj => ?_⟩
  rw [clr_tb, h.2 j hj, Nat.testBit_or, Nat.testBit_two_pow]
  by_cases e : j = p
  · subst e; simp
  · simp [e, Ne.symm e]
theorem cmpl_0 : cmpl P (2 ^ P - 1) 0 := by
  have := Nat.two_pow_pos P
  refine ⟨by omega, fun j hj => ?_⟩
  rw [Nat.testBit_two_pow_sub_one, Nat.zero_testBit]
  simp [hj]
/-- k of those who are left can be done by goal -/
def cando (out : Nat → Int32 → Int32) (P lf : Nat) (m : Int32) (k : Nat) (goal : Int32) : Prop := ∃ s l, s < 2 ^ P ∧ (∀ j, s.testBit j = true → lf.testBit j = true) ∧ cnt s 32 = k ∧ enm l s ∧ (runL out l m).toInt ≤ goal.toInt
theorem can_nxt {lf k : Nat} {m goal : Int32} (h8 : P ≤ 8) (h : cando out' P lf m (k + 1) goal) : ∃ p, p < P ∧ nxt out' P lf m k goal p := by
  obtain ⟨s, l, s1, s2, s3, l1, l2⟩ := h
  have h256 := p2_le P h8
  cases l with
  | nil =>
    have z : s = 0 := l1
    rw [z] at s3
    exact absurd s3 (by rw [show cnt 0 32 = 0 by decide]; omega)
  | cons p l =>
    have hp := low_lt l1.1 s1
    have hc := cnt_clr l1.1 32
    rw [if_pos (by omega)] at hc
    refine ⟨p, hp, s2 p l1.1, clr s p, l, clr_lt2 s1, fun j hj => ?_, by omega, l1.2, l2⟩
    rw [clr_tb, Bool.and_eq_true] at hj ⊢
    exact ⟨s2 j hj.1, hj.2⟩
theorem nxt_can {lf k p : Nat} {m goal : Int32} (h : nxt out' P lf m k goal p) : cando out' P (clr lf p) (out' p m) k goal := h.2
end
