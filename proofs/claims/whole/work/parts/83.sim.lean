/-! the two readers side by side: tokens -/
section
variable {I C : Is} {L M : Ls}
/-- the model has scanned the token at p -/
def mSc (I : Is) (N p : Nat) : Prop := I 95 2 = nI N ∧ N ≤ 900 ∧ (∀ j, j < N → -128 ≤ (I 96 j).toInt ∧ (I 96 j).toInt ≤ 127) ∧ p ≤ N ∧ I 95 3 = nI (lxQ (mtp I) N p) ∧ I 95 4 = nI (lxD (mtp I) N (lxQ (mtp I) N p)) ∧ I 95 5 = mHd (lxT (mtp I) N (lxQ (mtp I) N p)) ∧ (lxT (mtp I) N (lxQ (mtp I) N p) = 2 → ∀ v, I 95 6 = lxV (mtp I) N (lxQ (mtp I) N p) v) ∧ I 95 8 = 0 ∧ I 95 9 = -1
theorem mv_nm {t : Nat → Int32} {q : Nat} : ∀ n p v, q ≤ p → (nmE t n p v).1 - q ≤ 4 → mvE t q n p v = (nmE t n p v).2 := by
  intro n
  induction n with
  | zero => intro p v _ _; rfl
  | succ n ih =>
    intro p v hq h
    rw [nmE] at h ⊢
    rw [mvE]
    split at h
    · rename_i hd
      have hr := nmE_r t n (p + 1) (v * 10 + (t p - 48))
      have e : (if p - q < 4 then 10 * v + t p - 48 else v) = v * 10 + (t p - 48) := by
        rw [if_pos (by omega), Int32.mul_comm, Int32.sub_eq_add_neg, Int32.sub_eq_add_neg, Int32.add_assoc]
      rw [if_pos hd, if_pos hd, e]
      exact ih (p + 1) _ (by omega) h
    · rename_i hd
      rw [if_neg hd, if_neg hd]
theorem lxT_2 {t : Nat → Int32} {N q : Nat} (h : lxT t N q = 2) : q < N ∧ ¬ isL (t q) ∧ isDg (t q) ∧ (nmE t (N - q) q 0).1 - q ≤ 4 := by
  unfold lxT at h
  split at h
  · rename_i h1
    split at h
    · split at h <;> exact absurd h (by decide)
    · rename_i h2
      split at h
      · rename_i h3
        split at h
        · exact absurd h (by decide)
        · rename_i h4; exact ⟨h1, h2, h3, by omega⟩
      · split at h <;> exact absurd h (by decide)
  · exact absurd h (by decide)
theorem lxT_1 {t : Nat → Int32} {N q : Nat} (h : lxT t N q = 1) : q < N ∧ isL (t q) ∧ (wdE t (N - q) q 0).1 - q ≤ 8 := by
  unfold lxT at h
  split at h
  · rename_i h1
    split at h
    · rename_i h2
      split at h
      · exact absurd h (by decide)
      · rename_i h3; exact ⟨h1, h2, by omega⟩
    · split at h
      · split at h <;> exact absurd h (by decide)
      · split at h <;> exact absurd h (by decide)
  · exact absurd h (by decide)
/-- a word -/
theorem lx_word {t : Nat → Int32} {N q : Nat} (h : lxT t N q = 1) : q ≤ lxD t N q ∧ lxD t N q - q ≤ 8 ∧ (∀ i, i < lxD t N q - q → isL (t (q + i))) ∧ (∀ w, lxW t N q w = lN (cd (lrN t q) (lxD t N q - q))) ∧ nmW t (lxD t N q - q) q 0 = lN (cd (lrN t q) (lxD t N q - q)) := by
  obtain ⟨h1, h2, h3⟩ := lxT_1 h
  have e : lxD t N q = (wdE t (N - q) q 0).1 := by unfold lxD; rw [if_pos h1, if_pos h2]
  have r := wdE_r t (N - q) q 0
  have hl : ∀ i, i < lxD t N q - q → isL (t (q + i)) := by
    intro i hi
    rw [e] at hi
    exact wdE_L (N - q) q 0 (q + i) (by omega) (by omega)
  refine ⟨by rw [e]; exact r.1, by rw [e]; exact h3, hl, fun w => ?_, ?_⟩
  · unfold lxW
    rw [if_pos ⟨h1, h2⟩, e]
    exact wdE_cd (t := t) (q := q) (N - q) 0
  · have := nmW_cd (t := t) (q := q) (lxD t N q - q) 0 (by rw [e]; omega) (fun j hj => hl j (by omega))
    rw [Nat.zero_add] at this
    exact this
theorem mtp_sc (N p : Nat) : mtp (scI I N p) = mtp I := by
  funext j
  unfold mtp scI
  simp [up_eq]
theorem mSc_sc {N p : Nat} (h2 : I 95 2 = nI N) (h9 : N ≤ 900) (hb : ∀ j, j < N → -128 ≤ (I 96 j).toInt ∧ (I 96 j).toInt ≤ 127) (hk : I 95 8 = 0 ∧ I 95 9 = -1) (hp : p ≤ N) : mSc (scI I N p) N p := by
  unfold mSc
  rw [mtp_sc]
  have e96 : scI I N p 96 = I 96 := by unfold scI; simp [up_eq]
  rw [e96]
  refine ⟨by unfold scI; simp [up_eq, vu_eq, h2], h9, hb, hp, by unfold scI; simp [up_eq, vu_eq], by unfold scI; simp [up_eq, vu_eq], by unfold scI; simp [up_eq, vu_eq], fun h v => ?_, by unfold scI; simp [up_eq, vu_eq, hk.1], by unfold scI; simp [up_eq, vu_eq, hk.2]⟩
  obtain ⟨z1, z2, z3, z4⟩ := lxT_2 h
  have e6 : scI I N p 95 6 = mVl I N (lxQ (mtp I) N p) := by unfold scI; simp [up_eq, vu_eq]
  rw [e6]
  unfold mVl lxV
  rw [if_pos ⟨z1, z2, z3⟩, if_pos ⟨z1, z2, z3⟩]
  exact mv_nm _ _ _ (Nat.le_refl _) z4
theorem mSc_tk {N p : Nat} (h : mSc I N p) : mTk I N (lxQ (mtp I) N p) (lxD (mtp I) N (lxQ (mtp I) N p)) := by
  obtain ⟨h2, h9, hb, hp, h3, h4, h5, h6⟩ := h
  have q := lxQ_r (mtp I) hp
  refine ⟨h2, h9, h3, h4, ?_, ?_⟩
  · by_cases z : lxQ (mtp I) N p < N
    · exact Nat.le_of_lt (lxD_r _ z).1
    · unfold lxD; rw [if_neg z]; exact Nat.le_refl _
  · by_cases z : lxQ (mtp I) N p < N
    · exact (lxD_r _ z).2
    · unfold lxD; rw [if_neg z]; exact q.2
theorem mHd_1 {t : Nat → Int32} {N q : Nat} : mHd (lxT t N q) = 1 ↔ lxT t N q = 1 := by
  unfold mHd
  split
  · rename_i h; rw [h]; decide
  · split
    · rename_i h; rw [h]; decide
    · exact Iff.rfl
theorem mHd_2 {t : Nat → Int32} {N q : Nat} : mHd (lxT t N q) = 2 ↔ lxT t N q = 2 := by
  unfold mHd
  split
  · rename_i h; rw [h]; decide
  · split
    · rename_i h; rw [h]; decide
    · exact Iff.rfl
theorem mHd_3 {t : Nat → Int32} {N q : Nat} : mHd (lxT t N q) = 3 ↔ lxT t N q = 3 := by
  unfold mHd
  split
  · rename_i h; rw [h]; decide
  · split
    · rename_i h; rw [h]; decide
    · exact Iff.rfl
theorem mHd_0 {t : Nat → Int32} {N q : Nat} : mHd (lxT t N q) = 0 ↔ lxT t N q = 4 := by
  unfold mHd
  split
  · rename_i h; rw [h]; decide
  · rename_i h4
    split
    · rename_i h; rw [h]; decide
    · rename_i h; exact ⟨fun z => absurd z h, fun z => absurd z h4⟩
/-- one step of the component's machine -/
theorem cM_s {N p k s H G K n : Nat} (h : Mq N C p k s H G K) (hs : ¬ (lxT (C 2) N (lxQ (C 2) N p) = 4 ∧ s = 0)) : cM N (n + 1) C M = if (acP (tokI C N p) (tokL C M N p) k s H G K).1 = 0 then cM N n (acP (tokI C N p) (tokL C M N p) k s H G K).2.1 (acP (tokI C N p) (tokL C M N p) k s H G K).2.2 else (0, up (up (acP (tokI C N p) (tokL C M N p) k s H G K).2.1 33 4 (acP (tokI C N p) (tokL C M N p) k s H G K).1) 33 5 (nI (lxQ (C 2) N p)), (acP (tokI C N p) (tokL C M N p) k s H G K).2.2) := by
  have hT := Mq_t h
  obtain ⟨ep, _⟩ := Mq_c h
  have s11 : tokI C N p 33 11 = nI s := hT.2.2.2.2.2.2.2.1
  have sb : s ≤ 10 := by have := h.2.2.2.2.2.2.2.2.1; have := wd_r k; omega
  have f8 := (ac_fr (I := tokI C N p) (L := tokL C M N p) k s H G K).1.2 8 (by decide)
  rw [tk_8] at f8
  rw [cM, ep, tk_7, s11, if_neg (fun z => hs ⟨z.1, (nI_ij (b := 0) (by omega) (by omega)).mp z.2⟩), cS_e hT, f8]
theorem cM_0 {N p k H G K n : Nat} (h : Mq N C p k 0 H G K) (h4 : lxT (C 2) N (lxQ (C 2) N p) = 4) : cM N (n + 1) C M = (1, tokI C N p, tokL C M N p) := by
  have hT := Mq_t h
  obtain ⟨ep, _⟩ := Mq_c h
  have s11 : tokI C N p 33 11 = nI 0 := hT.2.2.2.2.2.2.2.1
  rw [cM, ep, tk_7, s11, if_pos ⟨h4, rfl⟩]
end
