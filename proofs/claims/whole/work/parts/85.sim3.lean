/-! the two readers side by side: keywords, huts' names -/
section
variable {I C : Is} {L M : Ls}
theorem ix_uni {f : Nat → Int64} {w : Int64} {j : Nat} (hj : f j = w) : ∀ n i, i ≤ j → j < i + n → (∀ l, i ≤ l → l < j → ¬ f l = w) → ixN f w n i = nI j := by
  intro n
  induction n with
  | zero => intro i h1 h2; omega
  | succ n ih =>
    intro i h1 h2 hl
    rw [ixN]
    by_cases z : i = j
    · rw [z, if_pos hj]
    · rw [if_neg (hl i (Nat.le_refl _) (by omega))]
      exact ih (i + 1) (by omega) (by omega) (fun l h3 h4 => hl l (by omega) h4)
theorem ix_non {f : Nat → Int64} {w : Int64} : ∀ n i, (∀ l, i ≤ l → l < i + n → ¬ f l = w) → ixN f w n i = -1 := by
  intro n
  induction n with
  | zero => intro i _; rfl
  | succ n ih =>
    intro i hl
    rw [ixN, if_neg (hl i (Nat.le_refl _) (by omega))]
    exact ih (i + 1) (fun l h3 h4 => hl l (by omega) (by omega))
/-- the keywords' table -/
def kwT (M : Ls) : Prop := ∀ k, k < 15 → M 34 k = lN (kwC k)
theorem tx_r {k : Nat} (hk : k < 15) : txN k < 16 ∧ txN k ≠ 0 := by
  unfold txN
  split
  · omega
  · split <;> omega
/-- which keyword the token is -/
theorem kw_is {N p : Nat} (hK : kwT M) (ht : C 2 = mtp I) (hS : mSc I N p) : (∀ k, k < 15 → isW I (lxQ (mtp I) N p) (lxD (mtp I) N (lxQ (mtp I) N p)) (txN k) → kwF (tokI C N p) (tokL C M N p) = nI k) ∧ ((∀ k, k < 15 → ¬ isW I (lxQ (mtp I) N p) (lxD (mtp I) N (lxQ (mtp I) N p)) (txN k)) → kwF (tokI C N p) (tokL C M N p) = -1) := by
  obtain ⟨h2, h9, hb, hp, h3, h4, h5, h6, _⟩ := id hS
  have hTk := mSc_tk hS
  have t7 := tk_7 (I := C) N p
  have e34 : tokL C M N p 34 = M 34 := tl_n _ _ (by decide)
  by_cases z : lxT (mtp I) N (lxQ (mtp I) N p) = 1
  · obtain ⟨w0, w8, wl, w1, w2⟩ := lx_word z
    have h51 : I 95 5 = 1 := by rw [h5]; exact mHd_1.mpr z
    have hwd : tokL C M N p 33 9 = lN (cd (lrN (mtp I) (lxQ (mtp I) N p)) (lxD (mtp I) N (lxQ (mtp I) N p) - lxQ (mtp I) N p)) := by rw [word_s ht z, w2]
    have hcl : cd (lrN (mtp I) (lxQ (mtp I) N p)) (lxD (mtp I) N (lxQ (mtp I) N p) - lxQ (mtp I) N p) < 1099511627776 := by
      have a1 := cd_lt (f := lrN (mtp I) (lxQ (mtp I) N p)) (lxD (mtp I) N (lxQ (mtp I) N p) - lxQ (mtp I) N p) (fun i hi => (lrN_r (wl i hi)).2.1)
      have a2 : 32 ^ (lxD (mtp I) N (lxQ (mtp I) N p) - lxQ (mtp I) N p) ≤ 32 ^ 8 := Nat.pow_le_pow_right (by decide) w8
      have a3 : 32 ^ 8 = 1099511627776 := by decide
      omega
    have iff : ∀ k, k < 15 → (isW I (lxQ (mtp I) N p) (lxD (mtp I) N (lxQ (mtp I) N p)) (txN k) ↔ cd (lrN (mtp I) (lxQ (mtp I) N p)) (lxD (mtp I) N (lxQ (mtp I) N p) - lxQ (mtp I) N p) = kwC k) := fun k hk => isW_cd (tx_r hk).1 (tx_r hk).2 hTk.2.2.2.2.2 hb w0 wl h51
    have ek : kwF (tokI C N p) (tokL C M N p) = ixN (M 34) (lN (cd (lrN (mtp I) (lxQ (mtp I) N p)) (lxD (mtp I) N (lxQ (mtp I) N p) - lxQ (mtp I) N p))) 15 0 := by
      unfold kwF
      rw [t7, ht, if_pos z, e34, hwd]
    rw [ek]
    constructor
    · intro k hk hw
      have ec := (iff k hk).mp hw
      refine ix_uni (by rw [hK k hk, ec]) 15 0 (by omega) (by omega) (fun l _ hl hz => ?_)
      rw [hK l (by omega)] at hz
      have e2 := (pk_lEQ (by have := kw_lt l (by omega); omega) (by omega)).mp hz
      rw [ec] at e2
      have := kw_inj l (by omega) k hk e2
      omega
    · intro hno
      refine ix_non 15 0 (fun l _ hl hz => hno l (by omega) ((iff l (by omega)).mpr ?_))
      rw [hK l (by omega)] at hz
      exact ((pk_lEQ (by have := kw_lt l (by omega); omega) (by omega)).mp hz).symm
  · have ek : kwF (tokI C N p) (tokL C M N p) = -1 := by
      unfold kwF
      rw [t7, ht, if_neg z]
    refine ⟨fun k hk hw => ?_, fun _ => ek⟩
    have := hw.1.1
    rw [h5] at this
    exact absurd (mHd_1.mp this) z
/-- a keyword -/
theorem kwd_s {N p k0 k H G K n : Nat} (hM : Mq N C p k0 0 H G K) (h4c : ¬ lxT (mtp I) N (lxQ (mtp I) N p) = 4) (ht : C 2 = mtp I) (hS : mSc I N p) (hn : N - p < n) (hk : k < 15) (hw : kwF (tokI C N p) (tokL C M N p) = nI k) : (¬ akR C (nI k) = 0 → Flt N n C M (bdI I (akR C (nI k)))) ∧ (akR C (nI k) = 0 → ∃ m C' M' p', cQ N n C M m C' M' ∧ Mq N C' p' k 1 H G K ∧ N - p' < m ∧ I 95 4 = nI p' ∧ p' ≤ N ∧ Cst C C' M M') := by
  obtain ⟨h2, h9, hb, hp, h3, h4, h5, h6, _⟩ := id hS
  have hT := Mq_t hM
  have er : akR (tokI C N p) (nI k) = akR C (nI k) := by
    unfold akR rmC
    rw [tk_a _ _ (show 20 ≠ 33 by decide), tk_a _ _ (show 18 ≠ 33 by decide)]
  have ea : acP (tokI C N p) (tokL C M N p) k0 0 H G K = (akR C (nI k), akI (tokI C N p) (nI k), tokL C M N p) := by rw [acP_k rfl, hw, er]
  refine ⟨fun h => Flt_s hM (fun z => h4c (by rw [← ht]; exact z.1)) ht hS hn (by rw [ea]) h, fun h => ?_⟩
  obtain ⟨m, rfl⟩ : ∃ m, n = m + 1 := ⟨n - 1, by omega⟩
  obtain ⟨k', e', hP⟩ := Pw_k (L := tokL C M N p) hT.2.2.2.2.2 rfl (by rw [hw, er]; exact h)
  rw [hw] at e' hP
  have ekk : k' = k := by
    have hk' : k' < 15 := hP.2.1
    exact ((nI_ij (by omega) (by omega)).mp e').symm
  subst ekk
  have fr := ak_fr (I := tokI C N p) (nI k')
  have hzq : lxQ (C 2) N p < N := by
    have q := lxQ_r (C 2) hp
    by_cases z : lxQ (C 2) N p < N
    · exact z
    · exfalso; apply h4c; rw [← ht]; unfold lxT; rw [if_neg z]
  have hd := lxD_r (C 2) hzq
  have q := lxQ_r (C 2) hp
  refine ⟨m, akI (tokI C N p) (nI k'), tokL C M N p, lxD (C 2) N (lxQ (C 2) N p), ⟨?_, by omega⟩, ⟨by rw [fr.1 1 (by omega)]; exact hT.1, hT.2.1, by rw [fr.1 2 (by omega)]; exact hT.2.2.1, hT.2.2.2.1, by rw [fr.2 6 (by omega)]; exact hT.2.2.2.2.1, hP⟩, by omega, by rw [h4, ht], hT.2.2.2.1, ⟨fun a a1 a2 => ?_, fun a a1 => tl_n _ _ a1⟩⟩
  · rw [cM_s hM (fun z => h4c (by rw [← ht]; exact z.1)), ea, if_pos h]
  · unfold akI
    split
    · exact tk_a _ _ a1
    · rw [up_n _ _ _ a1, up_n _ _ _ a1, tk_a _ _ a1]
/-- a hut's name in count and run -/
theorem hut_s {N p k s H G K n : Nat} (hM : Mq N C p k s H G K) (hk : k = 2 ∧ s = 1 ∨ k = 3 ∧ (s = 1 ∨ s = 2)) (ht : C 2 = mtp I) (hS : mSc I N p) (hn : N - p < n) (hnm : ∀ j, j < H → M 21 j = L 99 j) {f : Int32} (hf : ixN (L 99) (nmW (mtp I) (lxD (mtp I) N (lxQ (mtp I) N p) - lxQ (mtp I) N p) (lxQ (mtp I) N p) 0) H 0 = f) {r : Int32} (hr : r = if ¬ I 95 5 = 1 then 1 else if f = -1 then 5 else if k = 2 then (if C 25 f.toNatClampNeg = -1 then 0 else 3) else if s = 1 then 0 else if f = C 33 14 ∨ ¬ C 26 (C 33 14 * 5 + f).toNatClampNeg = -1 then 3 else 0) : (¬ r = 0 → Flt N n C M (bdI I r)) ∧ (r = 0 → ∃ m C' M' p', cQ N n C M m C' M' ∧ Mq N C' p' k (s + 1) H G K ∧ N - p' < m ∧ I 95 4 = nI p' ∧ p' ≤ N ∧ Cst C C' M M' ∧ (if s = 1 then C' 33 14 = f else C' 33 14 = C 33 14 ∧ C' 33 15 = f)) := by
  obtain ⟨h2, h9, hb, hp, h3, h4, h5, h6, _⟩ := id hS
  have hT := Mq_t hM
  have t7 := tk_7 (I := C) N p
  have t12 : tokI C N p 33 12 = nI k := hT.2.2.2.2.2.1
  have t11 : tokI C N p 33 11 = nI s := hT.2.2.2.2.2.2.2.1
  have sw : s ≤ wdN k := by
    rcases hk with ⟨rfl, rfl⟩ | ⟨rfl, z⟩
    · decide
    · have : wdN 3 = 2 := rfl
      omega
  have s0 : ¬ s = 0 := by omega
  have e0 : acP (tokI C N p) (tokL C M N p) k s H G K = anF (tokI C N p) (tokL C M N p) H G K := acP_n s0 sw
  by_cases z : lxT (mtp I) N (lxQ (mtp I) N p) = 1
  · have ew := word_s (C := C) (M := M) ht z
    have z7 : tokI C N p 33 7 = 1 := by rw [t7, ht]; exact z
    have ec : ixN (tokL C M N p 21) (tokL C M N p 33 9) H 0 = f := by
      rw [ew, tl_n _ _ (by decide), ← hf]
      exact ixN_cg _ _ _ (fun j _ hj => hnm j (by omega))
    have nk : ∀ j, j < 15 → ¬ k = j → ¬ tokI C N p 33 12 = nI j := fun j hj hz y => hz ((nI_ij (by omega) (by omega)).mp (t12.symm.trans y))
    have es : tokI C N p 33 11 + 1 = nI (s + 1) := by rw [t11]; exact nI_1 _
    have ea : acP (tokI C N p) (tokL C M N p) k s H G K = (ahR (up (tokI C N p) 33 11 (nI (s + 1))) (tokL C M N p) f, ahJ (up (tokI C N p) 33 11 (nI (s + 1))) f, tokL C M N p) := by
      rw [e0, anF_h z7 (nk 0 (by decide) (by omega)) (nk 1 (by decide) (by omega)) (nk 4 (by decide) (by omega)), ec, es]
    have u12 : up (tokI C N p) 33 11 (nI (s + 1)) 33 12 = nI k := by rw [up_s, vu_n _ _ (by decide)]; exact t12
    have u11 : up (tokI C N p) 33 11 (nI (s + 1)) 33 11 = nI (s + 1) := by rw [up_s, vu_s]
    have u14 : up (tokI C N p) 33 11 (nI (s + 1)) 33 14 = C 33 14 := by rw [up_s, vu_n _ _ (by decide), tk_k _ _ (by decide) (by decide) (by decide) (by decide)]
    have u25 : up (tokI C N p) 33 11 (nI (s + 1)) 25 = C 25 := by rw [up_n _ _ _ (by decide), tk_a _ _ (by decide)]
    have u26 : up (tokI C N p) 33 11 (nI (s + 1)) 26 = C 26 := by rw [up_n _ _ _ (by decide), tk_a _ _ (by decide)]
    have k2 : nI k = 2 ↔ k = 2 := nI_ij (b := 2) (by omega) (by omega)
    have s2 : nI (s + 1) = 2 ↔ s = 1 := ⟨fun y => by have := (nI_ij (b := 2) (by omega) (by omega)).mp y; omega, fun y => by rw [y]; rfl⟩
    have er : ahR (up (tokI C N p) 33 11 (nI (s + 1))) (tokL C M N p) f = r := by
      rw [hr, h5, mHd_1.mpr z]
      unfold ahR
      rw [u12, u11, u14, u25, u26]
      simp only [k2, s2, not_true_eq_false, if_false]
    rw [er] at ea
    refine ⟨fun h => Flt_s hM (by omega) ht hS hn (by rw [ea]) h, fun h => ?_⟩
    obtain ⟨m, hm, hmn, e⟩ := adv (M := M) hM s0 hn (by rw [ea]; exact h)
    have hP := Pw_n (L := tokL C M N p) hT.2.2.2.2.2 s0 sw (by rw [← e0, ea]; exact h)
    have fr := (ac_fr (I := tokI C N p) (L := tokL C M N p) k s H G K).1
    rw [← e0, ea] at hP
    rw [ea] at e fr
    have fr : frI (tokI C N p) (ahJ (up (tokI C N p) 33 11 (nI (s + 1))) f) := fr
    have fn : ¬ f = -1 := by
      intro y
      rw [hr, h5, mHd_1.mpr z, y] at h
      simp at h
    refine ⟨m, ahJ (up (tokI C N p) 33 11 (nI (s + 1))) f, tokL C M N p, lxD (C 2) N (lxQ (C 2) N p), ⟨e, by omega⟩, ⟨by rw [fr.1 1 (by omega)]; exact hT.1, hT.2.1, by rw [fr.1 2 (by omega)]; exact hT.2.2.1, hT.2.2.2.1, by rw [fr.2 6 (by omega)]; exact hT.2.2.2.2.1, hP⟩, hmn, by rw [h4, ht], hT.2.2.2.1, ⟨fun a a1 a2 => ?_, fun a a1 => tl_n _ _ a1⟩, ?_⟩
    · unfold ahJ
      rw [if_neg fn]
      split
      · rw [up_n _ _ _ a1, up_n _ _ _ a1, tk_a _ _ a1]
      · rw [up_n _ _ _ a1, up_n _ _ _ a1, tk_a _ _ a1]
    · unfold ahJ
      rw [if_neg fn, u12, u11]
      by_cases y : s = 1
      · rw [if_pos y, if_pos (Or.inr (s2.mpr y)), up_s, vu_s]
      · rw [if_neg y, if_neg (by rintro (x | x); have := k2.mp x; omega; exact y (s2.mp x)), up_s, vu_s, vu_n _ _ (by decide)]
        exact ⟨u14, rfl⟩
  · have er : r = 1 := by
      rw [hr, h5, if_pos (fun y => z (mHd_1.mp y))]
    rw [er]
    refine ⟨fun h => Flt_s hM (by omega) ht hS hn ?_ h, fun h => absurd h (by decide)⟩
    rw [e0, anF_n (by rw [t7, ht]; exact z)]
end
