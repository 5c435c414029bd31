/-! the two readers side by side: numbers, names -/
section
variable {I C : Is} {L M : Ls}
/-- both end with the same fault -/
def Flt (N n : Nat) (C : Is) (M : Ls) (J : Is) : Prop := (cM N n C M).1 = 0 ∧ (cM N n C M).2.1 33 4 = J 95 8 ∧ (cM N n C M).2.1 33 5 = J 95 9
/-- what stays in the component while a clause is read -/
def Cst (C C' : Is) (M M' : Ls) : Prop := (∀ a, a ≠ 33 → a ≠ 35 → C' a = C a) ∧ (∀ a, a ≠ 33 → M' a = M a)
/-- some tokens later -/
def cQ (N n : Nat) (C : Is) (M : Ls) (m : Nat) (C' : Is) (M' : Ls) : Prop := cM N n C M = cM N m C' M' ∧ m < n
theorem cQ.trans {N n m l : Nat} {C C1 C2 : Is} {M M1 M2 : Ls} (h : cQ N n C M m C1 M1) (g : cQ N m C1 M1 l C2 M2) : cQ N n C M l C2 M2 := ⟨h.1.trans g.1, Nat.lt_trans g.2 h.2⟩
theorem Cst_t {C C1 C2 : Is} {M M1 M2 : Ls} (h : Cst C C1 M M1) (g : Cst C1 C2 M1 M2) : Cst C C2 M M2 := ⟨fun a h1 h2 => by rw [g.1 a h1 h2, h.1 a h1 h2], fun a h1 => by rw [g.2 a h1, h.2 a h1]⟩
theorem bd_8 (k : Int32) : bdI I k 95 8 = k ∧ bdI I k 95 9 = I 95 3 := by unfold bdI; simp [up_eq, vu_eq]
theorem Flt_s {N p k s H G K n : Nat} {c : Int32} (hM : Mq N C p k s H G K) (hs : ¬ (lxT (C 2) N (lxQ (C 2) N p) = 4 ∧ s = 0)) (ht : C 2 = mtp I) (hS : mSc I N p) (hn : N - p < n) (hc : (acP (tokI C N p) (tokL C M N p) k s H G K).1 = c) (h0 : ¬ c = 0) : Flt N n C M (bdI I c) := by
  obtain ⟨m, rfl⟩ : ∃ m, n = m + 1 := ⟨n - 1, by omega⟩
  unfold Flt
  rw [cM_s hM hs, hc, if_neg h0, (bd_8 c).1, (bd_8 c).2, hS.2.2.2.2.1, ht]
  simp [up_eq, vu_eq]
theorem adv {N p k s H G K n : Nat} (hM : Mq N C p k s H G K) (hs : ¬ s = 0) (hn : N - p < n) (hc : (acP (tokI C N p) (tokL C M N p) k s H G K).1 = 0) : ∃ m, n = m + 1 ∧ N - lxD (C 2) N (lxQ (C 2) N p) < m ∧ cM N n C M = cM N m (acP (tokI C N p) (tokL C M N p) k s H G K).2.1 (acP (tokI C N p) (tokL C M N p) k s H G K).2.2 := by
  obtain ⟨m, rfl⟩ : ∃ m, n = m + 1 := ⟨n - 1, by omega⟩
  refine ⟨m, rfl, ?_, by rw [cM_s hM (fun z => hs z.2), if_pos hc]⟩
  have q := lxQ_r (C 2) hM.2.2.2.1
  by_cases z : lxQ (C 2) N p < N
  · have := lxD_r (C 2) z; omega
  · exfalso
    have h4 : tokI C N p 33 7 = 4 := by rw [tk_7]; unfold lxT; rw [if_neg z]
    have hT := Mq_t hM
    have := cS_4 (L := tokL C M N p) hT h4 hs
    rw [cS_e hT] at this
    rw [this] at hc
    exact absurd (show (1 : Int32) = 0 from hc) (by decide)
theorem num_s {N p k s i H G K n : Nat} {lo hi : Int32} (hM : Mq N C p k s H G K) (hs : s = wdN k + 1 + i) (hi' : i < nmN k) (ht : C 2 = mtp I) (hS : mSc I N p) (hn : N - p < n) (hlo : ol3.getD (k * 3 + i) 0 = lo) (hhi : ol4.getD (k * 3 + i) 0 = hi) : (¬ mnR I lo hi = 0 → Flt N n C M (bdI I (mnR I lo hi))) ∧ (mnR I lo hi = 0 → ∃ m C' M' p', cQ N n C M m C' M' ∧ Mq N C' p' k (s + 1) H G K ∧ N - p' < m ∧ I 95 4 = nI p' ∧ p' ≤ N ∧ Cst C C' M M' ∧ (∀ j, j ≠ i → C' 35 j = C 35 j) ∧ C' 35 i = I 95 6 ∧ (∀ j, j ≠ 6 → j ≠ 7 → j ≠ 8 → j ≠ 10 → j ≠ 11 → C' 33 j = C 33 j) ∧ M' 33 13 = M 33 13 ∧ lo.toInt ≤ (I 95 6).toInt ∧ (I 95 6).toInt ≤ hi.toInt) := by
  obtain ⟨h2, h9, hb, hp, h3, h4, h5, h6, _⟩ := id hS
  have hT := Mq_t hM
  have t7 := tk_7 (I := C) N p
  have t10 := tk_10 (I := C) N p
  have ea : acP (tokI C N p) (tokL C M N p) k s H G K = (amR (tokI C N p) k i, amI (tokI C N p) k i, tokL C M N p) := by
    rw [acP_m (by omega) (by omega), show s - wdN k - 1 = i by omega]
  have er : amR (tokI C N p) k i = mnR I lo hi := by
    unfold amR mnR
    rw [t7, t10, h5, ht, hlo, hhi]
    by_cases z : lxT (mtp I) N (lxQ (mtp I) N p) = 2
    · rw [h6 z (C 33 10), z, show mHd 2 = 2 from rfl]
      simp only [not_true_eq_false, if_false]
      by_cases y : lo.toInt ≤ (lxV (mtp I) N (lxQ (mtp I) N p) (C 33 10)).toInt ∧ (lxV (mtp I) N (lxQ (mtp I) N p) (C 33 10)).toInt ≤ hi.toInt
      · rw [if_pos y, if_neg (by omega)]
      · rw [if_neg y, if_pos (by omega)]
    · rw [if_pos z, if_pos (fun y => z (mHd_2.mp y))]
  refine ⟨fun h => Flt_s hM (by omega) ht hS hn (by rw [ea]; exact er) h, fun h => ?_⟩
  have hc : amR (tokI C N p) k i = 0 := by rw [er]; exact h
  obtain ⟨m, hm, hmn, e⟩ := adv (M := M) hM (by omega) hn (by rw [ea]; exact hc)
  rw [ea] at e
  have z2 : lxT (mtp I) N (lxQ (mtp I) N p) = 2 := by
    by_cases z : lxT (mtp I) N (lxQ (mtp I) N p) = 2
    · exact z
    · exfalso
      unfold mnR at h
      rw [h5, if_pos (fun y => z (mHd_2.mp y))] at h
      exact absurd h (by decide)
  have hr : lo.toInt ≤ (I 95 6).toInt ∧ (I 95 6).toInt ≤ hi.toInt := by
    unfold mnR at h
    rw [h5, if_neg (fun y => y (mHd_2.mpr z2))] at h
    split at h
    · assumption
    · exact absurd h (by decide)
  have hP := Pw_m hT.2.2.2.2.2 hs hi' hc
  have fr := am_fr (I := tokI C N p) k i
  have eC : amI (tokI C N p) k i = up (up (tokI C N p) 35 i (tokI C N p 33 10)) 33 11 (tokI C N p 33 11 + 1) := by unfold amI; rw [if_pos hc]
  have hMq : Mq N (amI (tokI C N p) k i) (lxD (C 2) N (lxQ (C 2) N p)) k (s + 1) H G K := ⟨by rw [fr.1 1 (by omega)]; exact hT.1, hT.2.1, by rw [fr.1 2 (by omega)]; exact hT.2.2.1, hT.2.2.2.1, by rw [fr.2 6 (by omega)]; exact hT.2.2.2.2.1, hP⟩
  refine ⟨m, amI (tokI C N p) k i, tokL C M N p, lxD (C 2) N (lxQ (C 2) N p), ⟨e, by omega⟩, hMq, hmn, by rw [h4, ht], hT.2.2.2.1, ⟨fun a a1 a2 => ?_, fun a a1 => tl_n _ _ a1⟩, fun j hj => ?_, ?_, fun j j6 j7 j8 j10 j11 => ?_, tl_k _ _ (by decide), hr⟩
  · rw [eC, up_n _ _ _ a1, up_n _ _ _ a2, tk_a _ _ a1]
  · rw [eC, up_n _ _ _ (by decide), up_s, vu_n _ _ hj, tk_a _ _ (by decide)]
  · rw [eC, up_n _ _ _ (by decide), up_s, vu_s, t10, ht, h6 z2 (C 33 10)]
  · rw [eC, up_s, vu_n _ _ j11, up_n _ _ _ (by decide), tk_k _ _ j6 j7 j8 j10]
/-- a word's number is the same on both sides -/
theorem word_s {N p : Nat} (ht : C 2 = mtp I) (h : lxT (mtp I) N (lxQ (mtp I) N p) = 1) : tokL C M N p 33 9 = nmW (mtp I) (lxD (mtp I) N (lxQ (mtp I) N p) - lxQ (mtp I) N p) (lxQ (mtp I) N p) 0 := by
  obtain ⟨_, _, _, w1, w2⟩ := lx_word h
  rw [tl_9, ht, w1, w2]
/-- a new name -/
theorem fre_s {N p k H G K n a b c : Nat} (hM : Mq N C p k 1 H G K) (hk : k = 0 ∧ a = 21 ∧ c = H ∨ k = 1 ∧ a = 27 ∧ c = G ∨ k = 4 ∧ a = 31 ∧ c = K) (ht : C 2 = mtp I) (hS : mSc I N p) (hn : N - p < n) (hnm : ∀ j, j < c → M a j = L b j) {w : Int64} (hw : nmW (mtp I) (lxD (mtp I) N (lxQ (mtp I) N p) - lxQ (mtp I) N p) (lxQ (mtp I) N p) 0 = w) : (¬ mfR I L b c w = 0 → Flt N n C M (bdI I (mfR I L b c w))) ∧ (mfR I L b c w = 0 → ∃ m C' M' p', cQ N n C M m C' M' ∧ Mq N C' p' k 2 H G K ∧ N - p' < m ∧ I 95 4 = nI p' ∧ p' ≤ N ∧ Cst C C' M M' ∧ M' 33 13 = w) := by
  obtain ⟨h2, h9, hb, hp, h3, h4, h5, h6, _⟩ := id hS
  have hT := Mq_t hM
  have t7 := tk_7 (I := C) N p
  have k1 : wdN k = 1 := by rcases hk with ⟨rfl, _⟩ | ⟨rfl, _⟩ | ⟨rfl, _⟩ <;> rfl
  have t12 : tokI C N p 33 12 = nI k := hT.2.2.2.2.2.1
  have e0 : acP (tokI C N p) (tokL C M N p) k 1 H G K = anF (tokI C N p) (tokL C M N p) H G K := acP_n (by decide) (by omega)
  by_cases z : lxT (mtp I) N (lxQ (mtp I) N p) = 1
  · have ew := word_s (C := C) (M := M) ht z
    rw [hw] at ew
    have z7 : tokI C N p 33 7 = 1 := by rw [t7, ht]; exact z
    have a33 : a ≠ 33 := by rcases hk with ⟨_, rfl, _⟩ | ⟨_, rfl, _⟩ | ⟨_, rfl, _⟩ <;> decide
    have ea : acP (tokI C N p) (tokL C M N p) k 1 H G K = (if ixN (M a) w c 0 = -1 then 0 else 3, up (tokI C N p) 33 11 (tokI C N p 33 11 + 1), up (tokL C M N p) 33 13 w) := by
      rw [e0]
      rcases hk with ⟨rfl, rfl, rfl⟩ | ⟨rfl, rfl, rfl⟩ | ⟨rfl, rfl, rfl⟩
      · rw [anF_0 z7 t12, ew, tl_n _ _ (by decide)]
      · rw [anF_1 z7 t12, ew, tl_n _ _ (by decide)]
      · rw [anF_4 z7 t12, ew, tl_n _ _ (by decide)]
    have ec : ixN (M a) w c 0 = ixN (L b) w c 0 := ixN_cg w c 0 (fun j _ hj => hnm j (by omega))
    have er : mfR I L b c w = if ixN (M a) w c 0 = -1 then 0 else 3 := by
      unfold mfR
      rw [h5, if_neg (fun y => y (mHd_1.mpr z)), ec]
    rw [er]
    refine ⟨fun h => Flt_s hM (by omega) ht hS hn (by rw [ea]) h, fun h => ?_⟩
    obtain ⟨m, hm, hmn, e⟩ := adv (M := M) hM (by omega) hn (by rw [ea]; exact h)
    have hP := Pw_n (L := tokL C M N p) hT.2.2.2.2.2 (by decide) (by omega) (by rw [← e0, ea]; exact h)
    rw [← e0, ea] at hP
    rw [ea] at e
    refine ⟨m, _, _, lxD (C 2) N (lxQ (C 2) N p), ⟨e, by omega⟩, ⟨?_, hT.2.1, ?_, hT.2.2.2.1, ?_, hP⟩, hmn, by rw [h4, ht], hT.2.2.2.1, ⟨fun a a1 a2 => ?_, fun a a1 => ?_⟩, ?_⟩
    · show up (tokI C N p) 33 11 (tokI C N p 33 11 + 1) 1 1 = _; rw [up_n _ _ _ (by decide)]; exact hT.1
    · show ∀ j, j < N → 0 ≤ (up (tokI C N p) 33 11 (tokI C N p 33 11 + 1) 2 j).toInt; rw [up_n _ _ _ (by decide)]; exact hT.2.2.1
    · show up (tokI C N p) 33 11 (tokI C N p 33 11 + 1) 33 6 = _; rw [up_s, vu_n _ _ (by decide)]; exact hT.2.2.2.2.1
    · show up (tokI C N p) 33 11 (tokI C N p 33 11 + 1) a = _; rw [up_n _ _ _ a1, tk_a _ _ a1]
    · show up (tokL C M N p) 33 13 w a = _; rw [up_n _ _ _ a1, tl_n _ _ a1]
    · show up (tokL C M N p) 33 13 w 33 13 = _; rw [up_s, vu_s]
  · have er : mfR I L b c w = 1 := by
      unfold mfR
      rw [h5, if_pos (fun y => z (mHd_1.mp y))]
    rw [er]
    refine ⟨fun h => Flt_s hM (by omega) ht hS hn ?_ h, fun h => absurd h (by decide)⟩
    rw [e0, anF_n (by rw [t7, ht]; exact z)]
end
