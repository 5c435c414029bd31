/-! the component's reader as a machine: one TOKEN after another -/
section
variable {sc : Sc} {I : Is} {L : Ls}
def cS (I : Is) (L : Ls) : Int32 × Is × Ls := acP I L (nN (I 33 12)) (nN (I 33 11)) (nN (I 18 14)) (nN (I 18 15)) (nN (I 18 16))
def cM (N : Nat) : Nat → Is → Ls → Int32 × Is × Ls
  | 0, I, L => (0, I, L)
  | n + 1, I, L =>
    if tokI I N (nN (I 33 6)) 33 7 = 4 ∧ tokI I N (nN (I 33 6)) 33 11 = 0 then (1, tokI I N (nN (I 33 6)), tokL I L N (nN (I 33 6)))
    else if (cS (tokI I N (nN (I 33 6))) (tokL I L N (nN (I 33 6)))).1 = 0 then cM N n (cS (tokI I N (nN (I 33 6))) (tokL I L N (nN (I 33 6)))).2.1 (cS (tokI I N (nN (I 33 6))) (tokL I L N (nN (I 33 6)))).2.2
    else (0, up (up (cS (tokI I N (nN (I 33 6))) (tokL I L N (nN (I 33 6)))).2.1 33 4 (cS (tokI I N (nN (I 33 6))) (tokL I L N (nN (I 33 6)))).1) 33 5 ((cS (tokI I N (nN (I 33 6))) (tokL I L N (nN (I 33 6)))).2.1 33 8), (cS (tokI I N (nN (I 33 6))) (tokL I L N (nN (I 33 6)))).2.2)
theorem lxD_r (t : Nat → Int32) {N q : Nat} (h : q < N) : q < lxD t N q ∧ lxD t N q ≤ N := by
  obtain ⟨m, hm⟩ : ∃ m, N - q = m + 1 := ⟨N - q - 1, by omega⟩
  unfold lxD
  rw [if_pos h]
  split
  · rename_i h1
    rw [hm, wdE, if_pos h1]
    have := wdE_r t m (q + 1) (wlS 0 (t q))
    omega
  · split
    · rename_i h1
      rw [hm, nmE, if_pos h1]
      have := nmE_r t m (q + 1) (0 * 10 + (t q - 48))
      omega
    · omega
theorem lxT_4 (t : Nat → Int32) {N q : Nat} (h : q < N) : ¬ lxT t N q = 4 := by
  unfold lxT
  rw [if_pos h]
  split
  · split <;> decide
  · split
    · split <;> decide
    · split <;> decide
/-- the parts of a token -/
theorem tk_6 (N p : Nat) : tokI I N p 33 6 = nI (lxD (I 2) N (lxQ (I 2) N p)) := by simp [tokI, up_eq, vu_eq]
theorem tk_7 (N p : Nat) : tokI I N p 33 7 = lxT (I 2) N (lxQ (I 2) N p) := by simp [tokI, up_eq, vu_eq]
theorem tk_8 (N p : Nat) : tokI I N p 33 8 = nI (lxQ (I 2) N p) := by simp [tokI, up_eq, vu_eq]
theorem tk_10 (N p : Nat) : tokI I N p 33 10 = lxV (I 2) N (lxQ (I 2) N p) (I 33 10) := by simp [tokI, up_eq, vu_eq]
theorem tk_k (N p : Nat) {k : Nat} (h6 : k ≠ 6) (h7 : k ≠ 7) (h8 : k ≠ 8) (h10 : k ≠ 10) : tokI I N p 33 k = I 33 k := by simp [tokI, up_eq, vu_eq, h6, h7, h8, h10]
theorem tk_a (N p : Nat) {a : Nat} (h : a ≠ 33) : tokI I N p a = I a := by simp [tokI, up_eq, h]
theorem tl_9 (N p : Nat) : tokL I L N p 33 9 = lxW (I 2) N (lxQ (I 2) N p) (L 33 9) := by simp [tokL, up_eq, vu_eq]
theorem tl_k (N p : Nat) {k : Nat} (h : k ≠ 9) : tokL I L N p 33 k = L 33 k := by simp [tokL, up_eq, vu_eq, h]
theorem tl_n (N p : Nat) {a : Nat} (h : a ≠ 33) : tokL I L N p a = L a := by simp [tokL, up_eq, h]
/-- what a token leaves as it is -/
def frI (I J : Is) : Prop := (∀ a, ¬ (18 ≤ a ∧ a ≤ 35) → J a = I a) ∧ ∀ k, k < 11 → J 33 k = I 33 k
def frL (L M : Ls) : Prop := ∀ a, a ≠ 21 → a ≠ 27 → a ≠ 31 → a ≠ 33 → M a = L a
theorem frI_t {I J M : Is} (h : frI I J) (g : frI J M) : frI I M := ⟨fun a ha => by rw [g.1 a ha, h.1 a ha], fun k hk => by rw [g.2 k hk, h.2 k hk]⟩
theorem frL_t {I J M : Ls} (h : frL I J) (g : frL J M) : frL I M := fun a h1 h2 h3 h4 => by rw [g a h1 h2 h3 h4, h a h1 h2 h3 h4]
theorem tl_fr (N p : Nat) : frL L (tokL I L N p) := fun a _ _ _ h => tl_n _ _ h
theorem up_fr {a k : Nat} {v : Int32} (h : 18 ≤ a ∧ a ≤ 35) (h4 : a = 33 → 11 ≤ k) : frI I (up I a k v) := by
  refine ⟨fun b hb => up_n _ _ _ (by omega), fun j hj => ?_⟩
  by_cases e : a = 33
  · have := h4 e
    rw [e, up_s, vu_n _ _ (by omega)]
  · rw [up_n _ _ _ (Ne.symm e)]
theorem frI_r : frI I I := ⟨fun _ _ => rfl, fun _ _ => rfl⟩
theorem frL_r : frL L L := fun _ _ _ _ _ => rfl
theorem upl_fr {a k : Nat} {v : Int64} (h : a = 21 ∨ a = 27 ∨ a = 31 ∨ a = 33) : frL L (up L a k v) := fun b h1 h2 h3 h4 => up_n _ _ _ (by omega)
theorem ak_fr (f : Int32) : frI I (akI I f) := by
  unfold akI
  split
  · exact frI_r
  · exact frI_t (up_fr (by decide) (by omega)) (up_fr (by decide) (by omega))
theorem ahJ_fr (f : Int32) : frI I (ahJ I f) := by
  unfold ahJ
  split
  · exact frI_r
  · split
    · exact up_fr (by decide) (by omega)
    · exact up_fr (by decide) (by omega)
theorem an_fr (H G K : Nat) : frI I (anF I L H G K).2.1 ∧ frL L (anF I L H G K).2.2 := by
  unfold anF
  have u1 : frI I (up I 33 11 (I 33 11 + 1)) := up_fr (by decide) (by omega)
  have u2 : frL L (up L 33 13 (L 33 9)) := upl_fr (by decide)
  split
  · exact ⟨frI_r, frL_r⟩
  · split
    · exact ⟨u1, u2⟩
    · split
      · exact ⟨u1, u2⟩
      · split
        · exact ⟨u1, u2⟩
        · exact ⟨frI_t u1 (ahJ_fr _), frL_r⟩
theorem am_fr (k i : Nat) : frI I (amI I k i) := by
  unfold amI
  split
  · exact frI_t (up_fr (by decide) (by omega)) (up_fr (by decide) (by omega))
  · exact frI_r
theorem ap_fr (k H G K : Nat) : frI I (apcI I k H G K) := by
  unfold apcI
  have u : frI I (ap1 I) := up_fr (by decide) (by omega)
  refine frI_t u ?_
  split
  · unfold ahI; exact frI_t (frI_t (frI_t (up_fr (by decide) (by omega)) (up_fr (by decide) (by omega))) (up_fr (by decide) (by omega))) (up_fr (by decide) (by omega))
  · split
    · unfold agI; exact frI_t (frI_t (frI_t (up_fr (by decide) (by omega)) (up_fr (by decide) (by omega))) (up_fr (by decide) (by omega))) (up_fr (by decide) (by omega))
    · split
      · exact up_fr (by decide) (by omega)
      · split
        · exact frI_t (up_fr (by decide) (by omega)) (up_fr (by decide) (by omega))
        · split
          · unfold alI; exact frI_t (up_fr (by decide) (by omega)) (up_fr (by decide) (by omega))
          · split
            · exact frI_t (frI_t (frI_t (up_fr (by decide) (by omega)) (up_fr (by decide) (by omega))) (up_fr (by decide) (by omega))) (up_fr (by decide) (by omega))
            · exact frI_t (up_fr (by decide) (by omega)) (up_fr (by decide) (by omega))
theorem apL_fr (k H G K : Nat) : frL L (apL L k H G K) := by
  unfold apL
  split
  · exact upl_fr (by decide)
  · split
    · exact upl_fr (by decide)
    · split
      · exact upl_fr (by decide)
      · exact frL_r
theorem ac_fr (k s H G K : Nat) : frI I (acP I L k s H G K).2.1 ∧ frL L (acP I L k s H G K).2.2 := by
  unfold acP
  split
  · exact ⟨ak_fr _, frL_r⟩
  · split
    · exact an_fr _ _ _
    · split
      · exact ⟨am_fr _ _, frL_r⟩
      · split
        · exact ⟨frI_r, frL_r⟩
        · exact ⟨frI_t (ap_fr _ _ _ _) (up_fr (by decide) (by omega)), apL_fr _ _ _ _⟩
/-- a good token keeps the bounds -/
theorem Pw_t {k s H G K : Nat} (N p : Nat) (h : Pw I k s H G K) : Pw (tokI I N p) k s H G K := by
  obtain ⟨h1, h2, h3, h4, h5, h6, h7, h8⟩ := h
  unfold Pw cBd at *
  rw [tk_a _ _ (show 18 ≠ 33 by decide), tk_k _ _ (show 12 ≠ 6 by decide) (by decide) (by decide) (by decide), tk_k _ _ (show 11 ≠ 6 by decide) (by decide) (by decide) (by decide), tk_k _ _ (show 14 ≠ 6 by decide) (by decide) (by decide) (by decide), tk_k _ _ (show 15 ≠ 6 by decide) (by decide) (by decide) (by decide)]
  exact ⟨h1, h2, h3, h4, h5, h6, h7, h8⟩
theorem ix_r {f : Nat → Int64} {w : Int64} {H : Nat} (h5 : H ≤ 5) (h : ¬ ixN f w H 0 = -1) : 0 ≤ (ixN f w H 0).toInt ∧ (ixN f w H 0).toInt < 5 := by
  rcases ixN_r f w H 0 with z | ⟨j, h1, h2, h3, h4⟩
  · exact absurd z h
  · rw [h3, nI_toInt (by omega)]; omega
theorem Pw_k {k s H G K : Nat} (h : Pw I k s H G K) (h0 : s = 0) (hc : akR I (kwF I L) = 0) : ∃ k', kwF I L = nI k' ∧ Pw (akI I (kwF I L)) k' 1 H G K := by
  obtain ⟨h1, h2, h3, h4, h5, h6, h7, h8⟩ := h
  obtain ⟨hH, b5, hG, b4, hK, b4'⟩ := h5
  rcases kwF_r (I := I) (L := L) with z | ⟨k', hk, z, _⟩
  · rw [z] at hc; unfold akR at hc; rw [if_pos rfl] at hc; exact absurd hc (by decide)
  · refine ⟨k', z, ?_⟩
    have zi : (nI k').toInt = k' := nI_toInt (by omega)
    rw [z] at hc ⊢
    have zn : ¬ nI k' = -1 := nI_nn (by omega)
    unfold akR at hc
    rw [if_neg zn] at hc
    have hrm : rmC I (nI k') := by
      split at hc
      · exact absurd hc (by decide)
      · split at hc
        · assumption
        · exact absurd hc (by decide)
    have wr := wd_r k'
    unfold akI
    rw [if_neg zn]
    unfold Pw cBd
    simp only [up_eq, vu_eq]
    refine ⟨by simp [vu_eq], hk, by simp [vu_eq]; rfl, by omega, ⟨by simpa using hH, b5, by simpa using hG, b4, by simpa using hK, b4'⟩, fun _ => ⟨fun e => ?_, fun e => ?_, fun e => ?_⟩, fun e => by omega, fun e => by omega⟩
    · have := hrm.1 (by rw [e]; rfl); rw [hH, nI_toInt (by omega)] at this; omega
    · have := hrm.2.1 (by rw [e]; rfl); rw [hG, nI_toInt (by omega)] at this; omega
    · have := hrm.2.2 (by rw [e]; rfl); rw [hK, nI_toInt (by omega)] at this; omega
theorem Pw_up {k s s' H G K : Nat} (h : Pw I k s H G K) {J : Is} (a18 : J 18 = I 18) (a12 : J 33 12 = I 33 12) (a11 : J 33 11 = nI s') (hs' : s' ≤ wdN k + nmN k + 1) (hs0 : s ≠ 0) (f1 : 2 ≤ s' → k = 2 ∨ k = 3 → 0 ≤ (J 33 14).toInt ∧ (J 33 14).toInt < 5) (f2 : 3 ≤ s' → k = 3 → 0 ≤ (J 33 15).toInt ∧ (J 33 15).toInt < 5) : Pw J k s' H G K := by
  obtain ⟨h1, h2, h3, h4, h5, h6, h7, h8⟩ := h
  unfold Pw cBd
  rw [a18, a12]
  exact ⟨h1, h2, a11, hs', h5, fun _ => h6 hs0, f1, f2⟩
theorem Pw_n {k s H G K : Nat} (h : Pw I k s H G K) (h0 : ¬ s = 0) (hs : s ≤ wdN k) (hc : (anF I L H G K).1 = 0) : Pw (anF I L H G K).2.1 k (s + 1) H G K := by
  have h' := h
  obtain ⟨h1, h2, h3, h4, h5, h6, h7, h8⟩ := h'
  have wr := wd_r k
  have b5 := h5.2.1
  by_cases h71 : I 33 7 = 1
  · have kk : ∀ j, j < 15 → (I 33 12 = nI j ↔ k = j) := fun j hj => by rw [h1]; exact nI_ij (by omega) (by omega)
    have es : I 33 11 + 1 = nI (s + 1) := by rw [h3]; exact nI_1 _
    have base : ¬ k = 2 → ¬ k = 3 → Pw (up I 33 11 (I 33 11 + 1)) k (s + 1) H G K := by
      intro z2 z3
      exact Pw_up h (by simp [up_eq]) (by simp [up_eq, vu_eq]) (by simp [up_eq, vu_eq, es]) (by omega) h0 (fun _ z => by omega) (fun _ z => by omega)
    by_cases k0 : k = 0
    · rw [anF_0 h71 ((kk 0 (by decide)).mpr k0)]; exact base (by omega) (by omega)
    · by_cases k1 : k = 1
      · rw [anF_1 h71 ((kk 1 (by decide)).mpr k1)]; exact base (by omega) (by omega)
      · by_cases k4 : k = 4
        · rw [anF_4 h71 ((kk 4 (by decide)).mpr k4)]; exact base (by omega) (by omega)
        · have k23 : k = 2 ∨ k = 3 := by unfold wdN at hs; split at hs; omega; split at hs <;> omega
          rw [anF_h h71 (fun z => k0 ((kk 0 (by decide)).mp z)) (fun z => k1 ((kk 1 (by decide)).mp z)) (fun z => k4 ((kk 4 (by decide)).mp z))] at hc ⊢
          show Pw (ahJ (up I 33 11 (I 33 11 + 1)) (ixN (L 21) (L 33 9) H 0)) k (s + 1) H G K
          have hc : ahR (up I 33 11 (I 33 11 + 1)) L (ixN (L 21) (L 33 9) H 0) = 0 := hc
          have fn : ¬ ixN (L 21) (L 33 9) H 0 = -1 := by
            intro z
            rw [z] at hc
            unfold ahR at hc
            rw [if_pos rfl] at hc
            exact absurd hc (by decide)
          have fr := ix_r b5 fn
          unfold ahJ
          rw [if_neg fn]
          have a12 : up I 33 11 (I 33 11 + 1) 33 12 = I 33 12 := by simp [up_eq, vu_eq]
          have a11 : up I 33 11 (I 33 11 + 1) 33 11 = nI (s + 1) := by simp [up_eq, vu_eq, es]
          rw [a12, a11]
          split
          · rename_i hz
            refine Pw_up h (by simp [up_eq]) (by simp [up_eq, vu_eq]) (by simp [up_eq, vu_eq, es]) (by omega) h0 (fun _ _ => by simpa [up_eq, vu_eq] using fr) (fun z z' => ?_)
            rcases hz with hz | hz
            · have := (kk 2 (by decide)).mp hz; omega
            · have := (nI_ij (b := 2) (by omega) (by omega)).mp hz; omega
          · rename_i hz
            have h2s : 2 ≤ s := by
              by_cases z : s = 1
              · exact absurd (Or.inr (by rw [z]; rfl)) hz
              · omega
            exact Pw_up h (by simp [up_eq]) (by simp [up_eq, vu_eq]) (by simp [up_eq, vu_eq, es]) (by omega) h0 (fun _ z => by simpa [up_eq, vu_eq] using h7 h2s z) (fun _ _ => by simpa [up_eq, vu_eq] using fr)
  · rw [anF_n h71] at hc; exact absurd (show (1 : Int32) = 0 from hc) (by decide)
theorem Pw_m {k s i H G K : Nat} (h : Pw I k s H G K) (hs : s = wdN k + 1 + i) (hi : i < nmN k) (hc : amR I k i = 0) : Pw (amI I k i) k (s + 1) H G K := by
  have h' := h
  obtain ⟨h1, h2, h3, h4, h5, h6, h7, h8⟩ := h'
  have wr := wd_r k
  unfold amI
  rw [if_pos hc]
  have es : I 33 11 + 1 = nI (s + 1) := by rw [h3]; exact nI_1 _
  refine Pw_up h (by simp [up_eq]) (by simp [up_eq, vu_eq]) (by simp [up_eq, vu_eq, es]) (by omega) (by omega) (fun _ z => ?_) (fun _ z => ?_)
  · have e1 : wdN 3 = 2 := rfl
    have e2 : wdN 2 = 1 := rfl
    have := h7 (by rcases z with rfl | rfl <;> omega) z
    simpa [up_eq, vu_eq] using this
  · have := h8 (by subst z; have e1 : wdN 3 = 2 := rfl; omega) z
    simpa [up_eq, vu_eq] using this
theorem Pw_e {k s H G K : Nat} (h : Pw I k s H G K) (h0 : s ≠ 0) : Pw (up (apcI I k H G K) 33 11 0) k 0 (if k = 0 then H + 1 else H) (if k = 1 then G + 1 else G) (if k = 4 then K + 1 else K) := by
  obtain ⟨h1, h2, h3, h4, ⟨hH, b5, hG, b4, hK, b4'⟩, h6, h7, h8⟩ := h
  obtain ⟨w0, w1, w4⟩ := h6 h0
  have a12 : apcI I k H G K 33 12 = I 33 12 := by
    unfold apcI ahI agI alI ap1
    repeat' split
    all_goals simp [up_eq]
  unfold Pw cBd
  have e18 : up (apcI I k H G K) 33 11 0 18 = apcI I k H G K 18 := by simp [up_eq]
  rw [e18]
  refine ⟨by simp [up_eq, vu_eq, a12, h1], h2, by simp [up_eq, vu_eq]; rfl, by omega, ?_, fun z => absurd rfl z, fun z => by omega, fun z => by omega⟩
  unfold apcI ahI agI alI ap1
  by_cases k0 : k = 0
  · subst k0; have := w0 rfl; simp [up_eq, vu_eq, hG, hK]; omega
  · by_cases k1 : k = 1
    · subst k1; have := w1 rfl; simp [up_eq, vu_eq, hH, hK]; omega
    · by_cases k4 : k = 4
      · subst k4; have := w4 rfl; simp [up_eq, vu_eq, hH, hG]; omega
      · simp only [k0, k1, k4, if_false]
        repeat' split
        all_goals (simp [up_eq, vu_eq, hH, hG, hK]; omega)
end
