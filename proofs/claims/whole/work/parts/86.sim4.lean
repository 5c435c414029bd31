/-! the two readers side by side: what the model's scanner leaves -/
section
variable {I J C : Is} {L M : Ls}
/-- nothing but the scanner's own fields has changed -/
def spI (I J : Is) : Prop := (∀ a, a ≠ 95 → J a = I a) ∧ ∀ k, k < 3 ∨ 9 < k → J 95 k = I 95 k
theorem spI_r : spI I I := ⟨fun _ _ => rfl, fun _ _ => rfl⟩
theorem spI_t {K : Is} (h : spI I J) (g : spI J K) : spI I K := ⟨fun a ha => by rw [g.1 a ha, h.1 a ha], fun k hk => by rw [g.2 k hk, h.2 k hk]⟩
theorem sp_up {k : Nat} {v : Int32} (hk : 3 ≤ k ∧ k ≤ 9) : spI I (up I 95 k v) := ⟨fun a ha => up_n _ _ _ ha, fun j hj => by rw [up_s, vu_n _ _ (by omega)]⟩
theorem sp_sc (N p : Nat) : spI I (scI I N p) := by
  unfold scI
  exact spI_t (spI_t (spI_t (sp_up (by decide)) (sp_up (by decide))) (sp_up (by decide))) (sp_up (by decide))
theorem sp_bd (k : Int32) : spI I (bdI I k) := by
  unfold bdI
  exact spI_t (sp_up (by decide)) (sp_up (by decide))
theorem sp_mn (N p : Nat) (lo hi : Int32) : spI I (mnI I N p lo hi) := by
  unfold mnI
  split
  · exact spI_t (sp_up (by decide)) (sp_sc _ _)
  · exact sp_bd _
theorem sp_mf (N e : Nat) (r : Int32) : spI I (mfI I N e r) := by
  unfold mfI
  split
  · exact sp_sc _ _
  · exact sp_bd _
theorem sp_mtp (h : spI I J) : mtp J = mtp I := by
  funext j
  unfold mtp
  rw [h.1 96 (by decide)]
/-- the base of a scan -/
def mB (I : Is) (N : Nat) : Prop := I 95 2 = nI N ∧ N ≤ 900 ∧ (∀ j, j < N → -128 ≤ (I 96 j).toInt ∧ (I 96 j).toInt ≤ 127) ∧ I 95 8 = 0 ∧ I 95 9 = -1
theorem mB_u {N : Nat} {v : Int32} (h : mB I N) : mB (up I 95 7 v) N := h
theorem mSc_B {N p : Nat} (h : mSc I N p) : mB I N := ⟨h.1, h.2.1, h.2.2.1, h.2.2.2.2.2.2.2.2⟩
theorem mB_sc {N p : Nat} (h : mB I N) (hp : p ≤ N) : mSc (scI I N p) N p := mSc_sc h.1 h.2.1 h.2.2.1 h.2.2.2 hp
/-- rows that the scanner does not look at -/
theorem mSc_up {N p : Nat} (h : mSc I N p) (h96 : J 96 = I 96) (h95 : ∀ k, k < 10 → J 95 k = I 95 k) : mSc J N p := by
  have em : mtp J = mtp I := by funext j; unfold mtp; rw [h96]
  unfold mSc
  rw [em, h96, h95 2 (by decide), h95 3 (by decide), h95 4 (by decide), h95 5 (by decide), h95 6 (by decide), h95 8 (by decide), h95 9 (by decide)]
  exact h
/-- the number that was read -/
theorem mn_7 {N p : Nat} {lo hi : Int32} (h : mnR I lo hi = 0) : mnI I N p lo hi 95 7 = I 95 6 := by
  unfold mnI
  rw [if_pos h]
  unfold scI
  simp [up_eq, vu_eq]
theorem mn_sc {N p : Nat} {lo hi : Int32} (h : mnR I lo hi = 0) (hB : mB I N) (hp : p ≤ N) : mSc (mnI I N p lo hi) N p := by
  unfold mnI
  rw [if_pos h]
  exact mB_sc (mB_u hB) hp
theorem mn_bd {N p : Nat} {lo hi : Int32} (h : ¬ mnR I lo hi = 0) : mnI I N p lo hi = bdI I (mnR I lo hi) := by
  unfold mnI
  rw [if_neg h]
/-- huts, gardens, LOOKS, settings of both readers -/
def dH (C : Is) (M : Ls) (I : Is) (L : Ls) (H : Nat) : Prop := I 95 16 = nI H ∧ (∀ h, h < H → M 21 h = L 99 h ∧ I 111 h = C 22 h ∧ I 112 h = C 23 h ∧ I 113 h = C 24 h ∧ I 114 h = C 25 h ∧ 0 ≤ (C 22 h).toInt ∧ (C 22 h).toInt ≤ 400 ∧ 1 ≤ (C 23 h).toInt ∧ (C 23 h).toInt ≤ 300 ∧ 1 ≤ (C 24 h).toInt ∧ (C 24 h).toInt ≤ 40 ∧ -1 ≤ (C 25 h).toInt ∧ (C 25 h).toInt ≤ 99) ∧ ∀ h, H ≤ h → h < 5 → C 25 h = -1
def dG (C : Is) (M : Ls) (I : Is) (L : Ls) (G : Nat) : Prop := I 95 17 = nI G ∧ ∀ g, g < G → M 27 g = L 100 g ∧ I 116 g = C 28 g ∧ I 117 g = C 29 g ∧ I 118 g = C 30 g ∧ 0 ≤ (C 28 g).toInt ∧ (C 28 g).toInt ≤ 400 ∧ 0 ≤ (C 29 g).toInt ∧ (C 29 g).toInt ≤ 999 ∧ 0 ≤ (C 30 g).toInt ∧ (C 30 g).toInt ≤ 9999
def dK (C : Is) (M : Ls) (I : Is) (L : Ls) (K : Nat) : Prop := I 95 18 = nI K ∧ ∀ l, l < K → M 31 l = L 101 l ∧ I 119 l = C 32 l ∧ 0 ≤ (C 32 l).toInt ∧ (C 32 l).toInt ≤ 99
def dS (C I : Is) : Prop := (∀ i, i < 9 → I 98 i = C 19 (i + 3) ∧ (ol3.getD (18 + 3 * i) 0).toInt ≤ (C 19 (i + 3)).toInt ∧ (C 19 (i + 3)).toInt ≤ (ol4.getD (18 + 3 * i) 0).toInt) ∧ I 95 20 = C 19 12 ∧ I 95 21 = C 19 13 ∧ 0 ≤ (C 19 12).toInt ∧ (C 19 12).toInt ≤ 20 ∧ 0 ≤ (C 19 13).toInt ∧ (C 19 13).toInt ≤ 20
/-- which words have been told: a set below 1024 -/
def dT (C I : Is) : Prop := ∃ s : Nat, s < 1024 ∧ I 95 22 = nI s ∧ ∀ i, i < 10 → (s.testBit i = true ↔ ¬ C 20 (if i = 9 then 12 else i + 3) = 0)
/-- runs: a set below 2^25 -/
def dR (C I : Is) : Prop := ∃ s : Nat, s < 33554432 ∧ I 95 46 = nI s ∧ ∀ j, j < 25 → (s.testBit j = true ↔ ¬ C 26 j = -1) ∧ I 115 j = (if j / 5 = j % 5 then 0 else if C 26 j = -1 then 5 else C 26 j) ∧ -1 ≤ (C 26 j).toInt ∧ (C 26 j).toInt ≤ 60
/-- the frames of the model's reader -/
def mfr (I J : Is) : Prop := (∀ a, ¬ (a = 95 ∨ a = 98 ∨ (111 ≤ a ∧ a ≤ 119)) → J a = I a) ∧ ∀ k, ¬ ((3 ≤ k ∧ k ≤ 9) ∨ (16 ≤ k ∧ k ≤ 22) ∨ k = 46) → J 95 k = I 95 k
def mfrL (L K : Ls) : Prop := ∀ a, ¬ (99 ≤ a ∧ a ≤ 101) → K a = L a
theorem mfr_t {K : Is} (h : mfr I J) (g : mfr J K) : mfr I K := ⟨fun a ha => by rw [g.1 a ha, h.1 a ha], fun k hk => by rw [g.2 k hk, h.2 k hk]⟩
theorem mfr_sp (h : spI I J) : mfr I J := ⟨fun a ha => h.1 a (by omega), fun k hk => h.2 k (by omega)⟩
theorem mfr_r : mfr I I := ⟨fun _ _ => rfl, fun _ _ => rfl⟩
theorem mfr_up {a k : Nat} {v : Int32} (h : a = 95 ∧ ((3 ≤ k ∧ k ≤ 9) ∨ (16 ≤ k ∧ k ≤ 22) ∨ k = 46) ∨ a = 98 ∨ (111 ≤ a ∧ a ≤ 119)) : mfr I (up I a k v) := by
  refine ⟨fun b hb => up_n _ _ _ (by omega), fun j hj => ?_⟩
  by_cases e : a = 95
  · subst e; rw [up_s, vu_n _ _ (by omega)]
  · rw [up_n _ _ _ (Ne.symm e)]
end
