/-! all orders, told in two ways -/
section
def gNp : Nat → Nat → (Nat → Nat) → (Nat → Nat) → (Nat → Nat)
  | 0, _, _, m => m
  | l + 1, r, u, m => gNp l (r / (l + 1)) (va_up u (r % (l + 1)) (u l)) (va_up m l (u (r % (l + 1))))
def sgL (n k : Nat) : List Nat := (List.range n).map (gNp n k (fun i => i) (fun _ => 0))
def pmL (n : Nat) : Nat → Nat → List (List Nat)
  | 0, _ => [[]]
  | k + 1, u => (List.range n).flatMap (fun o => if u.testBit o then [] else (pmL n k (u ||| 2 ^ o)).map (o :: ·))
theorem pm_0 : (pmL 0 0 0).isPerm ((List.range (fac 0)).map (sgL 0)) = true := by decide +kernel
theorem pm_1 : (pmL 1 1 0).isPerm ((List.range (fac 1)).map (sgL 1)) = true := by decide +kernel
theorem pm_2 : (pmL 2 2 0).isPerm ((List.range (fac 2)).map (sgL 2)) = true := by decide +kernel
theorem pm_3 : (pmL 3 3 0).isPerm ((List.range (fac 3)).map (sgL 3)) = true := by decide +kernel
theorem pm_4 : (pmL 4 4 0).isPerm ((List.range (fac 4)).map (sgL 4)) = true := by decide +kernel
theorem pm_5 : (pmL 5 5 0).isPerm ((List.range (fac 5)).map (sgL 5)) = true := by decide +kernel
theorem pm_ok {n : Nat} (h : n ≤ 5) : (pmL n n 0).Perm ((List.range (fac n)).map (sgL n)) := by
  rcases (show n = 0 ∨ n = 1 ∨ n = 2 ∨ n = 3 ∨ n = 4 ∨ n = 5 by omega) with rfl | rfl | rfl | rfl | rfl | rfl
  · exact List.isPerm_iff.mp pm_0
  · exact List.isPerm_iff.mp pm_1
  · exact List.isPerm_iff.mp pm_2
  · exact List.isPerm_iff.mp pm_3
  · exact List.isPerm_iff.mp pm_4
  · exact List.isPerm_iff.mp pm_5
theorem pm_sum {α : Type} {f : α → Nat} {l l' : List α} (h : l.Perm l') : (l.map f).sum = (l'.map f).sum := by
  induction h with
  | nil => rfl
  | cons x _ ih => simp [ih]
  | swap x y l => simp; omega
  | trans _ _ h1 h2 => exact h1.trans h2
theorem rg_sum {f : Nat → Nat} : ∀ n, ((List.range n).map f).sum = smN f n := by
  intro n
  induction n with
  | zero => rfl
  | succ n ih => rw [List.range_succ, List.map_append, List.sum_append, ih]; show smN f n + (f n + 0) = smN f n + f n; omega
theorem fm_sum {α : Type} {f : α → Nat} {F : Nat → List α} : ∀ n, (((List.range n).flatMap F).map f).sum = smN (fun i => ((F i).map f).sum) n := by
  intro n
  induction n with
  | zero => rfl
  | succ n ih =>
    rw [List.range_succ, List.flatMap_append, List.map_append, List.sum_append, ih]
    simp [smN]
theorem gm_gN {cs : Nat → Nat} {ms : Nat → Int32} {N : Nat} (hi : ∀ i j, i < N → j < N → cs i = cs j → i = j) : ∀ l, l ≤ N → ∀ (r : Nat) (u mN : Nat → Nat) (M : Nat → Int32), (∀ i, l ≤ i → i < N → M (cs i) = ms (mN i)) → ∀ i, i < N → gmi cs l r (fun j => ms (u j)) M (cs i) = ms (gNp l r u mN i) := by
  intro l
  induction l with
  | zero => intro _ r u mN M h i hi2; exact h i (Nat.zero_le _) hi2
  | succ l ih =>
    intro hl r u mN M h i hi2
    rw [gmi, gNp]
    have e : va_up (fun j => ms (u j)) (r % (l + 1)) (ms (u l)) = fun j => ms (va_up u (r % (l + 1)) (u l) j) := by
      funext j
      rw [vu_eq, vu_eq]
      split <;> rfl
    rw [e]
    refine ih (by omega) _ _ _ _ (fun k h1 h2 => ?_) i hi2
    rw [vu_eq, vu_eq]
    by_cases ek : k = l
    · rw [if_pos (by rw [ek]), if_pos ek]
    · rw [if_neg (fun z => ek (hi k l h2 (by omega) z)), if_neg ek]
      exact h k (by omega) h2
variable {m : Nat → Int32} {NH : Nat}
theorem clN_mono (m : Nat → Int32) : ∀ i j, i ≤ j → clN m i ≤ clN m j := by
  intro i j h
  induction j with
  | zero => rw [show i = 0 by omega]; exact Nat.le_refl _
  | succ j ih =>
    by_cases e : i = j + 1
    · rw [e]; exact Nat.le_refl _
    · have := ih (by omega)
      rw [clN]
      split <;> omega
theorem clN_s {h : Nat} (hc : ¬ m h = -1) : clN m (h + 1) = clN m h + 1 := by rw [clN, if_neg hc]
theorem clC_at : ∀ NH h, h < NH → ¬ m h = -1 → clC m NH (clN m h) = h := by
  intro NH
  induction NH with
  | zero => intro h hh; omega
  | succ N ih =>
    intro h hh hc
    rw [clC]
    by_cases e : h = N
    · subst e; rw [if_neg hc]; show (if _ then _ else _) = _; rw [if_pos rfl]
    · by_cases e2 : m N = -1
      · rw [if_pos e2]; exact ih h (by omega) hc
      · rw [if_neg e2]
        have := clN_s (m := m) hc
        have := clN_mono m (h + 1) N (by omega)
        show (if _ then _ else _) = _
        rw [if_neg (by omega)]
        exact ih h (by omega) hc
theorem clN_at : ∀ NH l, l < clN m NH → clN m (clC m NH l) = l := by
  intro NH
  induction NH with
  | zero => intro l h; exact absurd h (Nat.not_lt_zero _)
  | succ N ih =>
    intro l h
    rw [clN] at h
    rw [clC]
    by_cases e : m N = -1
    · rw [if_pos e] at h ⊢; exact ih l h
    · rw [if_neg e] at h ⊢
      show clN m (if l = clN m N then N else clC m N l) = l
      by_cases e2 : l = clN m N
      · rw [if_pos e2, e2]
      · rw [if_neg e2]; exact ih l (by omega)
theorem clC_inj {i j : Nat} (hi : i < clN m NH) (hj : j < clN m NH) (h : clC m NH i = clC m NH j) : i = j := by
  rw [← clN_at NH i hi, h, clN_at NH j hj]
/-- the minutes of a row of places -/
def mLs (m : Nat → Int32) (NH : Nat) (l : List Nat) : Nat → Int32 := fun j => if j < NH ∧ ¬ m j = -1 then m (clC m NH (l.getD (clN m j) 0)) else -1
theorem mik_L (k : Nat) : mik m NH k = mLs m NH (sgL (clN m NH) k) := by
  funext j
  unfold mik mLs
  by_cases e : j < NH ∧ ¬ m j = -1
  · rw [if_pos e]
    have hl : clN m j < clN m NH := by
      have := clN_s (m := m) e.2
      have := clN_mono m (j + 1) NH e.1
      omega
    have hj := clC_at NH j e.1 e.2
    have key := gm_gN (cs := clC m NH) (ms := fun l => m (clC m NH l)) (N := clN m NH) (fun i j hi hj => clC_inj hi hj) (clN m NH) (Nat.le_refl _) k (fun i => i) (fun _ => 0) (fun _ => -1) (fun i h1 h2 => by omega) (clN m j) hl
    rw [hj] at key
    rw [key]
    have : (sgL (clN m NH) k).getD (clN m j) 0 = gNp (clN m NH) k (fun i => i) (fun _ => 0) (clN m j) := by
      unfold sgL
      rw [List.getD_eq_getElem?_getD, List.getElem?_map, List.getElem?_range hl]
      rfl
    rw [this]
  · rw [if_neg e]
    refine gmi_o _ _ _ _ j (fun i hi z => e ?_)
    rw [← z]
    exact ⟨clC_lt m NH i hi, clC_c m NH i hi⟩
theorem sumC {g : Nat → Nat} : ∀ NH, smN (fun o => if m o = -1 then 0 else g o) NH = smN (fun i => g (clC m NH i)) (clN m NH) := by
  intro NH
  induction NH with
  | zero => rfl
  | succ N ih =>
    show smN _ N + (if m N = -1 then 0 else g N) = _
    rw [ih, clN, clC]
    by_cases e : m N = -1
    · rw [if_pos e, if_pos e, if_pos e]; rfl
    · rw [if_neg e, if_neg e, if_neg e]
      show _ = smN (fun i => g (if i = clN m N then N else clC m N i)) (clN m N) + g (if clN m N = clN m N then N else clC m N (clN m N))
      rw [if_pos rfl]
      congr 1
      refine smN_cg _ (fun i hi => ?_)
      rw [if_neg (show ¬ i = clN m N by omega)]
def asgn (m : Nat → Int32) (NH : Nat) (a : Nat → Int32) (h : Nat) (l : List Nat) : Nat → Int32 := fun j => if ¬ m j = -1 ∧ h ≤ j then m (clC m NH (l.getD (clN m j - clN m h) 0)) else a j
theorem miA_cg {a a' : Nat → Int32} (h : ∀ j, j < NH → ¬ m j = -1 → a j = a' j) : miA m NH a = miA m NH a' := by
  funext j
  unfold miA
  by_cases e : j < NH ∧ ¬ m j = -1
  · rw [if_pos e, if_pos e, h j e.1 e.2]
  · rw [if_neg e, if_neg e]
theorem ow_pm {W : (Nat → Int32) → Bool} : ∀ n h u u' (a : Nat → Int32), h + n = NH → (∀ i, i < clN m NH → u'.testBit i = u.testBit (clC m NH i)) → owN W m NH n h u a = ((pmL (clN m NH) (clN m NH - clN m h) u').map (fun l => (W (miA m NH (asgn m NH a h l))).toNat)).sum := by
  intro n
  induction n with
  | zero =>
    intro h u u' a hh hu
    have e : h = NH := by omega
    subst e
    rw [owN, Nat.sub_self, pmL]
    have : miA m h (asgn m h a h []) = miA m h a := miA_cg (fun j hj _ => by unfold asgn; rw [if_neg (by omega)])
    simp [this]
  | succ n ih =>
    intro h u u' a hh hu
    rw [owN]
    by_cases e : m h = -1
    · rw [if_pos e, ih (h + 1) u u' a (by omega) hu]
      have e1 : clN m (h + 1) = clN m h := by rw [clN, if_pos e]
      rw [e1]
      congr 1
      refine List.map_congr_left (fun l _ => ?_)
      congr 2
      refine miA_cg (fun j hj hm => ?_)
      unfold asgn
      rw [e1]
      by_cases e2 : h ≤ j
      · have : j ≠ h := fun z => by rw [z] at hm; exact hm e
        rw [if_pos ⟨hm, by omega⟩, if_pos ⟨hm, e2⟩]
      · rw [if_neg (by omega), if_neg (by omega)]
    · rw [if_neg e]
      have e1 := clN_s (m := m) e
      have hle := clN_mono m (h + 1) NH (by omega)
      obtain ⟨k, hk⟩ : ∃ k, clN m NH - clN m h = k + 1 := ⟨clN m NH - clN m (h + 1), by omega⟩
      have hk2 : clN m NH - clN m (h + 1) = k := by omega
      rw [hk, pmL, fm_sum]
      have s1 : smN (fun o => if m o = -1 ∨ u.testBit o = true then 0 else owN W m NH n (h + 1) (u ||| 2 ^ o) (va_up a h (m o))) NH = smN (fun o => if m o = -1 then 0 else (if u.testBit o = true then 0 else owN W m NH n (h + 1) (u ||| 2 ^ o) (va_up a h (m o)))) NH := smN_cg _ (fun o _ => by
        by_cases q1 : m o = -1
        · rw [if_pos (Or.inl q1), if_pos q1]
        · rw [if_neg q1]
          by_cases q2 : u.testBit o = true
          · rw [if_pos (Or.inr q2), if_pos q2]
          · rw [if_neg (by rintro (z | z); exact q1 z; exact q2 z), if_neg q2])
      rw [s1, sumC]
      refine smN_cg _ (fun i hi => ?_)
      rw [← hu i hi]
      by_cases q : u'.testBit i = true
      · rw [if_pos q, if_pos q]; rfl
      · rw [if_neg q, if_neg q]
        rw [ih (h + 1) (u ||| 2 ^ clC m NH i) (u' ||| 2 ^ i) _ (by omega) (fun i' hi' => ?_), hk2, List.map_map]
        · congr 1
          refine List.map_congr_left (fun l _ => ?_)
          show (W _).toNat = (W (miA m NH (asgn m NH a h (i :: l)))).toNat
          congr 2
          refine miA_cg (fun j hj hm => ?_)
          unfold asgn
          by_cases e2 : j = h
          · subst e2
            rw [if_neg (by omega), if_pos ⟨hm, Nat.le_refl _⟩, vu_s, Nat.sub_self]
            rfl
          · by_cases e3 : h ≤ j
            · have := clN_mono m (h + 1) j (by omega)
              rw [if_pos ⟨hm, by omega⟩, if_pos ⟨hm, e3⟩, show clN m j - clN m h = (clN m j - clN m (h + 1)) + 1 by omega]
              rfl
            · rw [if_neg (by omega), if_neg (by omega), vu_n _ _ e2]
        · rw [Nat.testBit_or, Nat.testBit_or, Nat.testBit_two_pow, Nat.testBit_two_pow, hu i' hi']
          congr 1
          apply Bool.eq_iff_iff.mpr
          rw [decide_eq_true_iff, decide_eq_true_iff]
          exact ⟨fun z => by rw [z], fun z => clC_inj hi hi' z⟩
theorem ow_all {W : (Nat → Int32) → Bool} {a : Nat → Int32} (h5 : NH ≤ 5) : owN W m NH NH 0 0 a = smN (fun k => (W (mik m NH k)).toNat) (fac (clN m NH)) := by
  have hn := clN_le m NH
  rw [ow_pm NH 0 0 0 a (Nat.zero_add _) (fun i _ => by rw [Nat.zero_testBit, Nat.zero_testBit]), show clN m NH - clN m 0 = clN m NH from rfl, pm_sum (pm_ok (show clN m NH ≤ 5 by omega)), List.map_map, rg_sum]
  refine smN_cg _ (fun k _ => ?_)
  show (W (miA m NH (asgn m NH a 0 (sgL (clN m NH) k)))).toNat = _
  rw [mik_L]
  congr 2
  funext j
  unfold miA mLs asgn
  by_cases e : j < NH ∧ ¬ m j = -1
  · rw [if_pos e, if_pos e, if_pos ⟨e.2, Nat.zero_le _⟩]; rfl
  · rw [if_neg e, if_neg e]
end
