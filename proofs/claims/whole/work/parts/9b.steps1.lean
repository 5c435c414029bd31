/-! one piece changes, the others stay -/
section
variable {sc : Sc} {I J : Is} {L K : Ls} {tg : Nat}
theorem Inv_t {n m : Nat} (hnm : n ≤ m) (h : Inv n I L) (hr : ∀ a, ¬ scr a → ¬ (a = 1 ∨ a = 2 ∨ a = 96) → J a = I a) (h33 : ∀ k, k = 4 ∨ k = 5 → J 33 k = I 33 k) (h95 : ∀ k, ¬ scf k → ¬ (k = 1) → J 95 k = I 95 k) (hl : keL L K) (g : iT J) : Inv m J K := by
  obtain ⟨i1, i2, i3, ⟨i4, i5, i6, i7⟩, i8, i9, i10, i11, i12⟩ := h
  obtain ⟨l1, l2, l3, l4, l5, l6⟩ := hl
  have r : ∀ a, 3 ≤ a ∧ a ≤ 17 → J a = I a := fun a ha => hr a (by unfold scr; omega) (by omega)
  have q : ∀ a, a = 97 ∨ (102 ≤ a ∧ a ≤ 110) ∨ ((36 ≤ a ∧ a ≤ 44) ∨ (46 ≤ a ∧ a ≤ 63) ∨ (120 ≤ a ∧ a ≤ 127) ∨ a = 129) ∨ (a = 69 ∨ a = 130) ∨ ((75 ≤ a ∧ a ≤ 83) ∨ (137 ≤ a ∧ a ≤ 143)) ∨ ((84 ≤ a ∧ a ≤ 89) ∨ (144 ≤ a ∧ a ≤ 146) ∨ a = 148 ∨ a = 149) ∨ (a = 92 ∨ a = 93 ∨ a = 150) → J a = I a := fun a ha => hr a (by unfold scr; omega) (by omega)
  have f : ∀ k, (8 ≤ k ∧ k ≤ 15) ∨ (k = 48 ∨ k = 49) ∨ (69 ≤ k ∧ k ≤ 72) ∨ (k = 83 ∨ k = 84 ∨ k = 91) ∨ (k = 92) → J 95 k = I 95 k := fun k hk => h95 k (by unfold scf; omega) (by omega)
  exact ⟨g, iF_c i2 h33 (fun k hk => f k (by omega)), iC_c i3 r (fun k hk => f k (by omega)) (q 97 (by omega)) (fun a ha => q a (by omega)), ⟨dgB_c hnm i4 r (fun k _ => by rw [q 36 (by omega)]) (q _ (by omega)) (q _ (by omega)) (q _ (by omega)) (q _ (by omega)) (q _ (by omega)), dgE_c i5 (fun a ha => q a (by omega)) (fun k _ => by rw [q 36 (by omega)]) (fun k hk => f k (by omega)) (fun a ha => q a (by omega)) l2 l5, slE_c hnm i6 r (fun k => by rw [q 46 (by omega)]) (fun a ha => q a (by omega)) (q _ (by omega)) (q _ (by omega)) l3 l6, slE_c hnm i7 r (fun k => by rw [q 55 (by omega)]) (fun a ha => q a (by omega)) (q _ (by omega)) (q _ (by omega)) l4 l6⟩, iG_c i8 r (q _ (by omega)) (q _ (by omega)), iR_c i9 (fun a ha => q a (by omega)) (fun k hk => f k (by omega)) (fun a ha => q a (by omega)), iN_c i10 (fun k _ => by rw [q 84 (by omega)]) (fun a ha => q a (by omega)) (fun k hk => f k (by omega)) (fun a ha => q a (by omega)) (q _ (by omega)) (q _ (by omega)), iL_c i11 (by rw [q 92 (by omega)]) (q _ (by omega)) (f _ (by omega)) (q _ (by omega)), kwT_c i12 l1⟩
theorem Inv_d {n m : Nat} (hnm : n ≤ m) (h : Inv n I L) (hr : ∀ a, ¬ scr a → ¬ ((36 ≤ a ∧ a ≤ 44) ∨ (46 ≤ a ∧ a ≤ 63) ∨ (120 ≤ a ∧ a ≤ 127) ∨ a = 129) → J a = I a) (h33 : ∀ k, k = 4 ∨ k = 5 → J 33 k = I 33 k) (h95 : ∀ k, ¬ scf k → ¬ (k = 48 ∨ k = 49) → J 95 k = I 95 k) (hl : K 34 = L 34) (g : iD m J K) : Inv m J K := by
  obtain ⟨i1, i2, i3, ⟨i4, i5, i6, i7⟩, i8, i9, i10, i11, i12⟩ := h
  have l1 := hl
  have r : ∀ a, 3 ≤ a ∧ a ≤ 17 → J a = I a := fun a ha => hr a (by unfold scr; omega) (by omega)
  have q : ∀ a, a = 97 ∨ (102 ≤ a ∧ a ≤ 110) ∨ (a = 1 ∨ a = 2 ∨ a = 96) ∨ (a = 69 ∨ a = 130) ∨ ((75 ≤ a ∧ a ≤ 83) ∨ (137 ≤ a ∧ a ≤ 143)) ∨ ((84 ≤ a ∧ a ≤ 89) ∨ (144 ≤ a ∧ a ≤ 146) ∨ a = 148 ∨ a = 149) ∨ (a = 92 ∨ a = 93 ∨ a = 150) → J a = I a := fun a ha => hr a (by unfold scr; omega) (by omega)
  have f : ∀ k, (8 ≤ k ∧ k ≤ 15) ∨ (k = 1) ∨ (69 ≤ k ∧ k ≤ 72) ∨ (k = 83 ∨ k = 84 ∨ k = 91) ∨ (k = 92) → J 95 k = I 95 k := fun k hk => h95 k (by unfold scf; omega) (by omega)
  exact ⟨iT_c i1 (by rw [q 1 (by omega)]) (f 1 (by omega)) (q 2 (by omega)) (q 96 (by omega)), iF_c i2 h33 (fun k hk => f k (by omega)), iC_c i3 r (fun k hk => f k (by omega)) (q 97 (by omega)) (fun a ha => q a (by omega)), g, iG_c i8 r (q _ (by omega)) (q _ (by omega)), iR_c i9 (fun a ha => q a (by omega)) (fun k hk => f k (by omega)) (fun a ha => q a (by omega)), iN_c i10 (fun k _ => by rw [q 84 (by omega)]) (fun a ha => q a (by omega)) (fun k hk => f k (by omega)) (fun a ha => q a (by omega)) (q _ (by omega)) (q _ (by omega)), iL_c i11 (by rw [q 92 (by omega)]) (q _ (by omega)) (f _ (by omega)) (q _ (by omega)), kwT_c i12 l1⟩
theorem Inv_g {n m : Nat} (hnm : n ≤ m) (h : Inv n I L) (hr : ∀ a, ¬ scr a → ¬ (a = 69 ∨ a = 130) → J a = I a) (h33 : ∀ k, k = 4 ∨ k = 5 → J 33 k = I 33 k) (h95 : ∀ k, ¬ scf k → J 95 k = I 95 k) (hl : keL L K) (g : iG J) : Inv m J K := by
  obtain ⟨i1, i2, i3, ⟨i4, i5, i6, i7⟩, i8, i9, i10, i11, i12⟩ := h
  obtain ⟨l1, l2, l3, l4, l5, l6⟩ := hl
  have r : ∀ a, 3 ≤ a ∧ a ≤ 17 → J a = I a := fun a ha => hr a (by unfold scr; omega) (by omega)
  have q : ∀ a, a = 97 ∨ (102 ≤ a ∧ a ≤ 110) ∨ (a = 1 ∨ a = 2 ∨ a = 96) ∨ ((36 ≤ a ∧ a ≤ 44) ∨ (46 ≤ a ∧ a ≤ 63) ∨ (120 ≤ a ∧ a ≤ 127) ∨ a = 129) ∨ ((75 ≤ a ∧ a ≤ 83) ∨ (137 ≤ a ∧ a ≤ 143)) ∨ ((84 ≤ a ∧ a ≤ 89) ∨ (144 ≤ a ∧ a ≤ 146) ∨ a = 148 ∨ a = 149) ∨ (a = 92 ∨ a = 93 ∨ a = 150) → J a = I a := fun a ha => hr a (by unfold scr; omega) (by omega)
  have f : ∀ k, (8 ≤ k ∧ k ≤ 15) ∨ (k = 1) ∨ (k = 48 ∨ k = 49) ∨ (69 ≤ k ∧ k ≤ 72) ∨ (k = 83 ∨ k = 84 ∨ k = 91) ∨ (k = 92) → J 95 k = I 95 k := fun k hk => h95 k (by unfold scf; omega)
  exact ⟨iT_c i1 (by rw [q 1 (by omega)]) (f 1 (by omega)) (q 2 (by omega)) (q 96 (by omega)), iF_c i2 h33 (fun k hk => f k (by omega)), iC_c i3 r (fun k hk => f k (by omega)) (q 97 (by omega)) (fun a ha => q a (by omega)), ⟨dgB_c hnm i4 r (fun k _ => by rw [q 36 (by omega)]) (q _ (by omega)) (q _ (by omega)) (q _ (by omega)) (q _ (by omega)) (q _ (by omega)), dgE_c i5 (fun a ha => q a (by omega)) (fun k _ => by rw [q 36 (by omega)]) (fun k hk => f k (by omega)) (fun a ha => q a (by omega)) l2 l5, slE_c hnm i6 r (fun k => by rw [q 46 (by omega)]) (fun a ha => q a (by omega)) (q _ (by omega)) (q _ (by omega)) l3 l6, slE_c hnm i7 r (fun k => by rw [q 55 (by omega)]) (fun a ha => q a (by omega)) (q _ (by omega)) (q _ (by omega)) l4 l6⟩, g, iR_c i9 (fun a ha => q a (by omega)) (fun k hk => f k (by omega)) (fun a ha => q a (by omega)), iN_c i10 (fun k _ => by rw [q 84 (by omega)]) (fun a ha => q a (by omega)) (fun k hk => f k (by omega)) (fun a ha => q a (by omega)) (q _ (by omega)) (q _ (by omega)), iL_c i11 (by rw [q 92 (by omega)]) (q _ (by omega)) (f _ (by omega)) (q _ (by omega)), kwT_c i12 l1⟩
theorem Inv_r {n m : Nat} (hnm : n ≤ m) (h : Inv n I L) (hr : ∀ a, ¬ scr a → ¬ ((75 ≤ a ∧ a ≤ 83) ∨ (137 ≤ a ∧ a ≤ 143)) → J a = I a) (h33 : ∀ k, k = 4 ∨ k = 5 → J 33 k = I 33 k) (h95 : ∀ k, ¬ scf k → ¬ (69 ≤ k ∧ k ≤ 72) → J 95 k = I 95 k) (hl : keL L K) (g : iR J) : Inv m J K := by
  obtain ⟨i1, i2, i3, ⟨i4, i5, i6, i7⟩, i8, i9, i10, i11, i12⟩ := h
  obtain ⟨l1, l2, l3, l4, l5, l6⟩ := hl
  have r : ∀ a, 3 ≤ a ∧ a ≤ 17 → J a = I a := fun a ha => hr a (by unfold scr; omega) (by omega)
  have q : ∀ a, a = 97 ∨ (102 ≤ a ∧ a ≤ 110) ∨ (a = 1 ∨ a = 2 ∨ a = 96) ∨ ((36 ≤ a ∧ a ≤ 44) ∨ (46 ≤ a ∧ a ≤ 63) ∨ (120 ≤ a ∧ a ≤ 127) ∨ a = 129) ∨ (a = 69 ∨ a = 130) ∨ ((84 ≤ a ∧ a ≤ 89) ∨ (144 ≤ a ∧ a ≤ 146) ∨ a = 148 ∨ a = 149) ∨ (a = 92 ∨ a = 93 ∨ a = 150) → J a = I a := fun a ha => hr a (by unfold scr; omega) (by omega)
  have f : ∀ k, (8 ≤ k ∧ k ≤ 15) ∨ (k = 1) ∨ (k = 48 ∨ k = 49) ∨ (k = 83 ∨ k = 84 ∨ k = 91) ∨ (k = 92) → J 95 k = I 95 k := fun k hk => h95 k (by unfold scf; omega) (by omega)
  exact ⟨iT_c i1 (by rw [q 1 (by omega)]) (f 1 (by omega)) (q 2 (by omega)) (q 96 (by omega)), iF_c i2 h33 (fun k hk => f k (by omega)), iC_c i3 r (fun k hk => f k (by omega)) (q 97 (by omega)) (fun a ha => q a (by omega)), ⟨dgB_c hnm i4 r (fun k _ => by rw [q 36 (by omega)]) (q _ (by omega)) (q _ (by omega)) (q _ (by omega)) (q _ (by omega)) (q _ (by omega)), dgE_c i5 (fun a ha => q a (by omega)) (fun k _ => by rw [q 36 (by omega)]) (fun k hk => f k (by omega)) (fun a ha => q a (by omega)) l2 l5, slE_c hnm i6 r (fun k => by rw [q 46 (by omega)]) (fun a ha => q a (by omega)) (q _ (by omega)) (q _ (by omega)) l3 l6, slE_c hnm i7 r (fun k => by rw [q 55 (by omega)]) (fun a ha => q a (by omega)) (q _ (by omega)) (q _ (by omega)) l4 l6⟩, iG_c i8 r (q _ (by omega)) (q _ (by omega)), g, iN_c i10 (fun k _ => by rw [q 84 (by omega)]) (fun a ha => q a (by omega)) (fun k hk => f k (by omega)) (fun a ha => q a (by omega)) (q _ (by omega)) (q _ (by omega)), iL_c i11 (by rw [q 92 (by omega)]) (q _ (by omega)) (f _ (by omega)) (q _ (by omega)), kwT_c i12 l1⟩
theorem Inv_n {n m : Nat} (hnm : n ≤ m) (h : Inv n I L) (hr : ∀ a, ¬ scr a → ¬ ((84 ≤ a ∧ a ≤ 89) ∨ (144 ≤ a ∧ a ≤ 146) ∨ a = 148 ∨ a = 149) → J a = I a) (h33 : ∀ k, k = 4 ∨ k = 5 → J 33 k = I 33 k) (h95 : ∀ k, ¬ scf k → ¬ (k = 83 ∨ k = 84 ∨ k = 91) → J 95 k = I 95 k) (hl : keL L K) (g : iN J) : Inv m J K := by
  obtain ⟨i1, i2, i3, ⟨i4, i5, i6, i7⟩, i8, i9, i10, i11, i12⟩ := h
  obtain ⟨l1, l2, l3, l4, l5, l6⟩ := hl
  have r : ∀ a, 3 ≤ a ∧ a ≤ 17 → J a = I a := fun a ha => hr a (by unfold scr; omega) (by omega)
  have q : ∀ a, a = 97 ∨ (102 ≤ a ∧ a ≤ 110) ∨ (a = 1 ∨ a = 2 ∨ a = 96) ∨ ((36 ≤ a ∧ a ≤ 44) ∨ (46 ≤ a ∧ a ≤ 63) ∨ (120 ≤ a ∧ a ≤ 127) ∨ a = 129) ∨ (a = 69 ∨ a = 130) ∨ ((75 ≤ a ∧ a ≤ 83) ∨ (137 ≤ a ∧ a ≤ 143)) ∨ (a = 92 ∨ a = 93 ∨ a = 150) → J a = I a := fun a ha => hr a (by unfold scr; omega) (by omega)
  have f : ∀ k, (8 ≤ k ∧ k ≤ 15) ∨ (k = 1) ∨ (k = 48 ∨ k = 49) ∨ (69 ≤ k ∧ k ≤ 72) ∨ (k = 92) → J 95 k = I 95 k := fun k hk => h95 k (by unfold scf; omega) (by omega)
  exact ⟨iT_c i1 (by rw [q 1 (by omega)]) (f 1 (by omega)) (q 2 (by omega)) (q 96 (by omega)), iF_c i2 h33 (fun k hk => f k (by omega)), iC_c i3 r (fun k hk => f k (by omega)) (q 97 (by omega)) (fun a ha => q a (by omega)), ⟨dgB_c hnm i4 r (fun k _ => by rw [q 36 (by omega)]) (q _ (by omega)) (q _ (by omega)) (q _ (by omega)) (q _ (by omega)) (q _ (by omega)), dgE_c i5 (fun a ha => q a (by omega)) (fun k _ => by rw [q 36 (by omega)]) (fun k hk => f k (by omega)) (fun a ha => q a (by omega)) l2 l5, slE_c hnm i6 r (fun k => by rw [q 46 (by omega)]) (fun a ha => q a (by omega)) (q _ (by omega)) (q _ (by omega)) l3 l6, slE_c hnm i7 r (fun k => by rw [q 55 (by omega)]) (fun a ha => q a (by omega)) (q _ (by omega)) (q _ (by omega)) l4 l6⟩, iG_c i8 r (q _ (by omega)) (q _ (by omega)), iR_c i9 (fun a ha => q a (by omega)) (fun k hk => f k (by omega)) (fun a ha => q a (by omega)), g, iL_c i11 (by rw [q 92 (by omega)]) (q _ (by omega)) (f _ (by omega)) (q _ (by omega)), kwT_c i12 l1⟩
theorem Inv_l {n m : Nat} (hnm : n ≤ m) (h : Inv n I L) (hr : ∀ a, ¬ scr a → ¬ (a = 92 ∨ a = 93 ∨ a = 150) → J a = I a) (h33 : ∀ k, k = 4 ∨ k = 5 → J 33 k = I 33 k) (h95 : ∀ k, ¬ scf k → ¬ (k = 92) → J 95 k = I 95 k) (hl : keL L K) (g : iL J) : Inv m J K := by
  obtain ⟨i1, i2, i3, ⟨i4, i5, i6, i7⟩, i8, i9, i10, i11, i12⟩ := h
  obtain ⟨l1, l2, l3, l4, l5, l6⟩ := hl
  have r : ∀ a, 3 ≤ a ∧ a ≤ 17 → J a = I a := fun a ha => hr a (by unfold scr; omega) (by omega)
  have q : ∀ a, a = 97 ∨ (102 ≤ a ∧ a ≤ 110) ∨ (a = 1 ∨ a = 2 ∨ a = 96) ∨ ((36 ≤ a ∧ a ≤ 44) ∨ (46 ≤ a ∧ a ≤ 63) ∨ (120 ≤ a ∧ a ≤ 127) ∨ a = 129) ∨ (a = 69 ∨ a = 130) ∨ ((75 ≤ a ∧ a ≤ 83) ∨ (137 ≤ a ∧ a ≤ 143)) ∨ ((84 ≤ a ∧ a ≤ 89) ∨ (144 ≤ a ∧ a ≤ 146) ∨ a = 148 ∨ a = 149) → J a = I a := fun a ha => hr a (by unfold scr; omega) (by omega)
  have f : ∀ k, (8 ≤ k ∧ k ≤ 15) ∨ (k = 1) ∨ (k = 48 ∨ k = 49) ∨ (69 ≤ k ∧ k ≤ 72) ∨ (k = 83 ∨ k = 84 ∨ k = 91) → J 95 k = I 95 k := fun k hk => h95 k (by unfold scf; omega) (by omega)
  exact ⟨iT_c i1 (by rw [q 1 (by omega)]) (f 1 (by omega)) (q 2 (by omega)) (q 96 (by omega)), iF_c i2 h33 (fun k hk => f k (by omega)), iC_c i3 r (fun k hk => f k (by omega)) (q 97 (by omega)) (fun a ha => q a (by omega)), ⟨dgB_c hnm i4 r (fun k _ => by rw [q 36 (by omega)]) (q _ (by omega)) (q _ (by omega)) (q _ (by omega)) (q _ (by omega)) (q _ (by omega)), dgE_c i5 (fun a ha => q a (by omega)) (fun k _ => by rw [q 36 (by omega)]) (fun k hk => f k (by omega)) (fun a ha => q a (by omega)) l2 l5, slE_c hnm i6 r (fun k => by rw [q 46 (by omega)]) (fun a ha => q a (by omega)) (q _ (by omega)) (q _ (by omega)) l3 l6, slE_c hnm i7 r (fun k => by rw [q 55 (by omega)]) (fun a ha => q a (by omega)) (q _ (by omega)) (q _ (by omega)) l4 l6⟩, iG_c i8 r (q _ (by omega)) (q _ (by omega)), iR_c i9 (fun a ha => q a (by omega)) (fun k hk => f k (by omega)) (fun a ha => q a (by omega)), iN_c i10 (fun k _ => by rw [q 84 (by omega)]) (fun a ha => q a (by omega)) (fun k hk => f k (by omega)) (fun a ha => q a (by omega)) (q _ (by omega)) (q _ (by omega)), g, kwT_c i12 l1⟩
/-- chance -/
theorem st_chance {n : Nat} {s : Int32} (h : Inv n I L) : Bth sc mX11_chance mX12_chance 0 0 [.int s] n I L tg := by
  by_cases hs : s.toInt < 0
  · exact Bth_p h (k_X11_chance_n hs) (k_X12_chance_n hs) rfl
  · refine Run_r (k_X11_chance_y (by omega)) (Run_r (k_X12_chance_y (by omega)) ⟨rfl, ?_⟩)
    obtain ⟨d1, d2, d3, d4⟩ := h.2.2.2.1
    refine Inv_d (Nat.le_succ n) h (fun _ _ _ => rfl) (fun _ _ => rfl) (fun _ _ _ => rfl) rfl ⟨dgB_c (Nat.le_succ n) d1 (fun _ _ => rfl) (fun _ _ => rfl) rfl rfl rfl rfl rfl, ⟨d2.1, d2.2.1, d2.2.2.1, d2.2.2.2.1, d2.2.2.2.2.1, ?_⟩, slE_c (Nat.le_succ n) d3 (fun _ _ => rfl) (fun _ => rfl) (fun _ _ => rfl) rfl rfl rfl rfl, slE_c (Nat.le_succ n) d4 (fun _ _ => rfl) (fun _ => rfl) (fun _ _ => rfl) rfl rfl rfl rfl⟩
    simp [up_eq, vu_eq]
/-- end -/
theorem st_end {n : Nat} {x : Int32} (h : Inv n I L) : Bth sc mX11_end mX12_end 0 1 [.int x] n I L tg := by
  obtain ⟨⟨N, h9, e1, e2⟩, e3, e4⟩ := h.1
  have ee : I 95 1 = I 1 1 := by rw [e1, e2]
  have iN : (I 1 1).toInt = N := by rw [e1, nI_toInt (by omega)]
  by_cases hc : 0 ≤ x.toInt ∧ x.toInt ≤ (I 1 1).toInt
  · have j95 : up I 1 1 x 95 = I 95 := up_n _ _ _ (by decide)
    refine Run_r (k_X11_end_y hc) (Run_r (k_X12_end_y (by rw [j95, ee]; exact hc)) ⟨rfl, ?_⟩)
    refine Inv_t (Nat.le_succ n) h (fun a z1 z2 => ?_) (fun k hk => ?_) (fun k z1 z2 => ?_) keL_r ⟨⟨nN x, ?_, ?_, ?_⟩, ?_, ?_⟩
    · rw [up_n _ _ _ (by unfold scr at z1; omega), up_n _ _ _ (by omega)]
    · simp [up_eq]
    · rw [up_s, vu_n _ _ (by omega), up_n _ _ _ (by decide)]
    · have := i_cl (a := x) hc.1; unfold nN; omega
    · rw [up_n _ _ _ (by decide), up_s, vu_s]; exact i_nI hc.1
    · rw [up_s, vu_s]; exact i_nI hc.1
    · rw [up_n _ _ _ (by decide), up_n _ _ _ (by decide), e3]
      funext j; unfold mtp; rw [up_n _ _ _ (by decide), up_n _ _ _ (by decide)]
    · rw [up_n _ _ _ (by decide), up_n _ _ _ (by decide)]; exact e4
  · exact Bth_p h (k_X11_end_n hc) (k_X12_end_n (by rw [ee]; exact hc)) rfl
/-- count -/
theorem sm_ext {f g : Nat → Int32} : ∀ n, (∀ h, h < n → f h = g h) → sm f n = sm g n := by
  intro n
  induction n with
  | zero => intro _; rfl
  | succ n ih => intro h; rw [sm, sm, ih (fun k hk => h k (by omega)), h n (by omega)]
theorem sm_zero {f : Nat → Int32} {n : Nat} : ∀ m, (∀ h, n ≤ h → h < n + m → f h = 0) → sm f (n + m) = sm f n := by
  intro m
  induction m with
  | zero => intro _; rfl
  | succ m ih =>
    intro h
    rw [← Nat.add_assoc, sm, ih (fun k h1 h2 => h k h1 (by omega)), h (n + m) (by omega) (by omega), Int32.add_zero]
theorem st_count {n : Nat} {w : Int32} (h : Inv n I L) : Bth sc mX11_count mX12_count 1 2 [.int w] n I L tg := by
  obtain ⟨i1, i2, i3, i4, i5, i6, i7, i8, i9⟩ := id h
  obtain ⟨H, G, K, ⟨h5, _, _⟩, ⟨b1, _⟩, ⟨c1, _⟩, ⟨d1, _⟩, _⟩ := i3
  have b1 : I 3 14 = nI H := b1
  have d1 : I 95 13 = I 3 17 := d1
  have iH : (I 95 10).toInt = H := by rw [c1, nI_toInt (by omega)]
  refine Bth_p h k_X11_count (k_X12_count (by omega) (by omega)) ?_
  obtain ⟨⟨N, _, t1, t2⟩, _⟩ := i1
  obtain ⟨n1, c2, _, _, s1, s2, s3, s4, _⟩ := i6
  obtain ⟨P, R, q, _, _, _, p1, p2, p3, p4, _⟩ := i7
  have eg : agM I 0 (nN (I 95 10)) = sm (I 69) 5 := by
    have nh : nN (I 95 10) = H := by rw [c1]; exact nI_clamp (by omega)
    have nh3 : nN (I 3 14) = H := by rw [b1]; exact nI_clamp (by omega)
    rw [nh]
    have e5 : sm (I 69) 5 = sm (I 69) H := by
      have := sm_zero (f := I 69) (n := H) (5 - H) (fun k h1 h2 => i5.2 k (by omega) (by omega))
      rw [show H + (5 - H) = 5 by omega] at this
      exact this
    rw [e5]
    unfold agM
    refine sm_ext H (fun k hk => ?_)
    rw [if_pos (Or.inl rfl)]
    exact (i5.1 k (by omega)).1.symm
  have wi : ∀ k : Nat, k < 100 → (w = nI k ↔ w.toInt = k) := fun k hk => ⟨fun z => by rw [z, nI_toInt (by omega)], fun z => Int32.toInt_inj.mp (by rw [z, nI_toInt (by omega)])⟩
  unfold ctM cntS
  rw [eg, d1, ← i4.2.1.1, s2, s1, s4, s3, p2, p1, p4, p3, t2, t1]
  have w0 := wi 0 (by omega); have w1 := wi 1 (by omega); have w2 := wi 2 (by omega); have w3 := wi 3 (by omega); have w4 := wi 4 (by omega); have w5 := wi 5 (by omega); have w6 := wi 6 (by omega); have w7 := wi 7 (by omega)
  simp only [show nI 0 = 0 from rfl, show nI 1 = 1 from rfl, show nI 2 = 2 from rfl, show nI 3 = 3 from rfl, show nI 4 = 4 from rfl, show nI 5 = 5 from rfl, show nI 6 = 6 from rfl, show nI 7 = 7 from rfl] at w0 w1 w2 w3 w4 w5 w6 w7
  simp only [w0, w1, w2, w3, w4, w5, w6, w7]
  rfl
end
