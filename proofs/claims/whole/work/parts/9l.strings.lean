/-! steps: string, right, where, up -/
section
variable {sc : Sc} {I J : Is} {L K : Ls} {tg : Nat}
theorem ctR_0 {r : Nat → Int32} {k : Int32} : ∀ c, (∀ i, i < c → ¬ r i = k) → ctR r k c = 0 := by
  intro c h
  unfold ctR
  have := sm_zero (f := fun i => if r i = k then (1 : Int32) else 0) (n := 0) c (fun i _ hi => if_neg (h i (by omega)))
  rw [Nat.zero_add] at this
  rw [this]
  rfl
theorem ctR_u {r : Nat → Int32} {k v : Int32} {c : Nat} : ctR (va_up r c v) k (c + 1) = ctR r k c + (if v = k then 1 else 0) := by
  unfold ctR
  rw [sm]
  show sm _ c + (if va_up r c v c = k then 1 else 0) = _
  rw [vu_s, sm_ext (f := fun i => if va_up r c v i = k then (1 : Int32) else 0) (g := fun i => if r i = k then (1 : Int32) else 0) c (fun i hi => by
    show (if va_up r c v i = k then (1 : Int32) else 0) = if r i = k then 1 else 0
    rw [vu_n _ _ (by omega)])]
theorem st_string {n : Nat} {t f g s : Int32} (h : Inv n I L) : Bth sc mX11_string mX12_string 3 1 [.int t, .int f, .int g, .int s] n I L tg := by
  obtain ⟨m, c, m16, c20, e1, e2, e3, e4, e5, e6, e7, hk, hi⟩ := h.2.2.2.2.2.1
  have im : (nI m).toInt = m := nI_toInt (by omega)
  have ee : stC I t f g s ↔ strC I t f g s := by
    unfold stC strC
    rw [← e5]
    constructor
    · rintro ⟨⟨z1, z2⟩, z3, z4, z5⟩; exact ⟨⟨⟨by omega, z2⟩, z1⟩, z3, z4, z5⟩
    · rintro ⟨⟨⟨_, z2⟩, z1⟩, z3, z4, z5⟩; exact ⟨⟨z1, z2⟩, z3, z4, z5⟩
  by_cases hc : strC I t f g s
  · by_cases z : m = 16
    · exact Bth_p h (k_X11_string_f hc (by rw [e1]; omega)) (k_X12_string_f (ee.mpr hc) (by rw [e2]; omega)) rfl
    · have jn : ∀ k, ¬ (75 ≤ k ∧ k ≤ 80) → sadd I m t f g s k = I k := fun k hk => by
        unfold sadd
        rw [up_n _ _ _ (by omega), up_n _ _ _ (by omega), up_n _ _ _ (by omega), up_n _ _ _ (by omega), up_n _ _ _ (by omega), up_n _ _ _ (by omega), up_n _ _ _ (by omega)]
      have hc2 : stC (sadd I m t f g s) t f g s := by
        have := ee.mpr hc
        unfold stC at this ⊢
        rw [jn 95 (by omega)]
        exact this
      refine Run_r (k_X11_string_y (n := m) hc (by rw [e1]; omega) (by omega)) (Run_r (k_X12_string_y (n := m) hc2 (by rw [jn 95 (by omega), e2]; omega) (by omega)) ⟨by rw [jn 95 (by omega), e1, e2], ?_⟩)
      have qn : ∀ k, ¬ (75 ≤ k ∧ k ≤ 80) → ¬ (137 ≤ k ∧ k ≤ 140) → k ≠ 95 → sadM (sadd I m t f g s) m t f g s k = I k := fun k z1 z2 z3 => by
        unfold sadM
        rw [up_n _ _ _ (by omega), up_n _ _ _ (by omega), up_n _ _ _ (by omega), up_n _ _ _ (by omega), up_n _ _ _ (by omega), up_n _ _ _ (by omega), jn k z1]
      have q95 : ∀ k, k ≠ 69 → k ≠ 71 → sadM (sadd I m t f g s) m t f g s 95 k = I 95 k := fun k z1 z2 => by unfold sadM sadd; simp [up_eq, vu_eq, z1, z2]
      have q69 : sadM (sadd I m t f g s) m t f g s 95 69 = nI (m + 1) := by
        have : sadM (sadd I m t f g s) m t f g s 95 69 = I 95 69 + 1 := by unfold sadM sadd; simp [up_eq, vu_eq]
        rw [this, e2, nI_1]
      have q71 : sadM (sadd I m t f g s) m t f g s 95 71 = t := by unfold sadM sadd; simp [up_eq, vu_eq]
      have q75 : ∀ k, k ≠ 8 → k ≠ 10 → sadM (sadd I m t f g s) m t f g s 75 k = I 75 k := fun k z1 z2 => by unfold sadM sadd; simp [up_eq, vu_eq, z1, z2]
      have q758 : sadM (sadd I m t f g s) m t f g s 75 8 = nI (m + 1) := by
        have : sadM (sadd I m t f g s) m t f g s 75 8 = I 75 8 + 1 := by unfold sadM sadd; simp [up_eq, vu_eq]
        rw [this, e1, nI_1]
      have q750 : sadM (sadd I m t f g s) m t f g s 75 10 = t := by unfold sadM sadd; simp [up_eq, vu_eq]
      have q76 : sadM (sadd I m t f g s) m t f g s 76 = va_up (I 76) m t := by unfold sadM sadd; simp [up_eq]
      have q77 : sadM (sadd I m t f g s) m t f g s 77 = va_up (I 77) m f := by unfold sadM sadd; simp [up_eq]
      have q78 : sadM (sadd I m t f g s) m t f g s 78 = va_up (I 78) m g := by unfold sadM sadd; simp [up_eq]
      have q79 : sadM (sadd I m t f g s) m t f g s 79 = va_up (I 79) m s := by unfold sadM sadd; simp [up_eq]
      have q80 : sadM (sadd I m t f g s) m t f g s 80 = va_up (I 80) m 0 := by unfold sadM sadd; simp [up_eq]
      have q137 : sadM (sadd I m t f g s) m t f g s 137 = va_up (I 137) m f := by unfold sadM sadd; simp [up_eq]
      have q138 : sadM (sadd I m t f g s) m t f g s 138 = va_up (I 138) m g := by unfold sadM sadd; simp [up_eq]
      have q139 : sadM (sadd I m t f g s) m t f g s 139 = va_up (I 139) m s := by unfold sadM sadd; simp [up_eq]
      have q140 : sadM (sadd I m t f g s) m t f g s 140 = va_up (I 140) m t := by unfold sadM sadd; simp [up_eq]
      generalize sadM (sadd I m t f g s) m t f g s = Q at *
      obtain ⟨⟨⟨t0, t9⟩, tl⟩, _, ⟨g0, g7⟩, _⟩ := hc
      refine Inv_r (Nat.le_succ n) h (fun a z1 z2 => qn a (by omega) (by omega) (by unfold scr at z1; omega)) (fun k _ => by rw [qn 33 (by omega) (by omega) (by omega)]) (fun k z1 z2 => q95 k (by omega) (by omega)) keL_r ⟨m + 1, c, by omega, c20, q758, q69, by rw [q75 9 (by decide) (by decide)]; exact e3, by rw [q95 70 (by decide) (by decide)]; exact e4, by rw [q750, q71], by rw [q750]; exact t0, by rw [q75 11 (by decide) (by decide), q95 72 (by decide) (by decide)]; exact e7, fun k hkk => ?_, fun i hii => ?_⟩
      · rw [q76, q77, q78, q79, q80, q137, q138, q139, q140, qn 141 (by omega) (by omega) (by omega), q750]
        by_cases y : k = m
        · rw [y]
          simp only [vu_s]
          refine ⟨trivial, trivial, trivial, trivial, g0, g7, ?_, Int.le_refl _, fun j hj => ?_⟩
          · refine (ctR_0 c (fun i hii z => ?_)).symm
            obtain ⟨_, _, _, k', k1, k2⟩ := hi i hii
            rw [k2] at z
            have := (nI_ij (by omega) (by omega)).mp z
            omega
          · rw [vu_n _ _ (by omega)]
            have := (hk j hj).2.2.2.2.2.2.2.1
            omega
        · simp only [vu_n _ _ y]
          obtain ⟨w1, w2, w3, w4, w5, w6, w7, w8, w9⟩ := hk k (by omega)
          refine ⟨w1, w2, w3, w4, w5, w6, w7, by omega, fun j hj => ?_⟩
          rw [vu_n _ _ (by omega)]
          exact w9 j hj
      · rw [qn 81 (by omega) (by omega) (by omega), qn 82 (by omega) (by omega) (by omega), qn 83 (by omega) (by omega) (by omega), qn 141 (by omega) (by omega) (by omega), qn 142 (by omega) (by omega) (by omega), qn 143 (by omega) (by omega) (by omega)]
        obtain ⟨w1, w2, w3, k', k1, k2⟩ := hi i hii
        exact ⟨w1, w2, w3, k', by omega, k2⟩
  · exact Bth_p h (k_X11_string_r hc) (k_X12_string_r (fun z => hc (ee.mp z))) rfl
theorem st_right {n : Nat} {t k f : Int32} (h : Inv n I L) : Bth sc mX11_right mX12_right 3 1 [.int t, .int k, .int f] n I L tg := by
  obtain ⟨m, c, m16, c20, e1, e2, e3, e4, e5, e6, e7, hk, hi⟩ := h.2.2.2.2.2.1
  have im : (nI m).toInt = m := nI_toInt (by omega)
  have ic : (nI c).toInt = c := nI_toInt (by omega)
  have im1 := nI_m1 (q := m) (by omega)
  have ee : riC I t k f ↔ rgtC I t k f := by
    unfold riC rgtC
    rw [← e5, e1, e2, im1, im]
    constructor
    · rintro ⟨⟨z1, z2⟩, ⟨z3, z4⟩, z5⟩; exact ⟨⟨⟨by omega, z2⟩, z1⟩, ⟨z3, by omega⟩, z5⟩
    · rintro ⟨⟨⟨_, z2⟩, z1⟩, ⟨z3, z4⟩, z5⟩; exact ⟨⟨z1, z2⟩, ⟨z3, by omega⟩, z5⟩
  by_cases hc : rgtC I t k f
  · by_cases z : c = 20
    · exact Bth_p h (k_X11_right_f hc (by rw [e3]; omega)) (k_X12_right_f (ee.mpr hc) (by rw [e4]; omega)) rfl
    · obtain ⟨kn, k1, k2⟩ : ∃ kn : Nat, k.toInt = kn ∧ k = nI kn := by
        have k0 := hc.2.1.1
        exact ⟨k.toNatClampNeg, by have := i_cl k0; omega, i_nI k0⟩
      have km : kn < m := by have := hc.2.1.2; rw [e1, im1] at this; omega
      have jn : ∀ q, q ≠ 75 ∧ ¬ (80 ≤ q ∧ q ≤ 83) → scor I c kn t k f q = I q := fun q hq => by
        unfold scor
        rw [up_n _ _ _ (by omega), up_n _ _ _ (by omega), up_n _ _ _ (by omega), up_n _ _ _ (by omega), up_n _ _ _ (by omega), up_n _ _ _ (by omega)]
      have hc2 : riC (scor I c kn t k f) t k f := by
        have := ee.mpr hc
        unfold riC at this ⊢
        rw [jn 95 (by omega)]
        exact this
      have q141 : scoM (scor I c kn t k f) c t k f 141 = va_up (I 141) c k := by unfold scoM scor; simp [up_eq]
      refine Run_r (k_X11_right_y (n := c) (kn := kn) hc (by rw [e3]; omega) (by omega) k1 (by omega)) (Run_r (k_X12_right_y (n := c) hc2 (by rw [jn 95 (by omega), e4]; omega) (by omega)) ⟨?_, ?_⟩)
      · rw [q141, ctR_u, if_pos rfl, (hk kn km).2.2.2.2.2.2.1, ← k2]
      have qn : ∀ q, q ≠ 75 ∧ ¬ (80 ≤ q ∧ q ≤ 83) → ¬ (141 ≤ q ∧ q ≤ 143) → q ≠ 95 → scoM (scor I c kn t k f) c t k f q = I q := fun q z1 z2 z3 => by
        unfold scoM
        rw [up_n _ _ _ (by omega), up_n _ _ _ (by omega), up_n _ _ _ (by omega), up_n _ _ _ (by omega), up_n _ _ _ (by omega), jn q z1]
      have q95 : ∀ q, q ≠ 70 → q ≠ 71 → scoM (scor I c kn t k f) c t k f 95 q = I 95 q := fun q z1 z2 => by unfold scoM scor; simp [up_eq, vu_eq, z1, z2]
      have q70 : scoM (scor I c kn t k f) c t k f 95 70 = nI (c + 1) := by
        have : scoM (scor I c kn t k f) c t k f 95 70 = I 95 70 + 1 := by unfold scoM scor; simp [up_eq, vu_eq]
        rw [this, e4, nI_1]
      have q71 : scoM (scor I c kn t k f) c t k f 95 71 = t := by unfold scoM scor; simp [up_eq, vu_eq]
      have q75 : ∀ q, q ≠ 9 → q ≠ 10 → scoM (scor I c kn t k f) c t k f 75 q = I 75 q := fun q z1 z2 => by unfold scoM scor; simp [up_eq, vu_eq, z1, z2]
      have q759 : scoM (scor I c kn t k f) c t k f 75 9 = nI (c + 1) := by
        have : scoM (scor I c kn t k f) c t k f 75 9 = I 75 9 + 1 := by unfold scoM scor; simp [up_eq, vu_eq]
        rw [this, e3, nI_1]
      have q750 : scoM (scor I c kn t k f) c t k f 75 10 = t := by unfold scoM scor; simp [up_eq, vu_eq]
      have q80 : scoM (scor I c kn t k f) c t k f 80 = va_up (I 80) kn (I 80 kn + 1) := by unfold scoM scor; simp [up_eq]
      have q81 : scoM (scor I c kn t k f) c t k f 81 = va_up (I 81) c t := by unfold scoM scor; simp [up_eq]
      have q82 : scoM (scor I c kn t k f) c t k f 82 = va_up (I 82) c k := by unfold scoM scor; simp [up_eq]
      have q83 : scoM (scor I c kn t k f) c t k f 83 = va_up (I 83) c f := by unfold scoM scor; simp [up_eq]
      have q142 : scoM (scor I c kn t k f) c t k f 142 = va_up (I 142) c f := by unfold scoM scor; simp [up_eq]
      have q143 : scoM (scor I c kn t k f) c t k f 143 = va_up (I 143) c t := by unfold scoM scor; simp [up_eq]
      generalize scoM (scor I c kn t k f) c t k f = Q at *
      obtain ⟨⟨⟨t0, t9⟩, tl⟩, _⟩ := hc
      refine Inv_r (Nat.le_succ n) h (fun a z1 z2 => qn a (by omega) (by omega) (by unfold scr at z1; omega)) (fun q _ => by rw [qn 33 (by omega) (by omega) (by omega)]) (fun q z1 z2 => q95 q (by omega) (by omega)) keL_r ⟨m, c + 1, m16, by omega, by rw [q75 8 (by decide) (by decide)]; exact e1, by rw [q95 69 (by decide) (by decide)]; exact e2, q759, q70, by rw [q750, q71], by rw [q750]; exact t0, by rw [q75 11 (by decide) (by decide), q95 72 (by decide) (by decide)]; exact e7, fun j hj => ?_, fun i hii => ?_⟩
      · obtain ⟨w1, w2, w3, w4, w5, w6, w7, w8, w9⟩ := hk j hj
        rw [qn 76 (by omega) (by omega) (by omega), qn 77 (by omega) (by omega) (by omega), qn 78 (by omega) (by omega) (by omega), qn 79 (by omega) (by omega) (by omega), qn 137 (by omega) (by omega) (by omega), qn 138 (by omega) (by omega) (by omega), qn 139 (by omega) (by omega) (by omega), qn 140 (by omega) (by omega) (by omega), q80, q141, q750, ctR_u]
        refine ⟨w1, w2, w3, w4, w5, w6, ?_, by omega, w9⟩
        by_cases y : j = kn
        · rw [y, vu_s, if_pos k2, ← y, w7]
        · rw [vu_n _ _ y, if_neg (fun x => y (by rw [k2] at x; exact ((nI_ij (by omega) (by omega)).mp x).symm)), Int32.add_zero]; exact w7
      · rw [q81, q82, q83, q141, q142, q143]
        by_cases y : i = c
        · rw [y]; simp only [vu_s]; exact ⟨trivial, trivial, trivial, kn, km, k2⟩
        · simp only [vu_n _ _ y]; exact hi i (by omega)
  · exact Bth_p h (k_X11_right_r hc) (k_X12_right_r (fun z => hc (ee.mp z))) rfl
theorem al_t : ∀ h, h < 8 → alS (nI h) = tb5.getD h 0 ∧ alS ((nI h + 6) - (nI h + 6) / 8 * 8) = tb6.getD h 0 := by decide +kernel
theorem fkn_cg {ft kn k : Int32} {cs ca cf cs' ca' cf' : Nat → Int32} : ∀ c, (∀ i, i < c → cs i = cs' i ∧ ca i = ca' i ∧ cf i = cf' i) → fkn ft cs ca cf k kn c = fkn ft cs' ca' cf' k kn c := by
  intro c
  induction c with
  | zero => intro _; rfl
  | succ c ih =>
    intro h
    obtain ⟨x, y, z⟩ := h c (by omega)
    rw [fkn, fkn, x, y, z, ih (fun i hi => h i (by omega))]
theorem fe_e {kn : Int32} (h : iR I) : feE I kn = (end5 I kn, end6 I kn, ofb I kn) := by
  obtain ⟨m, c, m16, c20, e1, e2, e3, e4, e5, e6, e7, hk, hi⟩ := h
  have nm : nN (I 75 8) = m := by rw [e1]; exact nI_clamp (by omega)
  have nm2 : nN (I 95 69) = m := by rw [e2]; exact nI_clamp (by omega)
  have nc : nN (I 75 9) = c := by rw [e3]; exact nI_clamp (by omega)
  have nc2 : nN (I 95 70) = c := by rw [e4]; exact nI_clamp (by omega)
  have ef : ∀ k, k < m → feF I kn k = fkS I kn k := fun k hkk => by
    unfold feF fkS
    rw [nc, nc2, (hk k hkk).2.1]
    exact fkn_cg c (fun i hii => ⟨(hi i hii).2.1.symm, (hi i hii).1.symm, (hi i hii).2.2.1.symm⟩)
  unfold feE end5 end6 ofb
  rw [nm, nm2]
  have go : ∀ j, j ≤ m → (feS I kn j).1 = (sms (fun k => decide (I 76 k ≤ kn)) (fun k => fkS I kn k * tb5.getD (I 78 k).toNatClampNeg 0) j, sms (fun k => decide (I 76 k ≤ kn)) (fun k => fkS I kn k * tb6.getD (I 78 k).toNatClampNeg 0) j, sms (fun k => decide (I 76 k ≤ kn)) (fun k => 10 * I 79 k + I 75 11 * nI k) j) ∧ ((∀ i, i < j → I 76 i ≤ kn) → (feS I kn j).2 = nI j) := by
    intro j
    induction j with
    | zero => intro _; exact ⟨rfl, fun _ => rfl⟩
    | succ j ih =>
      intro hj
      obtain ⟨i1, i2⟩ := ih (by omega)
      obtain ⟨w1, w2, w3, w4, w5, w6, w7, w8, w9⟩ := hk j (by omega)
      obtain ⟨x, x1, x2, x3, x4⟩ := n_of (H := 8) w5 (by rw [nI_toInt (by omega)]; omega) (by omega)
      obtain ⟨t1, t2⟩ := al_t x x4
      rw [feS, sms, sms, sms, ← w1]
      by_cases z : I 76 j ≤ kn
      · have all : ∀ i, i < j → I 76 i ≤ kn := fun i hii => by
          rw [i_le] at z ⊢
          have := w9 i hii
          omega
        simp only [decide_eq_true z, if_true]
        rw [if_pos z]
        refine ⟨?_, fun _ => ?_⟩
        · show ((feS I kn j).1.1 + feF I kn j * alS (I 138 j), (feS I kn j).1.2.1 + feF I kn j * alS ((I 138 j + 6) - (I 138 j + 6) / 8 * 8), (feS I kn j).1.2.2 + (10 * I 139 j + I 95 72 * (feS I kn j).2)) = _
          rw [i2 all, i1, ef j (by omega), ← w3, ← w4, ← e7, x2, x3, t1, t2]
        · show (feS I kn j).2 + 1 = nI (j + 1)
          rw [i2 all, nI_1]
      · simp only [decide_eq_false z]
        rw [if_neg z]
        simp only [Bool.false_eq_true, if_false]
        exact ⟨i1, fun y => absurd (y j (by omega)) z⟩
  exact (go m (Nat.le_refl _)).1
theorem st_where {n : Nat} {k w : Int32} (h : Inv n I L) : Bth sc mX11_where mX12_where 3 2 [.int k, .int w] n I L tg := by
  obtain ⟨m, c, m16, c20, e1, e2, e3, e4, e5, e6, e7, hk, hi⟩ := id h.2.2.2.2.2.1
  have im : (nI m).toInt = m := nI_toInt (by omega)
  have ic : (nI c).toInt = c := nI_toInt (by omega)
  have nm : nN (I 75 8) = m := by rw [e1]; exact nI_clamp (by omega)
  by_cases hc : wheC k w
  · refine Run_r (k_X11_where_y hc (by rw [e1]; omega) (by rw [e1]; omega) (by rw [e3]; omega) (by rw [e3]; omega) (fun j hj => by have := hk j (by omega); omega)) (Run_r (k_X12_where_y hc (by rw [e2]; omega) (by rw [e2]; omega) (by rw [e4]; omega) (by rw [e4]; omega)) ⟨?_, ?_⟩)
    · rw [fe_e h.2.2.2.2.2.1]
      unfold whS
      have w0 : w = 0 ↔ w.toInt = 0 := Int32.toInt_inj.symm
      have w1 : w = 1 ↔ w.toInt = 1 := Int32.toInt_inj.symm
      have w2 : w = 2 ↔ w.toInt = 2 := Int32.toInt_inj.symm
      have hw := hc.2
      by_cases z : w = 0
      · rw [if_pos z, if_neg (by rw [w2]; rw [w0] at z; omega), if_pos z]
      · by_cases y : w = 1
        · rw [if_neg z, if_pos y, if_neg (by rw [w2]; rw [w1] at y; omega), if_neg z]
        · rw [if_neg z, if_neg y, if_pos (w2.mpr (by rw [w0] at z; rw [w1] at y; omega))]
    · exact Inv_c (Nat.le_succ n) h (fun a ha => feI_n _ _ (by unfold scr at ha; omega)) (fun q _ => by rw [feI_n _ _ (by decide)]) (fun q hq => feI_95 _ _ (by unfold scf at hq; omega) (by unfold scf at hq; omega) (by unfold scf at hq; omega)) keL_r
  · exact Bth_p h (k_X11_where_r hc) (k_X12_where_r hc) rfl
theorem st_up {n : Nat} {a k : Int32} (h : Inv n I L) : Bth sc mX11_up mX12_up 4 2 [.int a, .int k] n I L tg := by
  obtain ⟨m, c, m16, c20, e1, e2, e3, e4, e5, e6, e7, hk, hi⟩ := id h.2.2.2.2.2.1
  have im : (nI m).toInt = m := nI_toInt (by omega)
  have ic : (nI c).toInt = c := nI_toInt (by omega)
  have nm : nN (I 75 8) = m := by rw [e1]; exact nI_clamp (by omega)
  obtain ⟨H, G, K, ⟨h5, _⟩, ⟨a1, _⟩, ⟨b1, _⟩, _, s, _, d, _⟩ := cm_x h.2.2.1
  by_cases hc : (0 ≤ a.toInt ∧ a.toInt < (nI H).toInt) ∧ 0 ≤ k.toInt ∧ k.toInt ≤ 999
  · obtain ⟨x, x1, x2, x3, x4⟩ := n_of hc.1.1 hc.1.2 (by omega)
    have s1 : I 97 1 = I 4 4 := (s 1 (by decide)).1
    refine Run_r (k_X11_up_y (hn := x) (by rw [a1]; exact hc) x1 (by omega) (by rw [e1]; omega) (by rw [e1]; omega) (by rw [e3]; omega) (by rw [e3]; omega) (fun j hj => by have := hk j (by omega); omega)) (Run_r (k_X12_up_y (hn := x) (by unfold upC; rw [b1]; exact hc) x1 (by omega) (by rw [e2]; omega) (by rw [e2]; omega) (by rw [e4]; omega) (by rw [e4]; omega)) ⟨?_, ?_⟩)
    · rw [fe_e h.2.2.2.2.2.1, (d x x4).2.1, s1]
      rfl
    · exact Inv_c (Nat.le_succ n) h (fun a ha => feI_n _ _ (by unfold scr at ha; omega)) (fun q _ => by rw [feI_n _ _ (by decide)]) (fun q hq => feI_95 _ _ (by unfold scf at hq; omega) (by unfold scf at hq; omega) (by unfold scf at hq; omega)) keL_r
  · exact Bth_p h (k_X11_up_r (by rw [a1]; exact hc)) (k_X12_up_r (by unfold upC; rw [b1]; exact hc)) rfl
end
