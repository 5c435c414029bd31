/-! steps: carry, most, until -/
section
variable {sc : Sc} {I J : Is} {L K : Ls} {tg : Nat}
theorem iAbs_s {a b : Int32} (h1 : 0 ≤ a.toInt ∧ a.toInt ≤ 1000) (h2 : 0 ≤ b.toInt ∧ b.toInt ≤ 1000) : iAbs (a - b) = iAbs (b - a) := by
  have e1 : (a - b).toInt = a.toInt - b.toInt := i_sub (by omega) (by omega)
  have e2 : (b - a).toInt = b.toInt - a.toInt := i_sub (by omega) (by omega)
  apply Int32.toInt_inj.mp
  unfold iAbs
  by_cases z : 0 ≤ a - b
  · rw [if_pos z]
    rw [i_le, e1] at z
    simp only [Int32.reduceToInt] at z
    by_cases y : 0 ≤ b - a
    · rw [if_pos y]
      rw [i_le, e2] at y
      simp only [Int32.reduceToInt] at y
      omega
    · rw [if_neg y, i_sub (a := 0) (b := b - a) (by rw [e2]; simp only [Int32.reduceToInt]; omega) (by rw [e2]; simp only [Int32.reduceToInt]; omega), e1, e2]
      simp only [Int32.reduceToInt]; omega
  · rw [if_neg z]
    rw [i_le, e1] at z
    simp only [Int32.reduceToInt] at z
    by_cases y : 0 ≤ b - a
    · rw [if_pos y, i_sub (by rw [e1]; simp only [Int32.reduceToInt]; omega) (by rw [e1]; simp only [Int32.reduceToInt]; omega), e1, e2]
      simp only [Int32.reduceToInt]; omega
    · exfalso
      rw [i_le, e2] at y
      simp only [Int32.reduceToInt] at y
      omega
/-- the reach of both -/
theorem rc_e {H G K h g : Nat} (c : cmX I H G K) (hh : h < H) (hg : g < G) : iAbs (I 102 h - I 107 g) + I 103 h ≤ I 97 4 ↔ iAbs (I 13 g - I 7 h) + I 8 h ≤ I 4 7 := by
  obtain ⟨_, _, _, _, s, _, d, e, _⟩ := c
  obtain ⟨d1, d2, d3, d4, d5, d6, _⟩ := d h hh
  obtain ⟨e1, e2, e3, e4, e5, _⟩ := e g hg
  have s4 : I 97 4 = I 4 7 := (s 4 (by decide)).1
  rw [d1, d2, e1, s4, iAbs_s (a := I 7 h) (b := I 13 g) (by omega) (by omega)]
theorem st_carry {n : Nat} {a b c : Int32} (h : Inv n I L) : Bth sc mX11_carry mX12_carry 3 2 [.int a, .int b, .int c] n I L tg := by
  obtain ⟨H, G, K, cx⟩ := cm_x h.2.2.1
  obtain ⟨⟨h5, h4, _⟩, ⟨a1, a2, _⟩, ⟨b1, b2, _⟩, _, _, _, _, e, _⟩ := id cx
  obtain ⟨⟨⟨T, t1, t2, t3⟩, u, sd, hd⟩, d, s0, s1⟩ := id h.2.2.2.1
  by_cases hc : (0 ≤ a.toInt ∧ a.toInt < (nI H).toInt) ∧ (0 ≤ b.toInt ∧ b.toInt < (nI G).toInt) ∧ 1 ≤ c.toInt ∧ c.toInt ≤ 9999
  · obtain ⟨x, x1, x2, x3, x4⟩ := n_of hc.1.1 hc.1.2 (by omega)
    obtain ⟨y, y1, y2, y3, y4⟩ := n_of hc.2.1.1 hc.2.1.2 (by omega)
    obtain ⟨e1, e2, e3, _, _, _, _, e4, e5⟩ := e y y4
    have re := rc_e cx x4 y4
    have ke : mkC I x y c ↔ wkC I x y c := by
      unfold mkC wkC
      rw [← d.2.2.2.1 x (by omega), ← d.2.2.2.2.1 y (by omega), e3]
      exact ⟨fun z => ⟨re.mp z.1, z.2⟩, fun z => ⟨re.mpr z.1, z.2⟩⟩
    have hcI : (0 ≤ a.toInt ∧ a.toInt < (I 3 14).toInt) ∧ (0 ≤ b.toInt ∧ b.toInt < (I 3 15).toInt) ∧ 1 ≤ c.toInt ∧ c.toInt ≤ 9999 := by rw [a1, a2]; exact hc
    have hcM : caC I a b c := by unfold caC; rw [b1, b2]; exact hc
    by_cases hw : wkC I x y c
    · have jn : ∀ q, q ≠ 42 ∧ q ≠ 43 → wkI I x y c q = I q := fun q hq => by unfold wkI; rw [up_n _ _ _ hq.2, up_n _ _ _ hq.1]
      have hk : mkC (wkI I x y c) x y c := by
        have : mkC (wkI I x y c) x y c ↔ mkC I x y c := by
          unfold mkC mRc
          rw [jn 102 (by decide), jn 103 (by decide), jn 107 (by decide), jn 97 (by decide), jn 109 (by decide), jn 125 (by decide), jn 126 (by decide)]
        exact this.mpr (ke.mpr hw)
      refine Run_r (k_X11_carry_y hcI x1 y1 (by omega) (by omega) hw) (Run_r (k_X12_carry_y (hn := x) (gn := y) (by unfold caC; rw [jn 95 (by decide)]; exact hcM) x1 y1 (by omega) (by omega) hk) ⟨?_, ?_⟩)
      · rw [jn 125 (by decide), d.2.2.2.1 x (by omega)]
      · have q42 : wkM (wkI I x y c) x y c 42 = va_up (I 42) x (I 42 x - c) := by unfold wkM wkI; simp [up_eq]
        have q43 : wkM (wkI I x y c) x y c 43 = va_up (I 43) y (I 43 y + c) := by unfold wkM wkI; simp [up_eq]
        have m125 : wkM (wkI I x y c) x y c 125 = va_up (I 125) x (I 125 x - c) := by unfold wkM wkI; simp [up_eq]
        have m126 : wkM (wkI I x y c) x y c 126 = va_up (I 126) y (I 126 y + c) := by unfold wkM wkI; simp [up_eq]
        have mr : ∀ q, q ≠ 42 ∧ q ≠ 43 ∧ q ≠ 125 ∧ q ≠ 126 → wkM (wkI I x y c) x y c q = I q := fun q hq => by unfold wkM; rw [up_n _ _ _ (by omega), up_n _ _ _ (by omega), jn q (by omega)]
        generalize wkM (wkI I x y c) x y c = Q at *
        have r : ∀ q, 3 ≤ q ∧ q ≤ 17 → Q q = I q := fun q hq => mr q (by omega)
        obtain ⟨w1, w2, w3⟩ := hw
        have sx : 0 ≤ (I 42 x).toInt ∧ (I 42 x).toInt ≤ 200000 * n := sd x (by omega)
        obtain ⟨hy0, hy1⟩ : 0 ≤ (I 43 y).toInt ∧ (y < nN (I 3 15) → (I 43 y).toInt ≤ (I 15 y).toInt) := hd y (by omega)
        have hy := hy1 (by rw [a2]; have : nN (nI G) = G := nI_clamp (by omega); omega)
        rw [i_le] at w2 w3
        rw [i_sub (by omega) (by omega)] at w3
        refine Inv_d (Nat.le_succ n) h (fun q z1 z2 => mr q (by omega)) (fun k hk => by rw [mr 33 (by omega)]) (fun k z1 z2 => by rw [mr 95 (by omega)]) rfl ⟨⟨⟨T, t1, by rw [mr 36 (by omega)]; exact t2, fun t ht => ?_⟩, ?_, fun k hk => ?_, fun g hg => ?_⟩, ⟨by rw [mr 36 (by omega), mr 95 (by omega)]; exact d.1, by rw [mr 36 (by omega), mr 95 (by omega)]; exact d.2.1, ?_, fun k hk => ?_, fun g hg => ?_, d.2.2.2.2.2⟩, slE_c (Nat.le_succ n) s0 r (fun k => by rw [mr 46 (by omega)]) (fun q hq => mr q (by omega)) (mr _ (by omega)) (mr _ (by omega)) rfl rfl, slE_c (Nat.le_succ n) s1 r (fun k => by rw [mr 55 (by omega)]) (fun q hq => mr q (by omega)) (mr _ (by omega)) (mr _ (by omega)) rfl rfl⟩
        · show 0 ≤ (Q 37 t).toInt ∧ (Q 37 t).toInt < (Q 3 14).toInt ∧ 0 ≤ (Q 38 t).toInt ∧ (Q 38 t).toInt ≤ 2000 * ((n + 1 : Nat) : Int) ∧ 0 ≤ (Q 39 t).toInt ∧ (Q 39 t).toInt ≤ 9
          have e : 0 ≤ (I 37 t).toInt ∧ (I 37 t).toInt < (I 3 14).toInt ∧ 0 ≤ (I 38 t).toInt ∧ (I 38 t).toInt ≤ 2000 * n ∧ 0 ≤ (I 39 t).toInt ∧ (I 39 t).toInt ≤ 9 := t3 t ht
          rw [mr 37 (by omega), mr 38 (by omega), mr 39 (by omega), r 3 (by omega)]
          omega
        · rw [mr 36 (by omega), bAll_c r]; exact u
        · show 0 ≤ (Q 42 k).toInt ∧ (Q 42 k).toInt ≤ 200000 * ((n + 1 : Nat) : Int)
          have e : 0 ≤ (I 42 k).toInt ∧ (I 42 k).toInt ≤ 200000 * n := sd k hk
          rw [q42]
          by_cases z : k = x
          · rw [z, vu_s, i_sub (by have := i_rng (I 42 x); omega) (by have := i_rng (I 42 x); omega)]; omega
          · rw [vu_n _ _ z]; omega
        · show 0 ≤ (Q 43 g).toInt ∧ (g < nN (Q 3 15) → (Q 43 g).toInt ≤ (Q 15 g).toInt)
          rw [q43, r 3 (by omega), r 15 (by omega)]
          by_cases z : g = y
          · rw [z, vu_s, i_add (by omega) (by omega)]
            exact ⟨by omega, fun _ => by omega⟩
          · rw [vu_n _ _ z]; exact hd g hg
        · rw [mr 37 (by omega), mr 38 (by omega), mr 39 (by omega), mr 40 (by omega), mr 41 (by omega), mr 120 (by omega), mr 121 (by omega), mr 122 (by omega), mr 123 (by omega), mr 124 (by omega)]; exact d.2.2.1
        · rw [q42, m125]
          by_cases z : k = x
          · rw [z, vu_s, vu_s, d.2.2.2.1 x (by omega)]
          · rw [vu_n _ _ z, vu_n _ _ z]; exact d.2.2.2.1 k hk
        · rw [q43, m126]
          by_cases z : g = y
          · rw [z, vu_s, vu_s, d.2.2.2.2.1 y (by omega)]
          · rw [vu_n _ _ z, vu_n _ _ z]; exact d.2.2.2.2.1 g hg
    · exact Bth_p h (k_X11_carry_s hcI x1 y1 (by omega) (by omega) hw) (k_X12_carry_n hcM x1 y1 (by omega) (by omega) (fun z => hw (ke.mp z))) rfl
  · exact Bth_p h (k_X11_carry_r (by rw [a1, a2]; exact hc)) (k_X12_carry_r (by unfold caC; rw [b1, b2]; exact hc)) rfl
end
