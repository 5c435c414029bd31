/-! steps: boards, run, told, gone, drift, tunnel, open -/
section
variable {sc : Sc} {I J : Is} {L K : Ls} {tg : Nat}
/-- the camp of both, said plainly -/
def cmX (I : Is) (H G K : Nat) : Prop := (H ≤ 5 ∧ G ≤ 4 ∧ K ≤ 4) ∧ (I 3 14 = nI H ∧ I 3 15 = nI G ∧ I 3 16 = nI K) ∧ (I 95 10 = nI H ∧ I 95 11 = nI G ∧ I 95 12 = nI K) ∧ (I 95 13 = I 3 17 ∧ I 95 14 = I 4 12 ∧ I 95 15 = I 4 13 ∧ 0 ≤ (I 4 12).toInt ∧ (I 4 12).toInt ≤ 20 ∧ 0 ≤ (I 4 13).toInt ∧ (I 4 13).toInt ≤ 20) ∧ (∀ i, i < 9 → I 97 i = I 4 (i + 3) ∧ (ol3.getD (18 + 3 * i) 0).toInt ≤ (I 4 (i + 3)).toInt ∧ (I 4 (i + 3)).toInt ≤ (ol4.getD (18 + 3 * i) 0).toInt) ∧ (∀ j, j < 25 → (0 < H → I 106 j = (if j / 5 = j % 5 then 0 else if I 11 j = -1 then 5 else I 11 j)) ∧ -1 ≤ (I 11 j).toInt ∧ (I 11 j).toInt ≤ 60) ∧ (∀ h, h < H → I 102 h = I 7 h ∧ I 103 h = I 8 h ∧ I 104 h = I 9 h ∧ I 105 h = I 10 h ∧ 0 ≤ (I 7 h).toInt ∧ (I 7 h).toInt ≤ 400 ∧ 1 ≤ (I 8 h).toInt ∧ (I 8 h).toInt ≤ 300 ∧ 1 ≤ (I 9 h).toInt ∧ (I 9 h).toInt ≤ 40 ∧ -1 ≤ (I 10 h).toInt ∧ (I 10 h).toInt ≤ 99) ∧ (∀ g, g < G → I 107 g = I 13 g ∧ I 108 g = I 14 g ∧ I 109 g = I 15 g ∧ 0 ≤ (I 13 g).toInt ∧ (I 13 g).toInt ≤ 400 ∧ 0 ≤ (I 14 g).toInt ∧ (I 14 g).toInt ≤ 999 ∧ 0 ≤ (I 15 g).toInt ∧ (I 15 g).toInt ≤ 9999) ∧ (∀ l, l < K → I 110 l = I 17 l ∧ 0 ≤ (I 17 l).toInt ∧ (I 17 l).toInt ≤ 99) ∧ (∀ h, H ≤ h → h < 5 → I 10 h = -1)
theorem cm_x (h : iC I) : ∃ H G K, cmX I H G K := h
theorem sm_mul {f : Nat → Int32} {c : Int32} : ∀ n, sm (fun h => f h * c) n = sm f n * c := by
  intro n
  induction n with
  | zero => show (0 : Int32) = 0 * c; rw [Int32.zero_mul]
  | succ n ih => rw [sm, sm, ih, Int32.add_mul]
theorem b_eq {n : Nat} (h : Inv n I L) : bMd I = bAll I - I 36 9 := by
  obtain ⟨H, G, K, ⟨h5, _⟩, ⟨a1, _⟩, ⟨b1, _⟩, ⟨_, c2, c3, _⟩, _, _, d, _⟩ := cm_x h.2.2.1
  unfold bMd bMl bAll
  rw [a1, b1, c2, c3, ← h.2.2.2.1.2.1.2.1, sm_mul, show nN (nI H) = H from nI_clamp (by omega), sm_ext H (fun k hk => (d k hk).2.2.1)]
/-- boards -/
theorem st_boards {n : Nat} (h : Inv n I L) : Bth sc mX11_boards mX12_boards 3 2 [] n I L tg := by
  obtain ⟨H, h5, e1, e2⟩ := cm_H h.2.2.1
  have i3 : (I 3 14).toInt = H := by rw [e1, nI_toInt (by omega)]
  have i9 : (I 95 10).toInt = H := by rw [e2, nI_toInt (by omega)]
  exact Bth_p h (k_X11_boards (by omega) (by omega)) (k_X12_boards (by omega) (by omega)) (b_eq h)
/-- a number of a range -/
theorem n_of {a : Int32} {H : Nat} (h0 : 0 ≤ a.toInt) (h1 : a.toInt < (nI H).toInt) (hH : H < 2147483648) : ∃ x : Nat, a.toInt = x ∧ a.toNatClampNeg = x ∧ a = nI x ∧ x < H := by
  rw [nI_toInt hH] at h1
  refine ⟨a.toNatClampNeg, ?_, rfl, i_nI h0, ?_⟩
  · have := i_cl h0; omega
  · have := i_cl h0; omega
/-- run -/
theorem st_run {n : Nat} {a b : Int32} (h : Inv n I L) : Bth sc mX11_run mX12_run 2 2 [.int a, .int b] n I L tg := by
  obtain ⟨H, G, K, ⟨h5, _⟩, ⟨a1, _⟩, ⟨b1, _⟩, _, _, hr, _⟩ := cm_x h.2.2.1
  by_cases hc : (0 ≤ a.toInt ∧ a.toInt < (nI H).toInt) ∧ 0 ≤ b.toInt ∧ b.toInt < (nI H).toInt
  · obtain ⟨x, x1, x2, x3, x4⟩ := n_of hc.1.1 hc.1.2 (by omega)
    obtain ⟨y, y1, y2, y3, y4⟩ := n_of hc.2.1 hc.2.2 (by omega)
    refine Bth_p h (k_X11_run (by rw [a1, nI_toInt (by omega)]; omega)) (k_X12_run_y (x := x) (y := y) (by rw [b1]; exact hc) x1 (by omega) y1 (by omega)) ?_
    rw [a1, if_pos hc, (hr (5 * x + y) (by omega)).1 (by omega)]
    unfold mbt
    have ei : (a * 5 + b).toNatClampNeg = 5 * x + y := by rw [x3, y3, Int32.mul_comm, show (5 : Int32) = nI 5 from rfl, pk_mul, nI_add, nI_clamp (by omega)]
    rw [ei]
    by_cases z : x = y
    · rw [if_pos (by omega), if_pos (by rw [x3, y3, z])]
    · rw [if_neg (show ¬ (5 * x + y) / 5 = (5 * x + y) % 5 by omega), if_neg (show ¬ a = b from by rw [x3, y3]; exact fun q => z ((nI_ij (by omega) (by omega)).mp q))]
  · refine Bth_p h (k_X11_run (by rw [a1, nI_toInt (by omega)]; omega)) (k_X12_run_r (by rw [b1]; exact hc)) ?_
    rw [a1, if_neg hc]
/-- told -/
theorem d10 : ∀ k, k < 100 → nI k / 10 = nI (k / 10) ∧ nI k - nI k / 10 * 10 = nI (k % 10) ∧ (3 ≤ k → nI k - 3 = nI (k - 3)) ∧ (90 ≤ k → nI k - 90 = nI (k - 90)) := by decide +kernel
theorem st_told {n : Nat} {w : Int32} (h : Inv n I L) : Bth sc mX11_told mX12_told 1 1 [.int w] n I L tg := by
  obtain ⟨H, G, K, ⟨h5, h4, h4'⟩, ⟨a1, a2, a3⟩, ⟨b1, b2, b3⟩, ⟨_, c2, c3, _⟩, s, _, d, g, l, _⟩ := cm_x h.2.2.1
  have iH : (nI H).toInt = H := nI_toInt (by omega)
  have iG : (nI G).toInt = G := nI_toInt (by omega)
  have iK : (nI K).toInt = K := nI_toInt (by omega)
  refine Bth_p h (k_X11_told (by rw [a1]; omega) (by rw [a2]; omega) (by rw [a3]; omega)) (k_X12_told (by rw [b1]; omega) (by rw [b2]; omega) (by rw [b3]; omega)) ?_
  unfold toS tmS genS ohS ogS
  rw [a1, a2, a3, b1, b2, b3, iH, iG, iK]
  by_cases z0 : w.toInt < 0
  · rw [if_pos z0, if_neg (by omega), if_neg (by omega), if_neg (by omega), if_neg (by omega), if_neg (by omega), if_neg (by omega), if_neg (by omega), if_neg (by omega), if_neg (by omega)]
  · rw [if_neg z0]
    by_cases z1 : 100 ≤ w.toInt
    · rw [if_neg (by omega), if_neg (by omega), if_neg (by omega), if_neg (by omega), if_neg (by omega), if_neg (by omega), if_neg (by omega), if_neg (by omega), if_neg (by omega), if_neg (by omega), if_neg (by omega), if_neg (by omega), if_neg (by omega)]
    · obtain ⟨k, k1, k2⟩ : ∃ k : Nat, k < 100 ∧ w = nI k := ⟨w.toNatClampNeg, by have := i_cl (a := w) (by omega); omega, i_nI (by omega)⟩
      have ki : (nI k).toInt = k := nI_toInt (by omega)
      obtain ⟨q1, q2, q3, q4⟩ := d10 k k1
      rw [k2, ki, q2, q1, nI_toInt (by omega), nI_clamp (show k % 10 < 2147483648 by omega)]
      have ie : ∀ j, j < 100 → (nI k = nI j ↔ k = j) := fun j hj => nI_ij (by omega) (by omega)
      have id' : ∀ j, j < 100 → (nI (k / 10) = nI j ↔ k / 10 = j) := fun j hj => nI_ij (by omega) (by omega)
      have e0 := ie 0 (by omega); have e1 := ie 1 (by omega); have e2 := ie 2 (by omega)
      have f2 := id' 2 (by omega); have f3 := id' 3 (by omega); have f4 := id' 4 (by omega); have f6 := id' 6 (by omega); have f7 := id' 7 (by omega)
      simp only [show nI 0 = 0 from rfl, show nI 1 = 1 from rfl, show nI 2 = 2 from rfl, show nI 3 = 3 from rfl, show nI 4 = 4 from rfl, show nI 6 = 6 from rfl, show nI 7 = 7 from rfl] at e0 e1 e2 f2 f3 f4 f6 f7
      simp only [e0, e1, e2, f2, f3, f4, f6, f7]
      by_cases y1 : k < 20
      · rw [if_neg (by omega), if_neg (by omega), if_neg (by omega), if_pos (show (k : Int) < 20 by omega)]
        by_cases y2 : 3 ≤ k ∧ k ≤ 11
        · rw [if_pos (by omega), if_neg (by omega), if_neg (by omega), if_neg (by omega), if_pos (by omega), q3 (by omega), nI_clamp (by omega), nI_clamp (by omega), (s (k - 3) (by omega)).1, show k - 3 + 3 = k by omega]
        · rw [if_neg (by omega)]
          by_cases w0 : k = 0
          · rw [if_pos (by omega), if_pos w0]
          · rw [if_neg (by omega), if_neg w0]
            by_cases w1 : k = 1
            · rw [if_pos (by omega), if_pos w1]
            · rw [if_neg (by omega), if_neg w1]
              by_cases w2 : k = 2
              · rw [if_pos (by omega), if_pos w2]
              · rw [if_neg (by omega), if_neg w2]
                by_cases w12 : k = 12
                · rw [if_pos (by omega), if_pos (by omega), c2, nI_clamp (by omega), w12]
                · rw [if_neg (by omega)]
                  by_cases w13 : k = 13
                  · rw [if_pos (by omega), if_pos (by omega), c3, nI_clamp (by omega), w13]
                  · rw [if_neg (by omega), if_neg (by omega)]
      · rw [if_neg (show ¬ (k : Int) < 20 by omega)]
        by_cases y2 : k < 60
        · rw [if_pos (by omega), if_pos (show (k : Int) < 60 by omega)]
          by_cases v : k % 10 < H
          · obtain ⟨g1, g2, g3, g4, _⟩ := d (k % 10) v
            rw [g1, g2, g3, g4, if_pos (show ((k % 10 : Nat) : Int) < (H : Int) by omega), if_pos (show 0 ≤ ((k % 10 : Nat) : Int) ∧ ((k % 10 : Nat) : Int) < (H : Int) by omega)]
            by_cases v2 : k < 30
            · rw [if_pos (show (k : Int) < 30 by omega), if_pos (show k / 10 = 2 by omega)]
            · rw [if_neg (show ¬ (k : Int) < 30 by omega), if_neg (show ¬ k / 10 = 2 by omega)]
              by_cases v3 : k < 40
              · rw [if_pos (show (k : Int) < 40 by omega), if_pos (show k / 10 = 3 by omega)]
              · rw [if_neg (show ¬ (k : Int) < 40 by omega), if_neg (show ¬ k / 10 = 3 by omega)]
                by_cases v4 : k < 50
                · rw [if_pos (show (k : Int) < 50 by omega), if_pos (show k / 10 = 4 by omega)]
                · rw [if_neg (show ¬ (k : Int) < 50 by omega), if_neg (show ¬ k / 10 = 4 by omega)]
          · rw [if_neg (by omega), if_neg (by omega)]
        · rw [if_neg (by omega), if_neg (show ¬ (k : Int) < 60 by omega)]
          by_cases y3 : k < 90
          · rw [if_pos (by omega), if_pos (show (k : Int) < 90 by omega)]
            by_cases v : k % 10 < G
            · obtain ⟨g1, g2, g3, _⟩ := g (k % 10) v
              rw [g1, g2, g3, if_pos (show ((k % 10 : Nat) : Int) < (G : Int) by omega), if_pos (show 0 ≤ ((k % 10 : Nat) : Int) ∧ ((k % 10 : Nat) : Int) < (G : Int) by omega)]
              by_cases v2 : k < 70
              · rw [if_pos (show (k : Int) < 70 by omega), if_pos (show k / 10 = 6 by omega)]
              · rw [if_neg (show ¬ (k : Int) < 70 by omega), if_neg (show ¬ k / 10 = 6 by omega)]
                by_cases v3 : k < 80
                · rw [if_pos (show (k : Int) < 80 by omega), if_pos (show k / 10 = 7 by omega)]
                · rw [if_neg (show ¬ (k : Int) < 80 by omega), if_neg (show ¬ k / 10 = 7 by omega)]
            · rw [if_neg (by omega), if_neg (by omega)]
          · rw [if_neg (by omega), if_neg (show ¬ (k : Int) < 90 by omega)]
            by_cases v : k - 90 < K
            · rw [if_pos (by omega), if_pos (by omega), (l (k % 10) (by omega)).1, q4 (by omega), nI_clamp (by omega), show k % 10 = k - 90 by omega]
            · rw [if_neg (by omega), if_neg (by omega), if_neg (by omega), if_neg (by omega), if_neg (by omega), if_neg (by omega), if_neg (by omega), if_neg (by omega)]
end
