/-! bytes of both tapes -/
section
theorem by_bit {x y : BitVec 32} (h : ∀ j, j < 8 → x.getLsbD j = y.getLsbD j) : x &&& 255#32 = y &&& 255#32 := by
  apply BitVec.eq_of_getLsbD_eq
  intro j hj
  rw [BitVec.getLsbD_and, BitVec.getLsbD_and]
  by_cases z : j < 8
  · rw [h j z]
  · have : ∀ j, j < 32 → ¬ j < 8 → (255#32).getLsbD j = false := by decide
    rw [this j hj z, Bool.and_false, Bool.and_false]
theorem by_i8 (x : Int32) : x.toInt8.toInt32 &&& 255 = x &&& 255 := by
  apply Int32.toBitVec_inj.mp
  rw [Int32.toBitVec_and, Int32.toBitVec_and]
  refine by_bit (fun j hj => ?_)
  rw [Int8.toBitVec_toInt32, Int32.toBitVec_toInt8, BitVec.getLsbD_signExtend, BitVec.getLsbD_signExtend, if_pos hj, if_pos (by omega), decide_eq_true (show j < 32 by omega), decide_eq_true (show j < 8 by omega), Bool.true_and, Bool.true_and]
theorem by_sh {v : Int32} {s : Nat} (hs : s = 24 ∨ s = 16 ∨ s = 8 ∨ s = 0) : (v.toUInt32 >>> ((nI s).toUInt32 &&& Int32.toUInt32 31)).toInt32 &&& 255 = (v >>> (nI s &&& 31)) &&& 255 := by
  apply Int32.toBitVec_inj.mp
  rw [Int32.toBitVec_and, Int32.toBitVec_and]
  refine by_bit (fun j hj => ?_)
  rcases hs with rfl | rfl | rfl | rfl
  · simp [nI, BitVec.getLsbD_sshiftRight, show 24 + j < 32 by omega, show ¬ 32 ≤ j by omega]
  · simp [nI, BitVec.getLsbD_sshiftRight, show 16 + j < 32 by omega, show ¬ 32 ≤ j by omega]
  · simp [nI, BitVec.getLsbD_sshiftRight, show 8 + j < 32 by omega, show ¬ 32 ≤ j by omega]
  · simp [nI]
theorem nar_b (x : Int32) : vp_nar .byte x = x.toInt8.toInt32 := rfl
theorem i8_r (x : Int32) : -128 ≤ x.toInt8.toInt32.toInt ∧ x.toInt8.toInt32.toInt ≤ 127 := by
  rw [Int8.toInt_toInt32]
  have h1 := Int8.le_toInt x.toInt8
  have h2 := Int8.toInt_lt x.toInt8
  omega
theorem by_eq (v : Int32) {i : Nat} (hi : i < 4) : byv v i = bym v i &&& 255 := by
  unfold byv bym
  rw [nar_b, by_i8, by_i8, by_sh (by omega)]
theorem bym_r (v : Int32) (i : Nat) : -128 ≤ (bym v i).toInt ∧ (bym v i).toInt ≤ 127 := by
  unfold bym
  rw [nar_b]
  exact i8_r _
variable {sc : Sc} {I J : Is} {L K : Ls} {tg : Nat}
theorem ins_b {f g : Nat → Int32} {v : Int32} {N : Nat} (h : ∀ j, f j = g j &&& 255) (hb : ∀ j, -128 ≤ (g j).toInt ∧ (g j).toInt ≤ 127) : (∀ j, ins f (byv v) N 4 j = ins g (bym v) N 4 j &&& 255) ∧ ∀ j, -128 ≤ (ins g (bym v) N 4 j).toInt ∧ (ins g (bym v) N 4 j).toInt ≤ 127 := by
  refine ⟨fun j => ?_, fun j => ?_⟩
  · unfold ins
    by_cases z : N ≤ j ∧ j < N + 4
    · rw [if_pos z, if_pos z]; exact by_eq v (by omega)
    · rw [if_neg z, if_neg z]; exact h j
  · unfold ins
    by_cases z : N ≤ j ∧ j < N + 4
    · rw [if_pos z]; exact bym_r _ _
    · rw [if_neg z]; exact hb j
theorem fd_2 {N : Nat} {a b c d e : Int32} : fdI I N a b c d e 2 = ins (ins (ins (ins (ins (I 2) (byv a) N 4) (byv b) (N + 4) 4) (byv c) (N + 8) 4) (byv d) (N + 12) 4) (byv e) (N + 16) 4 := by
  unfold fdI apI
  simp [up_eq, upr_eq]
theorem fm_96 {N : Nat} {a b c d e : Int32} : fdM I N a b c d e 96 = ins (ins (ins (ins (ins (I 96) (bym a) N 4) (bym b) (N + 4) 4) (bym c) (N + 8) 4) (bym d) (N + 12) 4) (bym e) (N + 16) 4 := by
  unfold fdM apM
  simp [up_eq, upr_eq]
theorem fd_n {N q : Nat} {a b c d e : Int32} (h1 : q ≠ 1) (h2 : q ≠ 2) : fdI I N a b c d e q = I q := by
  unfold fdI apI
  simp [up_eq, upr_eq, h1, h2]
theorem fd_1 {N : Nat} {a b c d e : Int32} : fdI I N a b c d e 1 1 = nI (N + 20) := by
  unfold fdI apI
  simp [up_eq, upr_eq, vu_eq]
theorem fm_n {N q : Nat} {a b c d e : Int32} (h1 : q ≠ 95) (h2 : q ≠ 96) : fdM I N a b c d e q = I q := by
  unfold fdM apM
  simp [up_eq, upr_eq, h1, h2]
theorem fm_1 {N : Nat} {a b c d e : Int32} : fdM I N a b c d e 95 1 = nI (N + 20) := by
  unfold fdM apM
  simp [up_eq, upr_eq, vu_eq]
theorem fm_k {N k : Nat} {a b c d e : Int32} (h : k ≠ 1) : fdM I N a b c d e 95 k = I 95 k := by
  unfold fdM apM
  simp [up_eq, upr_eq, vu_eq, h]
/-- feed -/
theorem st_feed {n : Nat} {a b c d e : Int32} (h : Inv n I L) : Bth sc mX11_feed mX12_feed 1 1 [.int a, .int b, .int c, .int d, .int e] n I L tg := by
  obtain ⟨⟨N, h9, e1, e2⟩, e3, e4⟩ := h.1
  by_cases hf : N + 20 ≤ 900
  · refine Run_r (k_X11_feed_y e1 hf) (Run_r (k_X12_feed_y (N := N) (by rw [fd_n (by decide) (by decide)]; exact e2) hf) ⟨rfl, ?_⟩)
    have g0 : ∀ j, I 2 j = I 96 j &&& 255 := fun j => by rw [e3]; rfl
    obtain ⟨g1, b1⟩ := ins_b (v := a) (N := N) g0 e4
    obtain ⟨g2, b2⟩ := ins_b (v := b) (N := N + 4) g1 b1
    obtain ⟨g3, b3⟩ := ins_b (v := c) (N := N + 8) g2 b2
    obtain ⟨g4, b4⟩ := ins_b (v := d) (N := N + 12) g3 b3
    obtain ⟨g5, b5⟩ := ins_b (v := e) (N := N + 16) g4 b4
    refine Inv_t (Nat.le_succ n) h (fun q z1 z2 => ?_) (fun k hk => ?_) (fun k z1 z2 => ?_) keL_r ⟨⟨N + 20, hf, ?_, ?_⟩, ?_, ?_⟩
    · rw [fm_n (by unfold scr at z1; omega) (by omega), fd_n (by omega) (by omega)]
    · rw [fm_n (by decide) (by decide), fd_n (by decide) (by decide)]
    · rw [fm_k z2, fd_n (by decide) (by decide)]
    · rw [fm_n (by decide) (by decide), fd_1]
    · rw [fm_1]
    · rw [fm_n (by decide) (by decide), fd_2]
      funext j
      unfold mtp
      rw [fm_96, fd_n (by decide) (by decide)]
      exact g5 j
    · rw [fm_96, fd_n (by decide) (by decide)]
      exact b5
  · exact Bth_p h (k_X11_feed_f (N := N) (by rw [e1, nI_toInt (by omega)]) h9 (by omega)) (k_X12_feed_f (N := N) (by rw [e2, nI_toInt (by omega)]) h9 (by omega)) rfl
end
