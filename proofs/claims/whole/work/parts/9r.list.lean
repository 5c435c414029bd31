/-! steps: list -/
section
variable {sc : Sc} {I J : Is} {L K : Ls} {tg : Nat}
/-- two who draw alike -/
def dwE (g : Nat) (a b : Dw) : Prop := g &&& a.1 = b.1 ∧ a.2.1 = b.2.1 ∧ a.2.2.1 = b.2.2.1 ∧ ∀ i, i < a.2.1 → a.2.2.2 i = b.2.2.2 i
theorem dw_md {g : Nat} : ∀ n (a b : Dw), dwE g a b → dwE g (dwS g n a) (mdS n b) := by
  intro n
  induction n with
  | zero => intro a b h; exact h
  | succ n ih =>
    intro a b h
    rw [dwS, mdS]
    refine ih _ _ ?_
    obtain ⟨h1, h2, h3, h4⟩ := h
    have ep : dwP g a = mdP b := by
      unfold dwP mdP
      rw [h1, h3]
    refine ⟨?_, ?_, ?_, ?_⟩
    · show g &&& clr a.1 (dwP g a) = clr b.1 (mdP b)
      rw [and_clr, h1, ep]
    · show a.2.1 + 1 = b.2.1 + 1
      rw [h2]
    · show dnx a.2.2.1 = dnx b.2.2.1
      rw [h3]
    · intro i hi
      have hi : i < a.2.1 + 1 := hi
      show va_up a.2.2.2 a.2.1 (nI (dwP g a)) i = va_up b.2.2.2 b.2.1 (nI (mdP b)) i
      rw [ep, ← h2]
      by_cases z : i = a.2.1
      · rw [z, vu_s, vu_s]
      · rw [vu_n _ _ z, vu_n _ _ z]; exact h4 i (by omega)
theorem li_mi {N W F S T : Nat} {s : Int64} {r r' : Nat → Int32} (h30 : N ≤ 30) (hW : W < 2 ^ N) (hS : S < 2 ^ N) (hs : 0 ≤ s.toInt ∧ s.toInt < 2147483648) (hF : F ≤ cnt W 32) (hT : T ≤ cnt (spk S W) 32) : mlf N W F S T s r' = (li2 N W F S T s r).1 ∧ cnt (mlf N W F S T s r') 32 = N - F - T ∧ (li3 N W F S T s r).2.1 = N ∧ (mi3 N W F S T s r').2.1 = N ∧ (∀ i, i < N → (li3 N W F S T s r).2.2.2 i = (mi3 N W F S T s r').2.2.2 i) ∧ mlf N W F S T s r' < 2147483648 ∧ F + T ≤ N := by
  obtain ⟨o1, o2, o3, o4⟩ := li_ok (r := r) h30 hW hS hs hF hT
  have hp := p30 h30
  have hp0 := Nat.two_pow_pos N
  have hca := cnt_all N h30
  have d1 : dwE W (li0 N s r) (W, 0, s, r') := ⟨(and_sub (tb_all hW)).1, rfl, rfl, fun i hi => absurd hi (Nat.not_lt_zero _)⟩
  have d2 : dwE W (li1 N W F s r) (mi1 W F s r') := dw_md F _ _ d1
  obtain ⟨a1, a2, a3, a4, a5, a6⟩ := dwS_f F _ o1
  have a1 : (li1 N W F s r).2.1 = 0 + F := a1
  have a2 : (li1 N W F s r).1 ≤ 2 ^ N - 1 := a2
  have a4 : ∀ j, W.testBit j = false → (li1 N W F s r).1.testBit j = (2 ^ N - 1).testBit j := a4
  have a5 : ∀ j, (li1 N W F s r).1.testBit j = true → (2 ^ N - 1).testBit j = true := a5
  have a6 : cnt (li1 N W F s r).1 32 + F = cnt (2 ^ N - 1) 32 := a6
  have hsub : ∀ j, (spk S W).testBit j = true → (li1 N W F s r).1.testBit j = true := by
    intro j hj
    rw [spk_tb (by omega), Bool.and_eq_true] at hj
    rw [a4 j (by simpa using hj.2)]
    exact tb_all hS j hj.1
  have d3 : dwE (spk S W) (li1 N W F s r) (spk S W, (mi1 W F s r').2) := ⟨(and_sub hsub).1, d2.2.1, d2.2.2.1, d2.2.2.2⟩
  have d4 : dwE (spk S W) (li2 N W F S T s r) (mi2 W F S T s r') := dw_md T _ _ d3
  obtain ⟨b1, b2, b3, b4, b5, b6⟩ := dwS_f T _ o2
  have b1 : (li2 N W F S T s r).2.1 = (li1 N W F s r).2.1 + T := b1
  have b2 : (li2 N W F S T s r).1 ≤ (li1 N W F s r).1 := b2
  have b4 : ∀ j, (spk S W).testBit j = false → (li2 N W F S T s r).1.testBit j = (li1 N W F s r).1.testBit j := b4
  have b5 : ∀ j, (li2 N W F S T s r).1.testBit j = true → (li1 N W F s r).1.testBit j = true := b5
  have b6 : cnt (li2 N W F S T s r).1 32 + T = cnt (li1 N W F s r).1 32 := b6
  have hsub2 : ∀ j, (li2 N W F S T s r).1.testBit j = true → (2 ^ N - 1).testBit j = true := fun j hj => a5 j (b5 j hj)
  have em : mlf N W F S T s r' = (li2 N W F S T s r).1 := by
    unfold mlf lfM
    rw [← d2.1, ← d4.1]
    apply Nat.eq_of_testBit_eq
    intro j
    have sp := spk_tb (S := S) (W := W) (by omega) j
    simp only [Nat.testBit_or, Nat.testBit_and, Nat.testBit_xor]
    have n32 : (2 ^ N - 1).testBit j = true → (2 ^ 32 - 1).testBit j = true := by
      intro z
      rw [Nat.testBit_two_pow_sub_one, decide_eq_true_iff] at z ⊢
      omega
    cases hw : W.testBit j
    · cases hk : (spk S W).testBit j
      · have e1 := b4 j hk
        have e2 := a4 j hw
        rw [e1, e2]
        cases hn : (2 ^ N - 1).testBit j
        · simp
        · rw [n32 hn]; simp
      · have : (2 ^ N - 1).testBit j = true := a5 j (hsub j hk)
        rw [n32 this, this]
        simp
    · have hk : (spk S W).testBit j = false := by rw [sp, hw]; simp
      have hn : (2 ^ N - 1).testBit j = true := tb_all hW j hw
      rw [hk, b4 j hk, n32 hn, hn]
      simp
  have ec : cnt (mlf N W F S T s r') 32 = N - F - T := by rw [em]; omega
  have d5 : dwE (2 ^ N - 1) (li2 N W F S T s r) (mlf N W F S T s r', (mi2 W F S T s r').2) := ⟨by rw [(and_sub hsub2).2, em], d4.2.1, d4.2.2.1, d4.2.2.2⟩
  have d6 := dw_md (N - F - T) _ _ d5
  have e3 : (li3 N W F S T s r).2.1 = N := by
    have : (li3 N W F S T s r).2.1 = (li2 N W F S T s r).2.1 + (N - F - T) := (dwS_f (N - F - T) _ o3).1
    rw [this]
    omega
  have d6 : dwE (2 ^ N - 1) (li3 N W F S T s r) (mi3 N W F S T s r') := by unfold mi3; rw [ec]; exact d6
  exact ⟨em, ec, e3, by rw [← d6.2.1]; exact e3, fun i hi => d6.2.2.2 i (by rw [e3]; exact hi), by rw [em]; omega, o4⟩
theorem st_list {n : Nat} {s a w f sp t : Int32} (h : Inv n I L) : Bth sc mX11_list mX12_list 3 2 [.int s, .int a, .int w, .int f, .int sp, .int t] n I L tg := by
  by_cases hc : liC s a w f sp t
  · obtain ⟨c1, ⟨c2, c3⟩, c4, c5, ⟨c6, c7⟩, c8, c9⟩ := id hc
    have ia := i_cl (a := a) (by omega)
    have iw := i_cl (a := w) c6
    have ip := i_cl (a := sp) c8
    have hl : liN s a w f sp t (nN a) (nN w) (nN f) (nN sp) (nN t) := ⟨c1, i_nI (by omega), i_nI c6, i_nI c4, i_nI c8, i_nI c5, by unfold nN; omega, by unfold nN; omega, by unfold nN at *; omega, by unfold nN at *; omega, by have := i_cl (a := f) c4; have := (i_rng f).2; unfold nN; omega, by have := i_cl (a := t) c5; have := (i_rng t).2; unfold nN; omega⟩
    by_cases hn : cnt (nN w) 32 < nN f ∨ cnt (spk (nN sp) (nN w)) 32 < nN t
    · exact Bth_p h (k_X11_list_n hl hn) (k_X12_list_n hl hn) rfl
    · have hF : nN f ≤ cnt (nN w) 32 := by omega
      have hT : nN t ≤ cnt (spk (nN sp) (nN w)) 32 := by omega
      have hs : 0 ≤ s.toInt64.toInt ∧ s.toInt64.toInt < 2147483648 := by rw [Int32.toInt_toInt64]; have := (i_rng s).2; omega
      obtain ⟨_, _, _, _, _, _, _, l8, l9, l10, _⟩ := id hl
      have all : ∀ r', _ := fun r' => li_mi (r := I 93) (r' := r') l8 l9 l10 hs hF hT
      obtain ⟨m1, m2, m3, m4, m5, m6, m7⟩ := all (I 150)
      have jn : ∀ q, q ≠ 92 → q ≠ 93 → ∀ d, dwI I d q = I q := fun q z1 z2 d => by unfold dwI; rw [upr_n _ _ z2, up_n _ _ _ z1, up_n _ _ _ z1]
      refine Run_r (k_X11_list_y hl hF hT) (Run_r (k_X12_list_y hl hF hT (by rw [jn 150 (by decide) (by decide)]; exact m6) (by rw [jn 150 (by decide) (by decide), m2]; omega)) ⟨?_, ?_⟩)
      · rw [jn 150 (by decide) (by decide), m4]
      · rw [jn 150 (by decide) (by decide)]
        generalize hd : li3 (nN a) (nN w) (nN f) (nN sp) (nN t) s.toInt64 (I 93) = d at *
        generalize mi3 (nN a) (nN w) (nN f) (nN sp) (nN t) s.toInt64 (I 150) = e at *
        have qn : ∀ q, q ≠ 92 → q ≠ 93 → q ≠ 95 → q ≠ 150 → mwI (dwI I d) e q = I q := fun q z1 z2 z3 z4 => by unfold mwI; rw [upr_n _ _ z4, up_n _ _ _ z3, jn q z1 z2]
        refine Inv_l (Nat.le_succ n) h (fun q z1 z2 => qn q (by omega) (by omega) (by unfold scr at z1; omega) (by omega)) (fun k _ => by rw [qn 33 (by decide) (by decide) (by decide) (by decide)]) (fun k z1 z2 => ?_) ⟨?_, ?_, ?_, ?_, ?_, ?_⟩ ⟨nN a, l8, ?_, ?_, fun i hi => ?_⟩
        · unfold mwI; rw [upr_n _ _ (by decide), up_s, vu_n _ _ z2, jn 95 (by decide) (by decide)]
        · unfold dwL; rw [up_n _ _ _ (by decide)]
        · unfold dwL; rw [up_n _ _ _ (by decide)]
        · unfold dwL; rw [up_n _ _ _ (by decide)]
        · unfold dwL; rw [up_n _ _ _ (by decide)]
        · unfold dwL; rw [up_n _ _ _ (by decide)]
        · unfold dwL; rw [up_n _ _ _ (by decide)]
        · unfold mwI dwI; rw [upr_n _ _ (by decide), up_n _ _ _ (by decide), upr_n _ _ (by decide), up_s, vu_s, m3]
        · unfold mwI; rw [upr_n _ _ (by decide), up_s, vu_s, m4]
        · unfold mwI dwI; rw [upr_n _ _ (by decide), up_n _ _ _ (by decide), upr_s, upr_s]; exact m5 i hi
  · exact Bth_p h (k_X11_list_r hc) (k_X12_list_r hc) rfl
end
