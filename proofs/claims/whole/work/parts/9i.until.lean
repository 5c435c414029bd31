/-! steps: most, until, keep, take -/
section
variable {sc : Sc} {I J : Is} {L K : Ls} {tg : Nat}
theorem mcp_i {n : Nat} (h : Inv n I L) (hn : n ≤ 600) : ∃ H G, (I 3 14 = nI H ∧ I 95 10 = nI H ∧ H ≤ 5) ∧ (I 3 15 = nI G ∧ I 95 11 = nI G ∧ G ≤ 4) ∧ ∀ J : Is, (∀ q, 95 ≤ q → J q = I q) → mcp I J H G n := by
  obtain ⟨H, G, K, cx⟩ := cm_x h.2.2.1
  obtain ⟨⟨h5, h4, _⟩, ⟨a1, a2, _⟩, ⟨b1, b2, _⟩, _, s, _, dh, e, _⟩ := id cx
  obtain ⟨⟨_, _, sd, hd⟩, d, _⟩ := id h.2.2.2.1
  refine ⟨H, G, ⟨a1, b1, h5⟩, ⟨a2, b2, h4⟩, fun J hJ => ⟨⟨h5, h4, hn⟩, ⟨a1, a2⟩, fun k hk => ?_, ?_, fun k g hk hg => ?_, fun g hg => ?_⟩⟩
  · obtain ⟨_, _, x3, _, _, _, _, _, x9, x10, _⟩ := dh k hk
    have e1 : 0 ≤ (I 42 k).toInt ∧ (I 42 k).toInt ≤ 200000 * n := sd k (by omega)
    rw [hJ 125 (by omega), hJ 104 (by omega)]
    exact ⟨(d.2.2.2.1 k (by omega)).symm, x3, e1.1, e1.2, x9, x10⟩
  · obtain ⟨s1, s2, s3⟩ := s 3 (by decide)
    rw [hJ 97 (by omega)]
    have t1 : 0 ≤ (ol3.getD (18 + 3 * 3) 0).toInt ∧ (ol4.getD (18 + 3 * 3) 0).toInt ≤ 40 := by decide
    have s2 : (ol3.getD (18 + 3 * 3) 0).toInt ≤ (I 4 6).toInt := s2
    have s3 : (I 4 6).toInt ≤ (ol4.getD (18 + 3 * 3) 0).toInt := s3
    exact ⟨s1, by omega, by omega⟩
  · have := rc_e cx hk hg
    unfold qR mR
    rw [hJ 102 (by omega), hJ 107 (by omega), hJ 103 (by omega), hJ 97 (by omega)]
    exact decide_eq_decide.mpr this
  · obtain ⟨x1, x2, x3, _, _, x6, x7, x8, x9⟩ := e g hg
    obtain ⟨y1, y2⟩ : 0 ≤ (I 43 g).toInt ∧ (g < nN (I 3 15) → (I 43 g).toInt ≤ (I 15 g).toInt) := hd g (by omega)
    have y3 := y2 (by rw [a2]; have : nN (nI G) = G := nI_clamp (by omega); omega)
    rw [hJ 108 (by omega), hJ 109 (by omega), hJ 126 (by omega)]
    exact ⟨x2, x3, (d.2.2.2.2.1 g (by omega)).symm, x6, x7, y1, y3, x9⟩
theorem mJ_n {d : Int32} {q : Nat} (h : q ≠ 65 ∧ q ≠ 66 ∧ q ≠ 67) : mJ I d q = I q := by
  unfold mJ W3
  rw [upr_n _ _ h.2.2, upr_n _ _ h.2.1, upr_n _ _ h.1]
theorem st_most {n : Nat} {d : Int32} (h : Inv n I L) (hn : n ≤ 600) : Bth sc mX11_most mX12_most 3 3 [.int d] n I L tg := by
  by_cases hc : 1 ≤ d.toInt ∧ d.toInt ≤ 99
  · obtain ⟨H, G, ⟨a1, b1, h5⟩, ⟨a2, b2, h4⟩, c⟩ := mcp_i h hn
    have iH : (nI H).toInt = H := nI_toInt (by omega)
    have iG : (nI G).toInt = G := nI_toInt (by omega)
    refine Run_r (k_X11_most_y hc (by rw [a1]; omega) (by rw [a1]; omega) (by rw [a2]; omega) (by rw [a2]; omega)) (Run_r (k_X12_most_y (NH := H) (NG := G) hc (by rw [mJ_n (by decide)]; exact b1) h5 (by rw [mJ_n (by decide), b2]; omega) h4) ⟨mo_eq (c _ (fun q hq => mJ_n (by omega))) (by omega), ?_⟩)
    exact Inv_c (Nat.le_succ n) h (fun a ha => mJ_n (by unfold scr at ha; omega)) (fun k _ => by rw [mJ_n (by decide)]) (fun k _ => by rw [mJ_n (by decide)]) keL_r
  · exact Bth_p h (k_X11_most_r hc) (k_X12_most_r hc) rfl
theorem fsk_cg {p q : Nat → Bool} : ∀ n k, (∀ j, k ≤ j → j < k + n → p j = q j) → fsk p n k = fsk q n k := by
  intro n
  induction n with
  | zero => intro k _; rfl
  | succ n ih => intro k h; rw [fsk, fsk, h k (Nat.le_refl _) (by omega), ih (k + 1) (fun j h1 h2 => h j (by omega) (by omega))]
theorem q0_z {H G n s : Nat} (c : mcp I J H G n) : qs2 J 0 s H G = 0 := by
  obtain ⟨⟨h5, h4, h6⟩, ⟨a1, a2⟩, ch, ⟨c97, w0, w4⟩, cr, cg⟩ := c
  have z1 : sm (fun h => if s.testBit h then 0 else qF J 0 h) (0 + H) = sm (fun h => if s.testBit h then 0 else qF J 0 h) 0 := sm_zero H (fun k _ hk => by
    show (if s.testBit k then 0 else qF J 0 k) = 0
    split
    · rfl
    · obtain ⟨x1, _, x3, _⟩ := ch k (by omega)
      apply Int32.toInt_inj.mp
      unfold qF
      rw [Int32.mul_zero, iMin_i, x1]
      simp only [Int32.reduceToInt]
      omega)
  have z2 : sm (fun g => if qis J s g H then qT J 0 g else 0) (0 + G) = sm (fun g => if qis J s g H then qT J 0 g else 0) 0 := sm_zero G (fun k _ hk => by
    show (if qis J s k H then qT J 0 k else 0) = 0
    split
    · obtain ⟨x1, x2, x3, x4, x5, x6, x7, x8⟩ := cg k (by omega)
      apply Int32.toInt_inj.mp
      unfold qT
      rw [Int32.mul_zero, iMin_i, x2, x3, i_sub (by omega) (by omega)]
      simp only [Int32.reduceToInt]
      omega
    · rfl)
  rw [Nat.zero_add] at z1 z2
  rw [qs2_s]
  unfold qs1
  rw [z1, z2]
  rfl
theorem un_eq {H G n : Nat} (c : mcp I J H G n) : unM J H G = uS I := by
  have h5 := c.1.1
  have nH : nN (I 3 14) = H := by rw [c.2.1.1]; exact nI_clamp (by omega)
  have es : sm (J 125) H = uAll I := by
    unfold uAll
    rw [nH]
    exact sm_ext H (fun k hk => (c.2.2.1 k hk).1)
  unfold unM uS
  rw [es, fsk]
  by_cases z : uAll I = 0
  · rw [if_pos (decide_eq_true (Or.inl z)), if_pos z]; rfl
  · have h0 : 0 < 2 ^ H := Nat.two_pow_pos H
    obtain ⟨m, hm⟩ : ∃ m, 2 ^ H = m + 1 := ⟨2 ^ H - 1, by omega⟩
    obtain ⟨_, s0, _, q3⟩ := qbe_m (J := J) (d := 0) (H := H) (G := G) (fun s => mo_nn c ⟨by decide, by decide⟩) m
    have q0 : ¬ qbe J (nI 0) H G (2 ^ H) = uAll I := by
      rw [hm, show nI 0 = 0 from rfl, q3, q0_z c]
      exact fun y => z y.symm
    rw [if_neg (by rw [decide_eq_true_iff]; exact fun y => y.elim z q0), if_neg z]
    refine fsk_cg 99 1 (fun j h1 h2 => decide_eq_decide.mpr ?_)
    rw [mo_eq c (by rw [nI_toInt (by omega)]; omega)]
    exact ⟨fun y => y.elim (fun y => absurd y z) id, Or.inr⟩
theorem st_until {n : Nat} (h : Inv n I L) (hn : n ≤ 600) : Bth sc mX11_until mX12_until 4 3 [] n I L tg := by
  obtain ⟨H, G, ⟨a1, b1, h5⟩, ⟨a2, b2, h4⟩, c⟩ := mcp_i h hn
  have iH : (nI H).toInt = H := nI_toInt (by omega)
  have iG : (nI G).toInt = G := nI_toInt (by omega)
  refine Run_g (k_X11_until (by rw [a1]; omega) (by rw [a1]; omega) (by rw [a2]; omega) (by rw [a2]; omega)) (fun v J K tq hu => ?_)
  obtain ⟨rfl, hs, rfl, rfl⟩ := hu
  have jn : ∀ q, q ≠ 65 ∧ q ≠ 66 ∧ q ≠ 67 → J q = I q := fun q hq => hs q (by simp; omega)
  refine Run_r (k_X12_until (NH := H) (NG := G) (by rw [jn 95 (by decide)]; exact b1) h5 (by rw [jn 95 (by decide), b2]; omega) h4) ⟨un_eq (c J (fun q hq => jn q (by omega))), ?_⟩
  exact Inv_c (Nat.le_succ n) h (fun a ha => jn a (by unfold scr at ha; omega)) (fun k _ => by rw [jn 33 (by decide)]) (fun k _ => by rw [jn 95 (by decide)]) keL_r
/-- a slot that stays -/
theorem slE_k {n m b s : Nat} (hnm : n ≤ m) (h : slE n I L b s) (r : ∀ a, 3 ≤ a ∧ a ≤ 17 → J a = I a) (e : ∀ k, J b k = I b k) (q : ∀ a, b + 1 ≤ a ∧ a ≤ b + 7 → J a = I a) (e7 : ∀ o, o < 26 → J 127 (26 * s + o) = I 127 (26 * s + o)) (e9 : J 129 s = I 129 s) (l : K (b + 8) 0 = L (b + 8) 0) (l9 : K 128 s = L 128 s) : slE m J K b s := by
  obtain ⟨h1, h2⟩ := h
  unfold slE
  rw [e 8, e 9, e 10, e9, q (b + 1) (by omega), q (b + 2) (by omega), q (b + 3) (by omega), q (b + 4) (by omega), q (b + 5) (by omega), q (b + 6) (by omega), q (b + 7) (by omega), l, l9, e7 25 (by omega), e7 24 (by omega)]
  refine ⟨h1, fun z => ?_⟩
  obtain ⟨g1, g2, g3, g4, g5, g6, g7⟩ := h2 z
  refine ⟨dgB_c hnm g1 r (fun k _ => e k) (q _ (by omega)) (q _ (by omega)) (q _ (by omega)) (q _ (by omega)) (q _ (by omega)), g2, g3, fun t ht => ?_, fun k hk => ?_, fun k hk => ?_, g7⟩
  · rw [e7 _ (by omega), e7 _ (by omega), e7 _ (by omega), e7 _ (by omega), e7 _ (by omega)]; exact g4 t ht
  · rw [e7 _ (by omega)]; exact g5 k hk
  · rw [e7 _ (by omega)]; exact g6 k hk
/-- a digging that was copied -/
theorem dgB_m {n m b c : Nat} (hnm : n ≤ m) (h : dgB n I c) (r : ∀ a, 3 ≤ a ∧ a ≤ 17 → J a = I a) (e8 : J b 8 = I c 8) (e9 : J b 9 = I c 9) (e : ∀ q, 1 ≤ q ∧ q ≤ 5 → ∀ t, t < 3 → J (b + q) t = I (c + q) t) (e6 : ∀ t, t < 5 → J (b + 6) t = I (c + 6) t) (e7 : ∀ t, t < 4 → J (b + 7) t = I (c + 7) t) : dgB m J b := by
  obtain ⟨⟨T, h1, h2, h3⟩, h4, h5, h6⟩ := h
  refine ⟨⟨T, h1, by rw [e8]; exact h2, fun t ht => ?_⟩, ?_, fun h hh => ?_, fun g hg => ?_⟩
  · rw [e 1 (by omega) t (by omega), e 2 (by omega) t (by omega), e 3 (by omega) t (by omega), r 3 (by omega)]; have := h3 t ht; omega
  · rw [e9, bAll_c r]; exact h4
  · rw [e6 h hh]; have := h5 h hh; omega
  · rw [e7 g hg, r 3 (by omega), r 15 (by omega)]; exact h6 g hg
end
