/-! steps: kept, needed -/
section
variable {sc : Sc} {I J : Is} {L K : Ls} {tg : Nat}
theorem dayp_cg {f g : Nat → Int32} {b v : Int32} : ∀ n, (∀ l, l < n → f l = g l) → dayp f b v n = dayp g b v n := by
  intro n
  induction n with
  | zero => intro _; rfl
  | succ n ih => intro h; rw [dayp, dayp, ih (fun l hl => h l (by omega)), h n (by omega)]
theorem dayp_b {f : Nat → Int32} {b v : Int32} (hv : 0 ≤ v.toInt ∧ v.toInt ≤ 1000000) : ∀ n, (∀ l, l < n → 0 ≤ (f l).toInt ∧ (f l).toInt ≤ 99) → 0 ≤ (dayp f b v n).toInt ∧ (dayp f b v n).toInt ≤ v.toInt := by
  intro n
  induction n with
  | zero => intro _; exact ⟨hv.1, Int.le_refl _⟩
  | succ n ih =>
    intro h
    obtain ⟨i1, i2⟩ := ih (fun l hl => h l (by omega))
    rw [dayp]
    split
    · exact ⟨i1, i2⟩
    · obtain ⟨f1, f2⟩ := h n (by omega)
      have e1 : (100 - f n).toInt = 100 - (f n).toInt := i_sub (a := 100) (by simp only [Int32.reduceToInt]; omega) (by simp only [Int32.reduceToInt]; omega)
      have m1 := mul_b (a := (dayp f b v n).toInt) (b := 100 - (f n).toInt) (A := 1000000) (B := 100) i1 (by omega) (by omega) (by omega)
      have e2 : (dayp f b v n * (100 - f n)).toInt = (dayp f b v n).toInt * (100 - (f n).toInt) := by rw [i_mul (by rw [e1]; omega) (by rw [e1]; omega), e1]
      rw [i_div (by rw [e2]; exact m1.1) (by decide), e2]
      have m2 := mul_b (a := (dayp f b v n).toInt) (b := 100 - (f n).toInt) (A := (dayp f b v n).toInt) (B := 100) i1 (Int.le_refl _) (by omega) (by omega)
      simp only [Int32.reduceToInt]
      omega
theorem dayp_z {f : Nat → Int32} {b : Int32} : ∀ n, dayp f b 0 n = 0 := by
  intro n
  induction n with
  | zero => rfl
  | succ n ih =>
    rw [dayp, ih]
    split
    · rfl
    · rw [Int32.zero_mul]; rfl
theorem kpt_b {f : Nat → Int32} {b : Int32} {NL : Nat} (h : ∀ l, l < NL → 0 ≤ (f l).toInt ∧ (f l).toInt ≤ 99) : ∀ d, 0 ≤ (kpt f b NL d).toInt ∧ (kpt f b NL d).toInt ≤ 1000000 := by
  intro d
  induction d with
  | zero => show 0 ≤ (1000000 : Int32).toInt ∧ (1000000 : Int32).toInt ≤ 1000000; decide
  | succ d ih =>
    rw [kpt]
    have := dayp_b (f := f) (b := b) (v := kpt f b NL d) ih NL h
    omega
theorem kb_k {f g : Nat → Int32} {b : Int32} {NL : Nat} (h : ∀ l, l < NL → 0 ≤ (f l).toInt ∧ (f l).toInt ≤ 99) (hg : ∀ l, l < NL → g l = f l) : ∀ n j, kbR g b NL n (kpt f b NL j) = kpt f b NL (j + n) := by
  have zz : ∀ n j, kpt f b NL j = 0 → kpt f b NL (j + n) = 0 := by
    intro n
    induction n with
    | zero => intro j h; exact h
    | succ n ih => intro j h; rw [← Nat.add_assoc, kpt, ih j h, dayp_z]
  intro n
  induction n with
  | zero => intro j; rfl
  | succ n ih =>
    intro j
    rw [kbR]
    by_cases z : kpt f b NL j ≤ 0
    · rw [if_pos z]
      have z0 : kpt f b NL j = 0 := by
        apply Int32.toInt_inj.mp
        rw [i_le] at z
        have := kpt_b (f := f) (b := b) h j
        simp only [Int32.reduceToInt] at z ⊢
        omega
      rw [zz (n + 1) j z0, z0]
    · rw [if_neg z, dayp_cg NL hg]
      have := ih (j + 1)
      rw [kpt, show j + 1 + n = j + (n + 1) by omega] at this
      exact this
theorem st_kept {n : Nat} {b d : Int32} (h : Inv n I L) : Bth sc mX11_kept mX12_kept 1 2 [.int b, .int d] n I L tg := by
  obtain ⟨H, G, K, ⟨_, _, h4⟩, ⟨_, _, a3⟩, ⟨_, _, b3⟩, _, _, _, _, _, l, _⟩ := cm_x h.2.2.1
  have iK : (nI K).toInt = K := nI_toInt (by omega)
  have nK : nN (I 3 16) = K := by rw [a3]; exact nI_clamp (by omega)
  have pw : 2 ^ K ≤ 2 ^ 4 := Nat.pow_le_pow_right (by decide) h4
  have ee : keC I b d ↔ kpC K b d := by
    unfold keC kpC
    rw [a3, g_one K (by omega), nI_toInt (by omega)]
  by_cases hc : keC I b d
  · obtain ⟨dn, hd⟩ : ∃ dn : Nat, d.toInt = dn := ⟨d.toInt.toNat, by have := hc.2; omega⟩
    have jn : ∀ q, q ≠ 74 → rkI I b q = I q := fun q hq => by unfold rkI; rw [upr_n _ _ hq]
    refine Run_r (k_X11_kept_y (dn := dn) hc hd (by rw [a3]; omega) (by rw [a3]; omega)) (Run_r (k_X12_kept_y (NL := K) (dn := dn) (by rw [jn 95 (by decide)]; exact b3) h4 (ee.mp hc) hd) ⟨?_, ?_⟩)
    · rw [nK, jn 110 (by decide)]
      have := kb_k (f := I 17) (g := I 110) (b := b) (NL := K) (fun k hk => (l k hk).2) (fun k hk => (l k hk).1) dn 0
      rw [Nat.zero_add] at this
      exact this
    · exact Inv_c (Nat.le_succ n) h (fun a ha => jn a (by unfold scr at ha; omega)) (fun k _ => by rw [jn 33 (by decide)]) (fun k _ => by rw [jn 95 (by decide)]) keL_r
  · exact Bth_p h (k_X11_kept_r hc) (k_X12_kept_r (NL := K) b3 h4 (fun z => hc (ee.mpr z))) rfl
/-- shifts of both -/
theorem nf_e {air pace m : Int32} (ha : 10 ≤ air.toInt ∧ air.toInt ≤ 999) (hp : 0 ≤ pace.toInt ∧ pace.toInt ≤ 99) (hm : 0 ≤ m.toInt ∧ m.toInt ≤ 200) : ∀ k : Nat, k ≤ 401 → (0 ≤ (nfS air pace m k).2.toInt ∧ (nfS air pace m k).2.toInt ≤ 9) ∧ (0 ≤ (nfS air pace m k).1.toInt ∧ (nfS air pace m k).1.toInt ≤ 2000 * k) ∧ (tnn air pace m k).toInt = 10 * (nfS air pace m k).1.toInt + (nfS air pace m k).2.toInt ∧ tnn air pace m k / 10 = (nfS air pace m k).1 := by
  have fin : ∀ k : Nat, k ≤ 401 → (0 ≤ (nfS air pace m k).2.toInt ∧ (nfS air pace m k).2.toInt ≤ 9) ∧ (0 ≤ (nfS air pace m k).1.toInt ∧ (nfS air pace m k).1.toInt ≤ 2000 * k) ∧ (tnn air pace m k).toInt = 10 * (nfS air pace m k).1.toInt + (nfS air pace m k).2.toInt → tnn air pace m k / 10 = (nfS air pace m k).1 := by
    intro k hk ⟨g1, g2, g3⟩
    apply Int32.toInt_inj.mp
    rw [i_div (by omega) (by decide), g3]
    simp only [Int32.reduceToInt]
    omega
  intro k
  induction k with
  | zero => intro _; exact ⟨⟨by show 0 ≤ (0 : Int32).toInt; decide, by show (0 : Int32).toInt ≤ 9; decide⟩, ⟨by show 0 ≤ (0 : Int32).toInt; decide, by show (0 : Int32).toInt ≤ 2000 * ((0 : Nat) : Int); decide⟩, by show (0 : Int32).toInt = 10 * (0 : Int32).toInt + (0 : Int32).toInt; decide, by show (0 : Int32) / 10 = 0; decide⟩
  | succ k ih =>
    intro hk
    obtain ⟨g1, g2, g3, g4⟩ := ih (by omega)
    have pm : pmp air (nfS air pace m k).1 = (nfS air pace m k).1 / air := by
      unfold pmp
      rw [if_neg (show ¬ air ≤ 0 from by rw [i_le]; simp only [Int32.reduceToInt]; omega)]
    have pd : ((nfS air pace m k).1 / air).toInt = (nfS air pace m k).1.toInt / air.toInt := i_div g2.1 (by omega)
    have pb : 0 ≤ (nfS air pace m k).1.toInt / air.toInt ∧ (nfS air pace m k).1.toInt / air.toInt ≤ (nfS air pace m k).1.toInt := ⟨Int.ediv_nonneg g2.1 (by omega), Int.ediv_le_self _ g2.1⟩
    have e : (iMax 0 (m - (nfS air pace m k).1 / air)).toInt = max 0 (m.toInt - (nfS air pace m k).1.toInt / air.toInt) := by
      rw [iMax_i, i_sub (by omega) (by omega), pd]; rfl
    have q := mul_b (a := max 0 (m.toInt - (nfS air pace m k).1.toInt / air.toInt)) (b := pace.toInt) (A := 200) (B := 99) (by omega) (by omega) hp.1 hp.2
    have X : (iMax 0 (m - (nfS air pace m k).1 / air) * pace).toInt = max 0 (m.toInt - (nfS air pace m k).1.toInt / air.toInt) * pace.toInt := by
      rw [i_mul (by rw [e]; omega) (by rw [e]; omega), e]
    have hA : (nfA air pace m (nfS air pace m k)).toInt = (nfS air pace m k).2.toInt + max 0 (m.toInt - (nfS air pace m k).1.toInt / air.toInt) * pace.toInt := by
      unfold nfA
      rw [i_add (by rw [X]; omega) (by rw [X]; omega), X]
    have h10 : (nfA air pace m (nfS air pace m k) / 10).toInt = (nfA air pace m (nfS air pace m k)).toInt / 10 := i_div (by omega) (by decide)
    have hr := rem10 (w := nfA air pace m (nfS air pace m k)) (by omega)
    have hT : (tnn air pace m (k + 1)).toInt = (tnn air pace m k).toInt + max 0 (m.toInt - (nfS air pace m k).1.toInt / air.toInt) * pace.toInt := by
      rw [tnn, g4]
      unfold tdg
      rw [pm, i_add (by rw [X]; omega) (by rw [X]; omega), X]
    have n1 : (nfS air pace m (k + 1)).1.toInt = (nfS air pace m k).1.toInt + (nfA air pace m (nfS air pace m k)).toInt / 10 := by
      rw [nfS]
      show ((nfS air pace m k).1 + nfA air pace m (nfS air pace m k) / 10).toInt = _
      rw [i_add (by omega) (by omega), h10]
    have n2 : (nfS air pace m (k + 1)).2.toInt = (nfA air pace m (nfS air pace m k)).toInt % 10 := by
      rw [nfS]
      exact hr
    have all : (0 ≤ (nfS air pace m (k + 1)).2.toInt ∧ (nfS air pace m (k + 1)).2.toInt ≤ 9) ∧ (0 ≤ (nfS air pace m (k + 1)).1.toInt ∧ (nfS air pace m (k + 1)).1.toInt ≤ 2000 * ((k + 1 : Nat) : Int)) ∧ (tnn air pace m (k + 1)).toInt = 10 * (nfS air pace m (k + 1)).1.toInt + (nfS air pace m (k + 1)).2.toInt := by
      rw [n1, n2, hT]
      omega
    exact ⟨all.1, all.2.1, all.2.2, fin (k + 1) hk all⟩
theorem nf_s {air pace g m : Int32} (ha : 10 ≤ air.toInt ∧ air.toInt ≤ 999) (hp : 0 ≤ pace.toInt ∧ pace.toInt ≤ 99) (hm : 0 ≤ m.toInt ∧ m.toInt ≤ 200) (hg : 1 ≤ g.toInt) : nfM air pace g m = shf air pace g m := by
  unfold nfM shf
  rw [fsk, if_neg (by
    rw [decide_eq_true_iff, i_le]
    show ¬ g.toInt ≤ (0 : Int32).toInt
    simp only [Int32.reduceToInt]
    omega)]
  refine fsk_cg 400 1 (fun j h1 h2 => ?_)
  rw [(nf_e ha hp hm j (by omega)).2.2.2]
theorem st_needed {n : Nat} {f m : Int32} (h : Inv n I L) : Bth sc mX11_needed mX12_needed 3 2 [.int f, .int m] n I L tg := by
  by_cases hc : (1 ≤ f.toInt ∧ f.toInt ≤ 999) ∧ 0 ≤ m.toInt ∧ m.toInt ≤ 200
  · obtain ⟨p1, p2, p3, p4, p5, p6⟩ := air_p h.2.2.1
    refine Bth_p h (k_X11_needed_y hc) (k_X12_needed_y hc (air_nz h.2.2.1)) ?_
    rw [p1, p4]
    exact nf_s ⟨p2, p3⟩ ⟨p5, p6⟩ hc.2 hc.1.1
  · exact Bth_p h (k_X11_needed_r hc) (k_X12_needed_r hc) rfl
/-- no men dig nothing -/
theorem tnn_0 {air pace : Int32} (ha : 10 ≤ air.toInt ∧ air.toInt ≤ 999) (hp : 0 ≤ pace.toInt ∧ pace.toInt ≤ 99) : ∀ k, tnn air pace 0 k = 0 := by
  intro k
  induction k with
  | zero => rfl
  | succ k ih =>
    rw [tnn, ih]
    unfold tdg pmp
    rw [if_neg (show ¬ air ≤ 0 from by rw [i_le]; simp only [Int32.reduceToInt]; omega), show (0 : Int32) / 10 = 0 from by decide]
    have z : (0 : Int32) / air = 0 := by
      apply Int32.toInt_inj.mp
      rw [i_div (by decide) (by omega)]
      simp
    rw [z, show iMax 0 ((0 : Int32) - 0) = 0 from by decide, Int32.zero_mul, Int32.add_zero]
theorem shf_0 {air pace g : Int32} (ha : 10 ≤ air.toInt ∧ air.toInt ≤ 999) (hp : 0 ≤ pace.toInt ∧ pace.toInt ≤ 99) (hg : 1 ≤ g.toInt) : shf air pace g 0 = -1 := by
  unfold shf
  rcases fsk_rng (fun k => decide (g ≤ tnn air pace 0 k / 10)) 400 1 with ⟨z, _⟩ | ⟨j, _, _, _, z, _⟩
  · exact z
  · exfalso
    have z : decide (g ≤ tnn air pace 0 j / 10) = true := z
    rw [tnn_0 ha hp, decide_eq_true_iff, i_le, show (0 : Int32) / 10 = 0 from by decide] at z
    simp only [Int32.reduceToInt] at z
    omega
end
