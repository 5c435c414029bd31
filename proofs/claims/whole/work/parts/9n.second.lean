/-! steps: second, across -/
section
variable {sc : Sc} {I J : Is} {L K : Ls} {tg : Nat}
theorem amx_cg {f g : Nat → Int32} : ∀ n, (∀ p, p < n → f p = g p) → amx f n = amx g n := by
  intro n
  induction n with
  | zero => intro _; rfl
  | succ n ih => intro h; rw [amx, amx, ih (fun p hp => h p (by omega)), h n (by omega)]
theorem m6_64 {a : Int32} (h : 0 ≤ a.toInt ∧ a.toInt ≤ 1000000) : (1000000 - a).toInt64 = 1000000 - a.toInt64 := by
  apply Int64.toInt_inj.mp
  rw [Int32.toInt_toInt64, i_sub (a := 1000000) (by simp only [Int32.reduceToInt]; omega) (by simp only [Int32.reduceToInt]; omega), Int64.toInt_sub, Int32.toInt_toInt64]
  simp only [Int32.reduceToInt, Int64.reduceToInt]
  have e : (1000000 - a.toInt) % ((2 ^ 64 : Nat) : Int) = 1000000 - a.toInt := Int.emod_eq_of_lt (by omega) (by omega)
  unfold Int.bmod
  rw [e]
  show 1000000 - a.toInt = if 1000000 - a.toInt < (((2 ^ 64 : Nat) : Int) + 1) / 2 then 1000000 - a.toInt else 1000000 - a.toInt - ((2 ^ 64 : Nat) : Int)
  rw [if_pos (by omega)]
theorem ko_k {n K : Nat} {f x b : Int32} (h : Inv n I L) (a3 : I 3 16 = nI K) (h4 : K ≤ 4) (l : ∀ l, l < K → I 110 l = I 17 l ∧ 0 ≤ (I 17 l).toInt ∧ (I 17 l).toInt ≤ 99) (hf : 1 ≤ f.toInt) (hx : 0 ≤ x.toInt ∧ x.toInt ≤ 200) : koM I K f x b = kud (secK I b) (I 4 9) (I 4 10) f x ∧ 0 ≤ (kud (secK I b) (I 4 9) (I 4 10) f x).toInt ∧ (kud (secK I b) (I 4 9) (I 4 10) f x).toInt ≤ 1000000 := by
  obtain ⟨p1, p2, p3, p4, p5, p6⟩ := air_p h.2.2.1
  have nK : nN (I 3 16) = K := by rw [a3]; exact nI_clamp (by omega)
  have e := nf_s (air := I 4 9) (pace := I 4 10) (g := f) (m := x) ⟨p2, p3⟩ ⟨p5, p6⟩ hx hf
  unfold koM kud
  rw [p1, p4, e]
  by_cases z : x = 0
  · rw [if_pos z, z, shf_0 ⟨p2, p3⟩ ⟨p5, p6⟩ hf, if_pos rfl]
    decide
  · rw [if_neg z]
    by_cases y : shf (I 4 9) (I 4 10) f x = -1
    · rw [if_pos y, if_pos y]
      decide
    · rw [if_neg y, if_neg y]
      obtain ⟨j, j1, j2, j3⟩ : ∃ j, 1 ≤ j ∧ j < 401 ∧ shf (I 4 9) (I 4 10) f x = nI j := by
        unfold shf at y ⊢
        rcases fsk_rng (fun k => decide (f ≤ tnn (I 4 9) (I 4 10) x k / 10)) 400 1 with ⟨w, _⟩ | ⟨j, w1, w2, w3, _⟩
        · exact absurd w y
        · exact ⟨j, w1, by omega, w3⟩
      have ej : (nI j).toNatClampNeg = j := nI_clamp (by omega)
      have kb := kb_k (f := I 17) (g := I 110) (b := b) (NL := K) (fun k hk => (l k hk).2) (fun k hk => (l k hk).1) j 0
      rw [Nat.zero_add] at kb
      have es : secK I b j = kpt (I 17) b K j := by
        unfold secK prf
        rw [if_pos j2, nK]
      rw [j3]
      unfold nN
      rw [ej, es]
      exact ⟨kb, kpt_b (fun k hk => (l k hk).2) j⟩
theorem st_second {n : Nat} {m f b w : Int32} (h : Inv n I L) : Bth sc mX11_second mX12_second 5 3 [.int m, .int f, .int b, .int w] n I L tg := by
  obtain ⟨H, G, K, ⟨_, _, h4⟩, ⟨_, _, a3⟩, ⟨_, _, b3⟩, _, _, _, _, _, l, _⟩ := cm_x h.2.2.1
  have iK : (nI K).toInt = K := nI_toInt (by omega)
  have pw : 2 ^ K ≤ 2 ^ 4 := Nat.pow_le_pow_right (by decide) h4
  have ee : seC I m f b w ↔ smC K m f b w := by
    unfold seC smC
    rw [a3, g_one K (by omega), nI_toInt (by omega)]
  by_cases hc : seC I m f b w
  · have hm := hc.1
    have e2 : (m / 2).toInt = m.toInt / 2 := i_div (by omega) (by decide)
    obtain ⟨M, hM⟩ : ∃ M : Nat, (m / 2).toInt = M := ⟨(m / 2).toInt.toNat, by omega⟩
    have jn : ∀ q, q ≠ 73 → q ≠ 74 → dvI (rkI I b) (amx (sec (secK I b) (I 4 9) (I 4 10) m f) (M + 1)) q = I q := fun q z1 z2 => by unfold dvI rkI; rw [up_n _ _ _ z1, up_n _ _ _ z1, upr_n _ _ z2]
    refine Run_r (k_X11_second_y (M := M) hc hM (by omega) (by rw [a3]; omega) (by rw [a3]; omega)) (Run_r (k_X12_second_y (NL := K) (M := M) (by rw [jn 95 (by decide) (by decide)]; exact b3) h4 (by rw [jn 97 (by decide) (by decide)]; exact air_nz h.2.2.1) (ee.mp hc) hM (by omega)) ⟨?_, ?_⟩)
    · have ea : amx (seM (dvI (rkI I b) (amx (sec (secK I b) (I 4 9) (I 4 10) m f) (M + 1))) K m f b) (M + 1) = amx (sec (secK I b) (I 4 9) (I 4 10) m f) (M + 1) := by
        refine amx_cg (M + 1) (fun p hp => ?_)
        have pi : (nI p).toInt = p := nI_toInt (by omega)
        have mi : (m - nI p).toInt = m.toInt - p := by rw [i_sub (by omega) (by omega), pi]
        obtain ⟨k1, k2⟩ := ko_k (b := b) h a3 h4 l hc.2.1.1 (x := m - nI p) (by omega)
        obtain ⟨k3, k4⟩ := ko_k (b := b) h a3 h4 l hc.2.1.1 (x := nI p) (by omega)
        have ko : ∀ x, koM (dvI (rkI I b) (amx (sec (secK I b) (I 4 9) (I 4 10) m f) (M + 1))) K f x b = koM I K f x b := fun x => by
          unfold koM
          rw [jn 97 (by decide) (by decide), jn 110 (by decide) (by decide)]
        unfold seM
        rw [ko, ko, k1, k3]
        unfold sec
        rw [m6_64 k2, m6_64 k4, Int64.toInt32_sub]
        rfl
      rw [ea]
    · exact Inv_c (Nat.le_succ n) h (fun a ha => jn a (by unfold scr at ha; omega) (by unfold scr at ha; omega)) (fun k _ => by rw [jn 33 (by decide) (by decide)]) (fun k _ => by rw [jn 95 (by decide) (by decide)]) keL_r
  · exact Bth_p h (k_X11_second_r hc) (k_X12_second_r (NL := K) b3 h4 (fun z => hc (ee.mpr z))) rfl
/-- the best place and what is met there -/
theorem amx_x {f : Nat → Int32} (h0 : 0 ≤ (f 0).toInt) : ∀ n, ∃ x, x ≤ n ∧ amx f (n + 1) = (nI x, f x) ∧ (f 0).toInt ≤ (f x).toInt := by
  intro n
  induction n with
  | zero =>
    refine ⟨0, by omega, ?_, Int.le_refl _⟩
    rw [amx]
    exact if_pos (by rw [i_lt]; show (-1 : Int32).toInt < (f 0).toInt; simp only [Int32.reduceToInt]; omega)
  | succ n ih =>
    obtain ⟨x, x1, x2, x3⟩ := ih
    rw [amx]
    by_cases z : (amx f (n + 1)).2 < f (n + 1)
    · rw [if_pos z]
      refine ⟨n + 1, by omega, rfl, ?_⟩
      rw [x2, i_lt] at z
      have z : (f x).toInt < (f (n + 1)).toInt := z
      omega
    · rw [if_neg z]
      exact ⟨x, by omega, x2, x3⟩
theorem mtf_0 {hx hm : Nat → Int32} {H : Nat} {f s : Int32} (h5 : H ≤ 5) (hh : ∀ h, h < H → 0 ≤ (hx h).toInt ∧ (hx h).toInt ≤ 400 ∧ 1 ≤ (hm h).toInt ∧ (hm h).toInt ≤ 40) (hf : 0 ≤ f.toInt ∧ f.toInt ≤ 999) (hs : 0 ≤ s.toInt ∧ s.toInt ≤ 200) : 0 ≤ (mtf hx hm H (nI 0) f s).toInt := by
  unfold mtf
  refine (sm_bb (f := fun h => hm h * iMax 0 (iMin (nI 0 + f) (hx h + s) - iMax (nI 0) (hx h - s) + 1)) H h5 (fun h hhh => ?_)).1
  show 0 ≤ (hm h * iMax 0 (iMin (nI 0 + f) (hx h + s) - iMax (nI 0) (hx h - s) + 1)).toInt ∧ (hm h * iMax 0 (iMin (nI 0 + f) (hx h + s) - iMax (nI 0) (hx h - s) + 1)).toInt ≤ 120000000
  obtain ⟨h1, h2, h3, h4⟩ := hh h hhh
  have e0 : (nI 0 + f).toInt = f.toInt := by rw [show nI 0 = 0 from rfl, Int32.zero_add]
  have e1 : (hx h + s).toInt = (hx h).toInt + s.toInt := i_add (by omega) (by omega)
  have e2 : (hx h - s).toInt = (hx h).toInt - s.toInt := i_sub (by omega) (by omega)
  have e3 : (iMin (nI 0 + f) (hx h + s)).toInt = min f.toInt ((hx h).toInt + s.toInt) := by rw [iMin_i, e0, e1]
  have e4 : (iMax (nI 0) (hx h - s)).toInt = max 0 ((hx h).toInt - s.toInt) := by rw [iMax_i, e2]; rfl
  have e5 : (iMin (nI 0 + f) (hx h + s) - iMax (nI 0) (hx h - s)).toInt = min f.toInt ((hx h).toInt + s.toInt) - max 0 ((hx h).toInt - s.toInt) := by rw [i_sub (by omega) (by omega), e3, e4]
  have e6 : (iMin (nI 0 + f) (hx h + s) - iMax (nI 0) (hx h - s) + 1).toInt = min f.toInt ((hx h).toInt + s.toInt) - max 0 ((hx h).toInt - s.toInt) + 1 := by
    rw [i_add (by rw [e5]; simp only [Int32.reduceToInt]; omega) (by rw [e5]; simp only [Int32.reduceToInt]; omega), e5]
    rfl
  have e7 : (iMax 0 (iMin (nI 0 + f) (hx h + s) - iMax (nI 0) (hx h - s) + 1)).toInt = max 0 (min f.toInt ((hx h).toInt + s.toInt) - max 0 ((hx h).toInt - s.toInt) + 1) := by rw [iMax_i, e6]; rfl
  have q := mul_b (a := (hm h).toInt) (b := max 0 (min f.toInt ((hx h).toInt + s.toInt) - max 0 ((hx h).toInt - s.toInt) + 1)) (A := 40) (B := 1000) (by omega) h4 (by omega) (by omega)
  rw [i_mul (by rw [e7]; omega) (by rw [e7]; omega), e7]
  omega
theorem st_across {n : Nat} {f s w : Int32} (h : Inv n I L) : Bth sc mX11_across mX12_across 3 1 [.int f, .int s, .int w] n I L tg := by
  obtain ⟨H, G, K, ⟨h5, _⟩, ⟨a1, _⟩, ⟨b1, _⟩, _, st, _, d, _⟩ := cm_x h.2.2.1
  have iH : (nI H).toInt = H := nI_toInt (by omega)
  have nH : nN (I 3 14) = H := by rw [a1]; exact nI_clamp (by omega)
  obtain ⟨s0, s1, s2⟩ := st 0 (by decide)
  have s0 : I 97 0 = I 4 3 := s0
  have w3 : (I 4 3).toInt ≤ 400 := by
    have t : (ol4.getD (18 + 3 * 0) 0).toInt = 400 := by decide
    have s2 : (I 4 3).toInt ≤ (ol4.getD (18 + 3 * 0) 0).toInt := s2
    omega
  have ee : amC I f s w ↔ acC I f s w := by unfold amC acC; rw [s0]
  by_cases hc : acC I f s w
  · have hf := hc.1
    have e3 : (I 4 3 - f).toInt = (I 4 3).toInt - f.toInt := i_sub (by omega) (by omega)
    obtain ⟨M, hM⟩ : ∃ M : Nat, (I 4 3 - f).toInt = M := ⟨(I 4 3 - f).toInt.toNat, by omega⟩
    have ef : ∀ p, acF I H f s p = mtf (I 7) (I 9) H (nI p) f s := fun p => by
      unfold acF mtf
      refine sm_ext H (fun k hk => ?_)
      rw [(d k hk).1, (d k hk).2.2.1]
    have em : amx (acF I H f s) (M + 1) = amx (fun x => mtf (I 7) (I 9) (nN (I 3 14)) (nI x) f s) (M + 1) := by
      rw [nH]
      exact amx_cg (M + 1) (fun p _ => ef p)
    refine Bth_p h (k_X11_across_y (M := M) hc (by rw [a1]; omega) (by rw [a1]; omega) hM (by omega)) (k_X12_across_y (NH := H) (M := M) (ee.mpr hc) (by rw [b1]; omega) h5 (by rw [s0]; omega) (by rw [s0]; omega)) ?_
    rw [em]
    unfold acS
    obtain ⟨x, x1, x2, _⟩ := amx_x (f := fun x => mtf (I 7) (I 9) (nN (I 3 14)) (nI x) f s) (by
      show 0 ≤ (mtf (I 7) (I 9) (nN (I 3 14)) (nI 0) f s).toInt
      rw [nH]
      exact mtf_0 h5 (fun k hk => by have := d k hk; omega) (by omega) hc.2.1) M
    rw [x2]
  · exact Bth_p h (k_X11_across_r hc) (k_X12_across_r (fun z => hc (ee.mp z))) rfl
end
