/-! steps: order -/
section
variable {sc : Sc} {I J : Is} {L K : Ls} {tg : Nat}
theorem itr_cg {f g : Int32 → Int32} (h : ∀ b, f b = g b) : ∀ n b, itr f n b = itr g n b := by
  intro n
  induction n with
  | zero => intro b; rfl
  | succ n ih => intro b; rw [itr, itr, h b, ih]
theorem ous_cg {f g f' g' : Nat → Int32} {R : Nat} {nd b : Int32} (hR : R ≤ 5) (h : ∀ r, r < R → f r = f' r ∧ g r = g' r) : ous f g R nd b = ous f' g' R nd b := by
  unfold ous
  rw [rmt_cg h]
  by_cases z : rmt f' g' R b (b + nd) = -1
  · rw [if_pos z, if_pos z]
  · rw [if_neg z, if_neg z]
    unfold rmt at z ⊢
    rcases fsk_rng (fun r => decide (b < g' r ∧ f' r < b + nd)) R 0 with ⟨w, _⟩ | ⟨j, w1, w2, w3, _⟩
    · exact absurd w z
    · rw [w3, nI_clamp (by omega)]
      exact (h j (by omega)).2
theorem ou_e (h : iN I) : ∃ P R, P ≤ 8 ∧ R ≤ 5 ∧ I 84 7 = nI P ∧ I 95 83 = nI P ∧ I 84 8 = nI R ∧ I 95 84 = nI R ∧ ntOk I P ∧ ∀ p m, p < P → outI I p m = ouM I p m := by
  obtain ⟨P, R, q, p8, r5, q8, e1, e2, e3, e4, e5, e6, hp, hr, ho, hg⟩ := h
  refine ⟨P, R, p8, r5, e1, e2, e3, e4, ho, fun p m hpp => ?_⟩
  have n8 : nN (I 84 8) = R := by rw [e3]; exact nI_clamp (by omega)
  have n9 : nN (I 95 84) = R := by rw [e4]; exact nI_clamp (by omega)
  unfold outI ouM ouR
  rw [n8, n9, hp p hpp, itr_cg (fun b => ous_cg r5 hr)]
theorem cwt_1 {A B : Nat → Bool} {p : Nat} (hA : A p = false) (hB : ∀ j, B j = true ↔ A j = true ∨ j = p) : ∀ n, p < n → cwt B n = cwt A n + 1 := by
  have low : ∀ n, n ≤ p → cwt B n = cwt A n := fun n hn => cwt_cg n (fun q hq => by
    have := hB q
    cases ha : A q <;> cases hb : B q
    · rfl
    · rw [ha, hb] at this; have := this.mp rfl; simp at this; omega
    · rw [ha, hb] at this; exact absurd (this.mpr (Or.inl rfl)) (by decide)
    · rfl)
  intro n
  induction n with
  | zero => intro h; omega
  | succ n ih =>
    intro h
    show cwt B n + (B n).toNat = cwt A n + (A n).toNat + 1
    by_cases z : n = p
    · subst z
      rw [low n (Nat.le_refl _), hA, (hB n).mpr (Or.inr rfl)]
      rfl
    · rw [ih (by omega)]
      have : B n = A n := by
        have t := hB n
        cases ha : A n <;> cases hb : B n
        · rfl
        · rw [ha, hb] at t; have := t.mp rfl; simp at this; omega
        · rw [ha, hb] at t; exact absurd (t.mpr (Or.inl rfl)) (by decide)
        · rfl
      rw [this]
      omega
/-- both go through the row alike -/
theorem lo_e {tp : Nat → Int32} {P : Nat} {f g : Nat → Int32 → Int32} (h8 : P ≤ 8) (hf : ∀ p m, p < P → f p m = g p m) : ∀ n i s m, s < 33554432 → (loS tp (nI P) f n i (nI s) m = loS tp (nI P) g n i (nI s) m) ∧ (P < n + cwt (fun j => s.testBit j) P → loS tp (nI P) f n i (nI s) m = -1) := by
  intro n
  induction n with
  | zero =>
    intro i s m hs
    refine ⟨rfl, fun z => ?_⟩
    have := cwt_le (fun j => s.testBit j) P
    omega
  | succ n ih =>
    intro i s m hs
    rw [loS, loS]
    by_cases c : (tp i - 48) < 0 ∨ nI P ≤ (tp i - 48) ∨ ¬ ((nI s >>> ((tp i - 48) &&& 31)) &&& 1 = 0)
    · rw [if_pos c, if_pos c]
      exact ⟨rfl, fun _ => rfl⟩
    · rw [if_neg c, if_neg c]
      have c1 : 0 ≤ (tp i - 48).toInt := by
        have : ¬ (tp i - 48) < 0 := fun z => c (Or.inl z)
        rw [i_lt] at this
        simp only [Int32.reduceToInt] at this
        omega
      have c2 : (tp i - 48).toInt < (nI P).toInt := by
        have : ¬ nI P ≤ (tp i - 48) := fun z => c (Or.inr (Or.inl z))
        rw [i_le] at this
        omega
      have c3 : (nI s >>> ((tp i - 48) &&& 31)) &&& 1 = 0 := Decidable.not_not.mp (fun z => c (Or.inr (Or.inr z)))
      obtain ⟨p, p1, p2, p3, p4⟩ := n_of c1 c2 (by omega)
      rw [p3] at c3 ⊢
      have c3 : bz (nI s) p := c3
      rw [g_bz (by omega) (by omega)] at c3
      obtain ⟨t1, t2⟩ := b_tell (s := s) (p := p) hs (by omega)
      rw [t1, nI_clamp (by omega), hf p m p4]
      obtain ⟨h1, h2⟩ := ih (i + 1) (s ||| 2 ^ p) (g p m) t2
      refine ⟨h1, fun z => h2 ?_⟩
      rw [cwt_1 (A := fun j => s.testBit j) (B := fun j => (s ||| 2 ^ p).testBit j) (p := p) c3 (fun j => b_tb s p j) P p4]
      omega
theorem st_order {n : Nat} (h : Inv n I L) : Bth sc mX11_order mX12_order 3 1 [] n I L tg := by
  obtain ⟨⟨N, h9, e1, e2⟩, e3, e4⟩ := h.1
  obtain ⟨P, R, p8, r5, o1, o2, o3, o4, ho, hf⟩ := ou_e h.2.2.2.2.2.2.1
  have iN : (nI N).toInt = N := nI_toInt (by omega)
  have iP : (nI P).toInt = P := nI_toInt (by omega)
  have iR : (nI R).toInt = R := nI_toInt (by omega)
  have nN1 : nN (I 1 1) = N := by rw [e1]; exact nI_clamp (by omega)
  have jn : ∀ q, q ≠ 1 → up I 1 1 0 q = I q := fun q hq => up_n _ _ _ hq
  have ou : ouM (up I 1 1 0) = ouM I := by unfold ouM; rw [jn 144 (by decide), jn 145 (by decide), jn 146 (by decide), jn 95 (by decide)]
  have nt : ntOk (up I 1 1 0) P := by unfold ntOk; rw [jn 144 (by decide), jn 145 (by decide), jn 146 (by decide), jn 95 (by decide)]; exact ho
  refine Run_r (k_X11_order (by rw [e1]; omega) (by rw [e1]; omega) (by rw [o1]; omega) (by rw [o3]; omega) (by rw [o3]; omega)) (Run_r (k_X12_order (P := P) (N := N) nt (by rw [jn 95 (by decide)]; exact o2) p8 (by rw [jn 95 (by decide)]; exact e2) h9) ⟨?_, ?_⟩)
  · rw [ou, nN1, jn 95 (by decide), jn 96 (by decide), o1, o2]
    obtain ⟨g1, g2⟩ := lo_e (tp := I 2) p8 hf N 0 0 0 (by decide)
    have z0 : nI 0 = 0 := rfl
    rw [z0] at g1 g2
    have e3' : (fun j => I 96 j &&& 255) = I 2 := e3.symm
    rw [e3']
    by_cases z : P < N
    · rw [if_pos z, g2 (by omega)]
    · rw [if_neg z]; exact g1.symm
  · refine Inv_t (Nat.le_succ n) h (fun a z1 z2 => ?_) (fun k hk => ?_) (fun k z1 z2 => ?_) keL_r ⟨⟨0, by omega, ?_, ?_⟩, ?_, ?_⟩
    · rw [up_n _ _ _ (by unfold scr at z1; omega), up_n _ _ _ (by omega)]
    · rw [up_n _ _ _ (by decide), up_n _ _ _ (by decide)]
    · rw [up_s, vu_n _ _ (by omega), up_n _ _ _ (by decide)]
    · rw [up_n _ _ _ (by decide), up_s, vu_s]; rfl
    · rw [up_s, vu_s]; rfl
    · rw [up_n _ _ _ (by decide), up_n _ _ _ (by decide), e3]
      funext j; unfold mtp; rw [up_n _ _ _ (by decide), up_n _ _ _ (by decide)]
    · rw [up_n _ _ _ (by decide), up_n _ _ _ (by decide)]; exact e4
end
