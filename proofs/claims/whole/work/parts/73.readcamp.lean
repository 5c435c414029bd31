/-! the component reads a CAMP -/
section
variable {sc : Sc} {I : Is} {L : Ls}
/-- a machine between two tokens -/
def Mq (N : Nat) (I : Is) (p k s H G K : Nat) : Prop := I 1 1 = nI N ∧ N ≤ 900 ∧ (∀ j, j < N → 0 ≤ (I 2 j).toInt) ∧ p ≤ N ∧ I 33 6 = nI p ∧ Pw I k s H G K
/-- what a token leads to -/
def Jt (I : Is) (N p : Nat) : Is := tokI I N p
theorem Mq_c {N p k s H G K : Nat} (h : Mq N I p k s H G K) : nN (I 33 6) = p ∧ nN (I 33 12) = k ∧ nN (I 33 11) = s ∧ nN (I 18 14) = H ∧ nN (I 18 15) = G ∧ nN (I 18 16) = K := by
  obtain ⟨_, h9, _, hp, h6, ⟨h1, h2, h3, h4, ⟨hH, b5, hG, b4, hK, b4'⟩, _⟩⟩ := h
  have wr := wd_r k
  unfold nN
  rw [h6, h1, h3, hH, hG, hK]
  exact ⟨nI_clamp (by omega), nI_clamp (by omega), nI_clamp (by omega), nI_clamp (by omega), nI_clamp (by omega), nI_clamp (by omega)⟩
theorem Mq_t {N p k s H G K : Nat} (h : Mq N I p k s H G K) : Mq N (tokI I N p) (lxD (I 2) N (lxQ (I 2) N p)) k s H G K := by
  obtain ⟨h1, h2, h3, h4, h5, h6⟩ := h
  have q := lxQ_r (I 2) h4
  refine ⟨by rw [tk_a _ _ (by decide)]; exact h1, h2, by rw [tk_a _ _ (by decide)]; exact h3, ?_, tk_6 _ _, Pw_t _ _ h6⟩
  by_cases hq : lxQ (I 2) N p < N
  · exact (lxD_r (I 2) hq).2
  · unfold lxD; rw [if_neg hq]; exact q.2
theorem cS_e {N p k s H G K : Nat} (h : Mq N I p k s H G K) : cS I L = acP I L k s H G K := by
  obtain ⟨_, e1, e2, e3, e4, e5⟩ := Mq_c h
  unfold cS
  rw [e1, e2, e3, e4, e5]
/-- one token more -/
theorem Mq_s {N p k s H G K : Nat} (h : Mq N I p k s H G K) (hc : (cS I L).1 = 0) : ∃ k' s' H' G' K', Mq N (cS I L).2.1 p k' s' H' G' K' := by
  have fr := ac_fr (I := I) (L := L) k s H G K
  rw [cS_e h] at hc ⊢
  obtain ⟨h1, h2, h3, h4, h5, h6⟩ := h
  have go : ∀ {k' s' H' G' K' : Nat}, Pw (acP I L k s H G K).2.1 k' s' H' G' K' → ∃ k' s' H' G' K', Mq N (acP I L k s H G K).2.1 p k' s' H' G' K' := fun z => ⟨_, _, _, _, _, by rw [fr.1.1 1 (by omega)]; exact h1, h2, by rw [fr.1.1 2 (by omega)]; exact h3, h4, by rw [fr.1.2 6 (by omega)]; exact h5, z⟩
  by_cases s0 : s = 0
  · rw [acP_k s0] at hc go ⊢
    obtain ⟨k', _, z⟩ := Pw_k (L := L) h6 s0 hc
    exact go z
  · by_cases s1 : s ≤ wdN k
    · rw [acP_n s0 s1] at hc go ⊢
      exact go (Pw_n h6 s0 s1 hc)
    · by_cases s2 : s - wdN k - 1 < nmN k
      · rw [acP_m (by omega) s2] at hc go ⊢
        exact go (Pw_m (i := s - wdN k - 1) h6 (by omega) s2 hc)
      · by_cases s3 : I 33 7 = 3
        · rw [acP_e (by omega) s2 s3] at hc go ⊢
          exact go (Pw_e h6 s0)
        · rw [acP_s (by omega) s2 s3] at hc
          exact absurd (show (1 : Int32) = 0 from hc) (by decide)
/-- nothing takes the end but the beginning of a clause -/
theorem cS_4 {N p k s H G K : Nat} (h : Mq N I p k s H G K) (h4 : I 33 7 = 4) (h0 : ¬ s = 0) : cS I L = (1, I, L) := by
  rw [cS_e h]
  by_cases s1 : s ≤ wdN k
  · rw [acP_n h0 s1, anF_n (by rw [h4]; decide)]
  · by_cases s2 : s - wdN k - 1 < nmN k
    · have e : amR I k (s - wdN k - 1) = 1 := by unfold amR; rw [if_pos (by rw [h4]; decide)]
      rw [acP_m (by omega) s2]
      unfold amI
      rw [e, if_neg (by decide)]
    · rw [acP_s (by omega) s2 (by rw [h4]; decide)]
theorem l_X8_readCamp {N : Nat} : ∀ n (I : Is) (L : Ls) (x : Int32) (p k s H G K : Nat), Mq N I p k s H G K → N - p < n → n ≤ 901 → x = nI (901 - n) → RR sc mX8_readCamp 4 0 0 (rI (cM N n I L).1 (XW (cM N n I L).2.1 (cM N n I L).2.2 18)) 0 0 39 [(2, .int x), (0, .ref 33), (1, .ref 18)] [] (XW I L 18) := by
  intro n
  induction n with
  | zero => intro I L x p k s H G K hM hn; omega
  | succ n ih =>
    intro I L x p k s H G K hM hn h901 ex
    have hx : x.toInt = ((900 - n : Nat) : Int) := by rw [ex, nI_toInt (by omega), show 901 - (n + 1) = 900 - n by omega]
    have hMt := Mq_t hM
    obtain ⟨ep, _⟩ := Mq_c hM
    have h1 := hM.1
    have h2 := hM.2.1
    have h3 := hM.2.2.1
    have h4 := hM.2.2.2.1
    have h5 := hM.2.2.2.2.1
    rw [cM, ep]
    have s11 : tokI I N p 33 11 = nI s := hMt.2.2.2.2.2.2.2.1
    have sb : s ≤ 10 := by have := hM.2.2.2.2.2.2.2.2.1; have := wd_r k; omega
    have t7 := tk_7 (I := I) N p
    have hpos : ¬ tokI I N p 33 7 = 4 → N - lxD (I 2) N (lxQ (I 2) N p) < n := by
      intro hz
      have q := lxQ_r (I 2) h4
      by_cases hq : lxQ (I 2) N p < N
      · have := lxD_r (I 2) hq; omega
      · exfalso; apply hz; rw [t7]; unfold lxT; rw [if_neg hq]
    generalize hT : tokI I N p = T at *
    generalize hL : tokL I L N p = M at *
    generalize lxD (I 2) N (lxQ (I 2) N p) = e at *
    have rest : ¬ (T 33 7 = 4 ∧ T 33 11 = 0) → RR sc mX8_readCamp 4 0 0 (rI (if (cS T M).1 = 0 then cM N n (cS T M).2.1 (cS T M).2.2 else (0, up (up (cS T M).2.1 33 4 (cS T M).1) 33 5 ((cS T M).2.1 33 8), (cS T M).2.2)).1 (XW (if (cS T M).1 = 0 then cM N n (cS T M).2.1 (cS T M).2.2 else (0, up (up (cS T M).2.1 33 4 (cS T M).1) 33 5 ((cS T M).2.1 33 8), (cS T M).2.2)).2.1 (if (cS T M).1 = 0 then cM N n (cS T M).2.1 (cS T M).2.2 else (0, up (up (cS T M).2.1 33 4 (cS T M).1) 33 5 ((cS T M).2.1 33 8), (cS T M).2.2)).2.2 18)) 0 0 67 [(2, .int x), (0, .ref 33), (1, .ref 18)] [] (XW T M 18) := by
      intro hz
      refine r_aload_n (j := 1) rfl rfl dX8_readCamp_67 ?_
      refine w_cV0s ((by have z := k_X8_acceptToken (sc := sc) (L := M) hMt.2.2.2.2.2; rw [← cS_e hMt] at z; exact z : Con sc mX8_acceptToken 3 0 0 [.ref 33] (XW T M 18) (rI (cS T M).1 (XW (cS T M).2.1 (cS T M).2.2 18)))) (Nat.le_of_ble_eq_true rfl) lX8_83 vmX8_acceptToken rfl (Nat.le_of_ble_eq_true rfl) (Nat.le_of_ble_eq_true rfl) (Nat.le_of_ble_eq_true rfl) dX8_readCamp_68 (fun J68 K68 hJ68 hK68 => ?_)
      subst hK68
      refine r_istore_n (lv' := fun z => [(3, .int z), (2, .int x), (0, .ref 33), (1, .ref 18)]) dX8_readCamp_71 rfl (Nat.le_of_ble_eq_true rfl) (fun _ => rfl) (fun x3_71 ex3_71 => ?_)
      refine r_iload_n (j := 0) rfl rfl dX8_readCamp_72 ?_
      refine r_if_eq (tgt := 91) dX8_readCamp_73 (by decide) (fun c73 => ?_) (fun c73 => ?_)
      · refine r_iinc (j := 1) (lv' := fun z => [(2, .int z), (3, .int x3_71), (0, .ref 33), (1, .ref 18)]) dX8_readCamp_91 rfl (Nat.le_of_ble_eq_true rfl) (fun _ => rfl) (fun x2_91 ex2_91 => ?_)
        refine r_goto (tgt := 39) dX8_readCamp_94 (by decide) ?_
        rw [ex3_71] at c73
        rw [if_pos c73]
        obtain ⟨k', s', H', G', K', hM'⟩ := Mq_s (L := M) hMt c73
        have h4' : ¬ T 33 7 = 4 := by
          intro z
          rw [cS_4 hMt z (fun z0 => hz ⟨z, by rw [s11, z0]; rfl⟩)] at c73
          exact absurd (show (1 : Int32) = 0 from c73) (by decide)
        rw [hJ68]
        have q := ih _ (cS T M).2.2 x2_91 e k' s' H' G' K' hM' (hpos h4') (by omega) (by rw [ex2_91, ex]; exact (nI_1 _).trans (by congr 1; omega))
        refine r_lvs [(2, .int x2_91), (0, .ref 33), (1, .ref 18)] [0, 2, 3] rfl ?_
        exact q
      · refine r_aload_n (j := 2) rfl rfl dX8_readCamp_76 ?_
        refine r_iload_n (j := 0) rfl rfl dX8_readCamp_77 ?_
        refine w_putI fX8_74 rfl (rfl) (rfl) dX8_readCamp_78 (fun J78 hJ78 => ?_)
        refine r_aload_n (j := 2) rfl rfl dX8_readCamp_81 ?_
        refine r_aload_n (j := 2) rfl rfl dX8_readCamp_82 ?_
        refine w_getI fX8_86 rfl dX8_readCamp_83 ?_
        refine w_putI fX8_22 rfl (rfl) (rfl) dX8_readCamp_86 (fun J86 hJ86 => ?_)
        refine r_iconst (v := 0) rfl dX8_readCamp_89 ?_
        refine w_iret rfl (rfl) (Nat.le_of_ble_eq_true rfl) (Nat.le_of_ble_eq_true rfl) dX8_readCamp_90 ?_
        rw [ex3_71] at c73 hJ78; rw [if_neg c73]; exact ⟨rfl, by have a8 : J78 33 8 = J68 33 8 := (by rw [hJ78]; simp [up_eq, vu_eq]); rw [hJ86, a8, hJ78, hJ68], rfl, rfl⟩
    refine r_iload_n (j := 0) rfl rfl dX8_readCamp_39 ?_
    refine r_sipush (v := 900) rfl dX8_readCamp_40 ?_
    refine r_icmp_gt (tgt := 97) dX8_readCamp_43 (by decide) (fun c43 => ?_) (fun c43 => ?_)
    · exfalso; ((try simp only [bI_0, bI_1, lc_lt, lc_gt, lc_le, lc_ge, Classical.not_not] at *); (try simp only [i_lt, i_le, i_eq, l_lt, l_le, l_eq, Int32.toInt_toInt64, Int32.reduceToInt, Int64.reduceToInt] at *); omega)
    · refine r_aload_n (j := 1) rfl rfl dX8_readCamp_46 ?_
      refine w_cV0v (k_X8_readToken h1 h2 h3 h4 h5) (Nat.le_of_ble_eq_true rfl) lX8_77 vmX8_readToken rfl (Nat.le_of_ble_eq_true rfl) (Nat.le_of_ble_eq_true rfl) (Nat.le_of_ble_eq_true rfl) dX8_readCamp_47 (fun J47 K47 hJ47 hK47 => ?_)
      subst hK47
      rw [hT] at hJ47; rw [hL]; subst hJ47
      refine r_aload_n (j := 1) rfl rfl dX8_readCamp_50 ?_
      refine w_getI fX8_80 rfl dX8_readCamp_51 ?_
      refine r_iconst (v := 4) rfl dX8_readCamp_54 ?_
      refine r_icmp_ne (tgt := 67) dX8_readCamp_55 (by decide) (fun c55 => ?_) (fun c55 => ?_)
      · rw [if_neg (fun z => c55 z.1)]; exact rest (fun z => c55 z.1)
      · refine r_aload_n (j := 1) rfl rfl dX8_readCamp_58 ?_
        refine w_getI fX8_68 rfl dX8_readCamp_59 ?_
        refine r_if_ne (tgt := 67) dX8_readCamp_62 (by decide) (fun c62 => ?_) (fun c62 => ?_)
        · rw [if_neg (fun z => c62 z.2)]; exact rest (fun z => c62 z.2)
        · refine r_iconst (v := 1) rfl dX8_readCamp_65 ?_
          refine w_iret rfl (rfl) (Nat.le_of_ble_eq_true rfl) (Nat.le_of_ble_eq_true rfl) dX8_readCamp_66 ?_
          rw [if_pos ⟨c55, c62⟩]; exact ⟨rfl, rfl, rfl, rfl⟩
/-- the reader before the first token -/
def rc0 (I : Is) : Is := up (up (up (up (up (cuI I) 33 6 0) 33 11 0) 33 12 0) 33 4 0) 33 5 (-1)
theorem Mq_0 {N : Nat} (hN : I 1 1 = nI N) (h9 : N ≤ 900) (hb : ∀ j, j < N → 0 ≤ (I 2 j).toInt) : Mq N (rc0 I) 0 0 0 0 0 0 := by
  have e1 : rc0 I 1 = I 1 := by simp [rc0, cuI, up_eq, upr_eq]
  have e2 : rc0 I 2 = I 2 := by simp [rc0, cuI, up_eq, upr_eq]
  unfold Mq Pw cBd
  rw [e1, e2]
  refine ⟨hN, h9, hb, by omega, ?_, ?_, by decide, ?_, by decide, ⟨?_, by decide, ?_, by decide, ?_, by decide⟩, fun z => absurd rfl z, fun z => by omega, fun z => by omega⟩
  all_goals (simp [rc0, cuI, up_eq, upr_eq, vu_eq]; try rfl)
theorem k_X8_readCamp {tg N : Nat} (hN : I 1 1 = nI N) (h9 : N ≤ 900) (hb : ∀ j, j < N → 0 ≤ (I 2 j).toInt) : Con sc mX8_readCamp 4 0 0 [.ref 33, .ref 18] (XW I L tg) (rI (cM N 901 (rc0 I) L).1 (XW (cM N 901 (rc0 I) L).2.1 (cM N 901 (rc0 I) L).2.2 18)) := by
  refine Con_of (by decide) (Nat.le_of_ble_eq_true rfl) ?_
  have hM := Mq_0 hN h9 hb
  refine r_aload_n (j := 0) rfl rfl dX8_readCamp_0 ?_
  refine r_aload_n (j := 1) rfl rfl dX8_readCamp_1 ?_
  refine w_putT fX8_30 (by decide) (fun _ => rfl) (fun _ => rfl) dX8_readCamp_2 ?_
  refine r_aload_n (j := 0) rfl rfl dX8_readCamp_5 ?_
  refine w_getR (b := 18) fX8_30 rfl rfl dX8_readCamp_6 ?_
  refine w_cV0v (k_X0_clear) (Nat.le_of_ble_eq_true rfl) lX8_60 vmX0_clear rfl (Nat.le_of_ble_eq_true rfl) (Nat.le_of_ble_eq_true rfl) (Nat.le_of_ble_eq_true rfl) dX8_readCamp_9 (fun J9 K9 hJ9 hK9 => ?_)
  subst hK9
  refine r_aload_n (j := 0) rfl rfl dX8_readCamp_12 ?_
  refine r_iconst (v := 0) rfl dX8_readCamp_13 ?_
  refine w_putI fX8_65 rfl (rfl) (rfl) dX8_readCamp_14 (fun J14 hJ14 => ?_)
  refine r_aload_n (j := 0) rfl rfl dX8_readCamp_17 ?_
  refine r_iconst (v := 0) rfl dX8_readCamp_18 ?_
  refine w_putI fX8_68 rfl (rfl) (rfl) dX8_readCamp_19 (fun J19 hJ19 => ?_)
  refine r_aload_n (j := 0) rfl rfl dX8_readCamp_22 ?_
  refine r_iconst (v := 0) rfl dX8_readCamp_23 ?_
  refine w_putI fX8_71 rfl (rfl) (rfl) dX8_readCamp_24 (fun J24 hJ24 => ?_)
  refine r_aload_n (j := 0) rfl rfl dX8_readCamp_27 ?_
  refine r_iconst (v := 0) rfl dX8_readCamp_28 ?_
  refine w_putI fX8_74 rfl (rfl) (rfl) dX8_readCamp_29 (fun J29 hJ29 => ?_)
  refine r_aload_n (j := 0) rfl rfl dX8_readCamp_32 ?_
  refine r_iconst (v := (-1)) rfl dX8_readCamp_33 ?_
  refine w_putI fX8_22 rfl (rfl) (rfl) dX8_readCamp_34 (fun J34 hJ34 => ?_)
  refine r_iconst (v := 0) rfl dX8_readCamp_37 ?_
  refine r_istore_n (lv' := fun z => [(2, .int z), (0, .ref 33), (1, .ref 18)]) dX8_readCamp_38 rfl (Nat.le_of_ble_eq_true rfl) (fun _ => rfl) (fun x2_38 ex2_38 => ?_)
  have e : J34 = rc0 I := (by rw [hJ34, hJ29, hJ24, hJ19, hJ14, hJ9]; rfl); rw [e]; exact l_X8_readCamp 901 _ _ _ _ _ _ _ _ _ hM (by omega) (by omega) ex2_38
end
