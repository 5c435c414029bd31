/-! the component's reader: a TOKEN; the camp that is read (cells 18 .. 32) -/
section
variable {sc : Sc} {I : Is} {L : Ls} {tg : Nat}
/-- a token: where it begins, where it ends, its kind (the component's number), its number, its word -/
def lxQ (t : Nat → Int32) (N p : Nat) : Nat := skB t (N - p) p
def lxD (t : Nat → Int32) (N q : Nat) : Nat := if q < N then (if isL (t q) then (wdE t (N - q) q 0).1 else if isDg (t q) then (nmE t (N - q) q 0).1 else q + 1) else q
def lxT (t : Nat → Int32) (N q : Nat) : Int32 := if q < N then (if isL (t q) then (if 8 < (wdE t (N - q) q 0).1 - q then 0 else 1) else if isDg (t q) then (if 4 < (nmE t (N - q) q 0).1 - q then 0 else 2) else if t q = 59 then 3 else 0) else 4
def lxV (t : Nat → Int32) (N q : Nat) (v : Int32) : Int32 := if q < N ∧ ¬ isL (t q) ∧ isDg (t q) then (nmE t (N - q) q 0).2 else v
def lxW (t : Nat → Int32) (N q : Nat) (w : Int64) : Int64 := if q < N ∧ isL (t q) then (wdE t (N - q) q 0).2 else w
def tokI (I : Is) (N p : Nat) : Is := up (up (up (up I 33 8 (nI (lxQ (I 2) N p))) 33 10 (lxV (I 2) N (lxQ (I 2) N p) (I 33 10))) 33 6 (nI (lxD (I 2) N (lxQ (I 2) N p)))) 33 7 (lxT (I 2) N (lxQ (I 2) N p))
def tokL (I : Is) (L : Ls) (N p : Nat) : Ls := up L 33 9 (lxW (I 2) N (lxQ (I 2) N p) (L 33 9))
theorem lxQ_r (t : Nat → Int32) {N p : Nat} (hp : p ≤ N) : p ≤ lxQ t N p ∧ lxQ t N p ≤ N := by
  have := skB_r t (N - p) p
  unfold lxQ
  omega
/-- rows that differ in cell 33 only -/
theorem up33 {α : Type} {I J : Nat → Nat → α} (h : ∀ a, a ≠ 33 → I a = J a) (h3 : ∀ k, I 33 k = J 33 k) : I = J := by
  funext a
  by_cases e : a = 33
  · subst e; funext k; exact h3 k
  · exact h a e
theorem k_X8_readToken {N p : Nat} (hN : I 1 1 = nI N) (h9 : N ≤ 900) (hb : ∀ j, j < N → 0 ≤ (I 2 j).toInt) (hp : p ≤ N) (h6 : I 33 6 = nI p) : Con sc mX8_readToken 2 0 0 [.ref 33] (XW I L tg) (rV (XW (tokI I N p) (tokL I L N p) tg)) := by
  refine Con_of (by decide) (Nat.le_of_ble_eq_true rfl) ?_
  have hq := lxQ_r (I 2) hp
  refine r_aload_n (j := 0) rfl rfl dX8_readToken_0 ?_
  refine w_cV0v (k_X8_skipBlanks hN h9 hp h6) (Nat.le_of_ble_eq_true rfl) lX8_89 vmX8_skipBlanks rfl (Nat.le_of_ble_eq_true rfl) (Nat.le_of_ble_eq_true rfl) (Nat.le_of_ble_eq_true rfl) dX8_readToken_1 (fun J1 K1 hJ1 hK1 => ?_)
  subst hK1
  refine r_aload_n (j := 0) rfl rfl dX8_readToken_4 ?_
  refine r_aload_n (j := 0) rfl rfl dX8_readToken_5 ?_
  refine w_getI fX8_65 rfl dX8_readToken_6 ?_
  refine w_putI fX8_86 rfl (rfl) (rfl) dX8_readToken_9 (fun J9 hJ9 => ?_)
  have q6 : J9 33 6 = nI (lxQ (I 2) N p) := by rw [hJ9, hJ1]; simp [up_eq, vu_eq, lxQ]
  have q8 : J9 33 8 = nI (lxQ (I 2) N p) := by rw [hJ9, hJ1]; simp [up_eq, vu_eq, lxQ]
  have q1 : J9 1 = I 1 := by rw [hJ9, hJ1]; simp [up_eq]
  have q2 : J9 2 = I 2 := by rw [hJ9, hJ1]; simp [up_eq]
  have qa : ∀ a, a ≠ 33 → J9 a = I a := by intro a ha; rw [hJ9, hJ1]; simp [up_eq, ha]
  have qk : ∀ k, k ≠ 6 → k ≠ 8 → J9 33 k = I 33 k := by intro k ha hb; rw [hJ9, hJ1]; simp [up_eq, vu_eq, ha, hb]
  clear hJ9 hJ1
  generalize hqq : lxQ (I 2) N p = q at *
  have ec : (if 0 ≤ J9 33 6 ∧ J9 33 6 < J9 1 1 then J9 2 (J9 33 6).toNatClampNeg else -1) = if q < N then I 2 q else -1 := by
    by_cases h : q < N
    · rw [at_in (I := J9) (by rw [q1]; exact hN) h9 q6 h, if_pos h, q2]
    · rw [if_neg h, if_neg]
      rintro ⟨_, z⟩
      rw [q6, q1, hN] at z
      exact h ((nI_ltI (by omega) (by omega)).mp z)
  have tkE : ∀ (T E : Int32) (V : Int32), T = lxT (I 2) N q → E = nI (lxD (I 2) N q) → V = lxV (I 2) N q (I 33 10) → ∀ J : Is, (∀ a, a ≠ 33 → J a = I a) → J 33 6 = E → J 33 7 = T → J 33 8 = nI q → J 33 10 = V → (∀ k, k ≠ 6 → k ≠ 7 → k ≠ 8 → k ≠ 10 → J 33 k = I 33 k) → J = tokI I N p := by
    intro T E V hT hE hV J ha j6 j7 j8 j10 jk
    refine up33 (fun a h => ?_) (fun k => ?_)
    · rw [ha a h]; unfold tokI; simp [up_eq, h]
    · unfold tokI
      rw [hqq]
      simp only [up_eq, vu_eq, if_true]
      by_cases e7 : k = 7
      · rw [if_pos e7, e7, j7, hT]
      · rw [if_neg e7]
        by_cases e6 : k = 6
        · rw [if_pos e6, e6, j6, hE]
        · rw [if_neg e6]
          by_cases e10 : k = 10
          · rw [if_pos e10, e10, j10, hV]
          · rw [if_neg e10]
            by_cases e8 : k = 8
            · rw [if_pos e8, e8, j8]
            · rw [if_neg e8]; exact jk k e6 e7 e8 e10
  have tokLn : ∀ L : Ls, ¬ (q < N ∧ isL (I 2 q)) → L = tokL I L N p := by
    intro L h
    unfold tokL lxW
    rw [hqq, if_neg h, up_id]
  refine r_aload_n (j := 0) rfl rfl dX8_readToken_12 ?_
  refine w_getR (b := 1) fX8_26 rfl rfl dX8_readToken_13 ?_
  refine r_aload_n (j := 0) rfl rfl dX8_readToken_16 ?_
  refine w_getI fX8_65 rfl dX8_readToken_17 ?_
  refine w_cV1p (k_X10_at (by rw [q1, hN, nI_toInt (by omega)]; omega)) (Nat.le_of_ble_eq_true rfl) lX8_92 vmX10_at rfl (Nat.le_of_ble_eq_true rfl) (Nat.le_of_ble_eq_true rfl) (Nat.le_of_ble_eq_true rfl) dX8_readToken_20 ?_
  refine r_istore_n (lv' := fun z => [(1, .int z), (0, .ref 33)]) dX8_readToken_23 rfl (Nat.le_of_ble_eq_true rfl) (fun _ => rfl) (fun x1_23 ex1_23 => ?_)
  rw [ec] at ex1_23; have eb : ∀ h : q < N, x1_23 = I 2 q := (fun h => by rw [ex1_23, if_pos h]); have en : ¬ q < N → x1_23 = -1 := (fun h => by rw [ex1_23, if_neg h])
  refine r_iload_n (j := 0) rfl rfl dX8_readToken_24 ?_
  refine w_cS1p (k_X8_isLetter) (Nat.le_of_ble_eq_true rfl) lX8_50 mtX8_isLetter (Nat.le_of_ble_eq_true rfl) (Nat.le_of_ble_eq_true rfl) (Nat.le_of_ble_eq_true rfl) dX8_readToken_25 ?_
  refine r_if_eq (tgt := 38) dX8_readToken_28 (by decide) (fun c28 => ?_) (fun c28 => ?_)
  · refine r_iload_n (j := 0) rfl rfl dX8_readToken_38 ?_
    refine w_cS1p (k_X8_isDigit) (Nat.le_of_ble_eq_true rfl) lX8_100 mtX8_isDigit (Nat.le_of_ble_eq_true rfl) (Nat.le_of_ble_eq_true rfl) (Nat.le_of_ble_eq_true rfl) dX8_readToken_39 ?_
    refine r_if_eq (tgt := 52) dX8_readToken_42 (by decide) (fun c42 => ?_) (fun c42 => ?_)
    · refine r_iload_n (j := 0) rfl rfl dX8_readToken_52 ?_
      refine r_iconst (v := (-1)) rfl dX8_readToken_53 ?_
      refine r_icmp_ne (tgt := 65) dX8_readToken_54 (by decide) (fun c54 => ?_) (fun c54 => ?_)
      · refine r_aload_n (j := 1) rfl rfl dX8_readToken_65 ?_
        refine r_iload_n (j := 0) rfl rfl dX8_readToken_66 ?_
        refine r_bipush (v := 59) rfl dX8_readToken_67 ?_
        refine r_icmp_ne (tgt := 76) dX8_readToken_69 (by decide) (fun c69 => ?_) (fun c69 => ?_)
        · refine r_iconst (v := 0) rfl dX8_readToken_76 ?_
          refine w_putI fX8_80 rfl (rfl) (rfl) dX8_readToken_77 (fun J77 hJ77 => ?_)
          refine r_aload_n (j := 1) rfl rfl dX8_readToken_80 ?_
          refine r_dup rfl dX8_readToken_81 ?_
          refine w_getI fX8_65 rfl dX8_readToken_82 ?_
          refine r_iconst (v := 1) rfl dX8_readToken_85 ?_
          refine r_iadd dX8_readToken_86 ?_
          refine w_putI fX8_65 rfl (rfl) (rfl) dX8_readToken_87 (fun J87 hJ87 => ?_)
          refine w_vret rfl (Nat.le_of_ble_eq_true rfl) (Nat.le_of_ble_eq_true rfl) dX8_readToken_90 ?_
          have hl := bI_0.mp c28
          have hd := bI_0.mp c42
          have hqN : q < N := Decidable.byContradiction fun h => c54 (en h)
          rw [eb hqN] at hl hd c69
          refine ⟨?_, tokLn _ (fun z => hl z.2), rfl⟩
          have h1 : J77 33 6 = nI q := by rw [hJ77]; simp [up_eq, vu_eq, q6]
          rw [h1, nI_1] at hJ87
          rw [tkE 0 (nI (q + 1)) (I 33 10) (by unfold lxT; rw [if_pos hqN, if_neg hl, if_neg hd, if_neg c69]) (by unfold lxD; rw [if_pos hqN, if_neg hl, if_neg hd]) (by unfold lxV; rw [if_neg (fun z => hd z.2.2)]) J87]
          · intro a ha; rw [hJ87, hJ77]; simp [up_eq, ha, qa a ha]
          · rw [hJ87]; simp [up_eq, vu_eq]
          · rw [hJ87, hJ77]; simp [up_eq, vu_eq]
          · rw [hJ87, hJ77]; simp [up_eq, vu_eq, q8]
          · rw [hJ87, hJ77]; simp [up_eq, vu_eq, qk]
          · intro k k6 k7 k8 k10; rw [hJ87, hJ77]; simp [up_eq, vu_eq, k6, k7, qk k k6 k8]
        · refine r_iconst (v := 3) rfl dX8_readToken_72 ?_
          refine r_goto (tgt := 77) dX8_readToken_73 (by decide) ?_
          refine w_putI fX8_80 rfl (rfl) (rfl) dX8_readToken_77 (fun J77 hJ77 => ?_)
          refine r_aload_n (j := 1) rfl rfl dX8_readToken_80 ?_
          refine r_dup rfl dX8_readToken_81 ?_
          refine w_getI fX8_65 rfl dX8_readToken_82 ?_
          refine r_iconst (v := 1) rfl dX8_readToken_85 ?_
          refine r_iadd dX8_readToken_86 ?_
          refine w_putI fX8_65 rfl (rfl) (rfl) dX8_readToken_87 (fun J87 hJ87 => ?_)
          refine w_vret rfl (Nat.le_of_ble_eq_true rfl) (Nat.le_of_ble_eq_true rfl) dX8_readToken_90 ?_
          have hl := bI_0.mp c28
          have hd := bI_0.mp c42
          have hqN : q < N := Decidable.byContradiction fun h => c54 (en h)
          rw [eb hqN] at hl hd c69
          refine ⟨?_, tokLn _ (fun z => hl z.2), rfl⟩
          have h1 : J77 33 6 = nI q := by rw [hJ77]; simp [up_eq, vu_eq, q6]
          rw [h1, nI_1] at hJ87
          rw [tkE 3 (nI (q + 1)) (I 33 10) (by unfold lxT; rw [if_pos hqN, if_neg hl, if_neg hd, if_pos c69]) (by unfold lxD; rw [if_pos hqN, if_neg hl, if_neg hd]) (by unfold lxV; rw [if_neg (fun z => hd z.2.2)]) J87]
          · intro a ha; rw [hJ87, hJ77]; simp [up_eq, ha, qa a ha]
          · rw [hJ87]; simp [up_eq, vu_eq]
          · rw [hJ87, hJ77]; simp [up_eq, vu_eq]
          · rw [hJ87, hJ77]; simp [up_eq, vu_eq, q8]
          · rw [hJ87, hJ77]; simp [up_eq, vu_eq, qk]
          · intro k k6 k7 k8 k10; rw [hJ87, hJ77]; simp [up_eq, vu_eq, k6, k7, qk k k6 k8]
      · refine r_aload_n (j := 1) rfl rfl dX8_readToken_57 ?_
        refine r_iconst (v := 4) rfl dX8_readToken_58 ?_
        refine w_putI fX8_80 rfl (rfl) (rfl) dX8_readToken_59 (fun J59 hJ59 => ?_)
        refine r_goto (tgt := 90) dX8_readToken_62 (by decide) ?_
        refine w_vret rfl (Nat.le_of_ble_eq_true rfl) (Nat.le_of_ble_eq_true rfl) dX8_readToken_90 ?_
        have hqN : ¬ q < N := by
          intro h
          have := hb q h
          rw [← eb h, c54] at this
          revert this; decide
        refine ⟨?_, tokLn _ (fun z => hqN z.1), rfl⟩
        rw [tkE 4 (nI q) (I 33 10) (by unfold lxT; rw [if_neg hqN]) (by unfold lxD; rw [if_neg hqN]) (by unfold lxV; rw [if_neg (fun z => hqN z.1)]) J59]
        · intro a ha; rw [hJ59]; simp [up_eq, ha, qa a ha]
        · rw [hJ59]; simp [up_eq, vu_eq, q6]
        · rw [hJ59]; simp [up_eq, vu_eq]
        · rw [hJ59]; simp [up_eq, vu_eq, q8]
        · rw [hJ59]; simp [up_eq, vu_eq, qk]
        · intro k k6 k7 k8 k10; rw [hJ59]; simp [up_eq, vu_eq, k7, qk k k6 k8]
    · refine r_aload_n (j := 1) rfl rfl dX8_readToken_45 ?_
      refine w_cV0v (k_X8_readNumber (N := N) (p := q) (by rw [q1]; exact hN) h9 q8 hq.2 q6) (Nat.le_of_ble_eq_true rfl) lX8_103 vmX8_readNumber rfl (Nat.le_of_ble_eq_true rfl) (Nat.le_of_ble_eq_true rfl) (Nat.le_of_ble_eq_true rfl) dX8_readToken_46 (fun J46 K46 hJ46 hK46 => ?_)
      subst hK46
      refine r_goto (tgt := 90) dX8_readToken_49 (by decide) ?_
      refine w_vret rfl (Nat.le_of_ble_eq_true rfl) (Nat.le_of_ble_eq_true rfl) dX8_readToken_90 ?_
      have hl := bI_0.mp c28
      have hd := bI_1.mp c42
      have hqN : q < N := by
        by_cases h : q < N
        · exact h
        · exfalso; rw [en h] at hd; revert hd; decide
      rw [eb hqN] at hl hd
      rw [q2] at hJ46
      refine ⟨?_, tokLn _ (fun z => hl z.2), rfl⟩
      rw [tkE (if 4 < (nmE (I 2) (N - q) q 0).1 - q then 0 else 2) (nI (nmE (I 2) (N - q) q 0).1) (nmE (I 2) (N - q) q 0).2 (by unfold lxT; rw [if_pos hqN, if_neg hl, if_pos hd]) (by unfold lxD; rw [if_pos hqN, if_neg hl, if_pos hd]) (by unfold lxV; rw [if_pos ⟨hqN, hl, hd⟩]) J46]
      · intro a ha; rw [hJ46]; simp [up_eq, ha, qa a ha]
      · rw [hJ46]; simp [up_eq, vu_eq]
      · rw [hJ46]; simp [up_eq, vu_eq]
      · rw [hJ46]; simp [up_eq, vu_eq, q8]
      · rw [hJ46]; simp [up_eq, vu_eq]
      · intro k k6 k7 k8 k10; rw [hJ46]; simp [up_eq, vu_eq, k6, k7, k10, qk k k6 k8]
  · refine r_aload_n (j := 1) rfl rfl dX8_readToken_31 ?_
    refine w_cV0v (k_X8_readWord (N := N) (p := q) (by rw [q1]; exact hN) h9 q8 hq.2 q6) (Nat.le_of_ble_eq_true rfl) lX8_97 vmX8_readWord rfl (Nat.le_of_ble_eq_true rfl) (Nat.le_of_ble_eq_true rfl) (Nat.le_of_ble_eq_true rfl) dX8_readToken_32 (fun J32 K32 hJ32 hK32 => ?_)
    subst hK32
    refine r_goto (tgt := 90) dX8_readToken_35 (by decide) ?_
    refine w_vret rfl (Nat.le_of_ble_eq_true rfl) (Nat.le_of_ble_eq_true rfl) dX8_readToken_90 ?_
    have hl := bI_1.mp c28
    have hqN : q < N := by
      by_cases h : q < N
      · exact h
      · exfalso; rw [en h] at hl; revert hl; decide
    rw [eb hqN] at hl
    rw [q2] at hJ32
    refine ⟨?_, by unfold tokL lxW; rw [hqq, if_pos ⟨hqN, hl⟩, q2], rfl⟩
    rw [tkE (if 8 < (wdE (I 2) (N - q) q 0).1 - q then 0 else 1) (nI (wdE (I 2) (N - q) q 0).1) (I 33 10) (by unfold lxT; rw [if_pos hqN, if_pos hl]) (by unfold lxD; rw [if_pos hqN, if_pos hl]) (by unfold lxV; rw [if_neg (fun z => z.2.1 hl)]) J32]
    · intro a ha; rw [hJ32]; simp [up_eq, ha, qa a ha]
    · rw [hJ32]; simp [up_eq, vu_eq]
    · rw [hJ32]; simp [up_eq, vu_eq]
    · rw [hJ32]; simp [up_eq, vu_eq, q8]
    · rw [hJ32]; simp [up_eq, vu_eq, qk]
    · intro k k6 k7 k8 k10; rw [hJ32]; simp [up_eq, vu_eq, k6, k7, qk k k6 k8]
end
