/-! the model's scanner -/
section
variable {sc : Sc} {I : Is} {L : Ls} {tg : Nat}
def mHd (T : Int32) : Int32 := if T = 4 then 0 else if T = 0 then 4 else T
def mVl (I : Is) (N q : Nat) : Int32 := if q < N ∧ ¬ isL (mtp I q) ∧ isDg (mtp I q) then mvE (mtp I) q (N - q) q 0 else I 95 6
def scI (I : Is) (N p : Nat) : Is := up (up (up (up I 95 3 (nI (lxQ (mtp I) N p))) 95 4 (nI (lxD (mtp I) N (lxQ (mtp I) N p)))) 95 5 (mHd (lxT (mtp I) N (lxQ (mtp I) N p)))) 95 6 (mVl I N (lxQ (mtp I) N p))
theorem k_X12_scan {N p : Nat} (hN : I 95 2 = nI N) (h9 : N ≤ 900) (hb : ∀ j, j < N → -128 ≤ (I 96 j).toInt ∧ (I 96 j).toInt ≤ 127) (hp : p ≤ N) (h4 : I 95 4 = nI p) : Con sc mX12_scan 2 0 0 [.ref 95] (XW I L tg) (rV (XW (scI I N p) L tg)) := by
  refine Con_of (by decide) (Nat.le_of_ble_eq_true rfl) ?_
  have hq := lxQ_r (mtp I) hp
  refine l_X12_scan1 hN h9 hb (N - p) p (by omega) h4 (fun J0 hJ0 => ?_)
  have hJ0 : J0 = up I 95 4 (nI (lxQ (mtp I) N p)) := hJ0
  generalize hqq : lxQ (mtp I) N p = q at *
  have fin : ∀ (J : Is) (E T V : Int32), (∀ a, a ≠ 95 → J a = I a) → J 95 3 = nI q → J 95 4 = E → J 95 5 = T → J 95 6 = V → (∀ k, k ≠ 3 → k ≠ 4 → k ≠ 5 → k ≠ 6 → J 95 k = I 95 k) → E = nI (lxD (mtp I) N q) → T = mHd (lxT (mtp I) N q) → V = mVl I N q → J = scI I N p := by
    intro J E T V ha j3 j4 j5 j6 jk hE hT hV
    refine up_one (b := 95) (fun a h => ?_) (fun k => ?_)
    · rw [ha a h]; unfold scI; simp [up_eq, h]
    · unfold scI
      rw [hqq]
      simp only [up_eq, vu_eq, if_true]
      by_cases e6 : k = 6
      · rw [if_pos e6, e6, j6, hV]
      · rw [if_neg e6]
        by_cases e5 : k = 5
        · rw [if_pos e5, e5, j5, hT]
        · rw [if_neg e5]
          by_cases e4 : k = 4
          · rw [if_pos e4, e4, j4, hE]
          · rw [if_neg e4]
            by_cases e3 : k = 3
            · rw [if_pos e3, e3, j3]
            · rw [if_neg e3]; exact jk k e3 e4 e5 e6
  have e04 : J0 95 4 = nI q := by rw [hJ0]; simp [up_eq, vu_eq]
  refine r_aload_n (j := 0) rfl rfl dX12_scan_52 ?_
  refine r_aload_n (j := 0) rfl rfl dX12_scan_53 ?_
  refine w_getI fX12_20 rfl dX12_scan_54 ?_
  refine w_putI fX12_7 rfl (rfl) (rfl) dX12_scan_57 (fun J57 hJ57 => ?_)
  rw [e04] at hJ57
  have k3 : J57 95 3 = nI q := by rw [hJ57]; simp [up_eq, vu_eq]
  have k4 : J57 95 4 = nI q := by rw [hJ57, hJ0]; simp [up_eq, vu_eq]
  have k2 : J57 95 2 = nI N := by rw [hJ57, hJ0]; simp [up_eq, vu_eq, hN]
  have k6 : J57 95 6 = I 95 6 := by rw [hJ57, hJ0]; simp [up_eq, vu_eq]
  have kk : ∀ k, k ≠ 3 → k ≠ 4 → J57 95 k = I 95 k := by intro k h3 h4; rw [hJ57, hJ0]; simp [up_eq, vu_eq, h3, h4]
  have ka : ∀ a, a ≠ 95 → J57 a = I a := by intro a h; rw [hJ57, hJ0]; simp [up_eq, h]
  have km : mtp J57 = mtp I := by funext j; unfold mtp; rw [ka 96 (by decide)]
  have kN : (J57 95 2).toInt = N := by rw [k2, nI_toInt (by omega)]
  have kq : (J57 95 3).toInt = q := by rw [k3, nI_toInt (by omega)]
  clear hJ57 hJ0
  refine r_aload_n (j := 0) rfl rfl dX12_scan_60 ?_
  refine r_aload_n (j := 0) rfl rfl dX12_scan_61 ?_
  refine w_getI fX12_7 rfl dX12_scan_62 ?_
  refine w_cV1p (k_X12_byteAt k2 h9 k3 hq.2) (Nat.le_of_ble_eq_true rfl) lX12_23 vmX12_byteAt rfl (Nat.le_of_ble_eq_true rfl) (Nat.le_of_ble_eq_true rfl) (Nat.le_of_ble_eq_true rfl) dX12_scan_65 ?_
  refine r_istore_n (lv' := fun z => [(1, .int z), (0, .ref 95)]) dX12_scan_68 rfl (Nat.le_of_ble_eq_true rfl) (fun _ => rfl) (fun x1_68 ex1_68 => ?_)
  rw [km] at ex1_68
  refine r_aload_n (j := 1) rfl rfl dX12_scan_69 ?_
  refine w_getI fX12_7 rfl dX12_scan_70 ?_
  refine r_aload_n (j := 1) rfl rfl dX12_scan_73 ?_
  refine w_getI fX12_13 rfl dX12_scan_74 ?_
  refine r_icmp_ne (tgt := 88) dX12_scan_77 (by decide) (fun c77 => ?_) (fun c77 => ?_)
  · have hqN : q < N := by
      by_cases h : q < N
      · exact h
      · exfalso; apply c77; rw [k3, k2]; congr 1; omega
    rw [if_pos hqN] at ex1_68
    refine r_iload_n (j := 0) rfl rfl dX12_scan_88 ?_
    refine w_cS1p (k_X12_isSmall) (Nat.le_of_ble_eq_true rfl) lX12_30 mtX12_isSmall (Nat.le_of_ble_eq_true rfl) (Nat.le_of_ble_eq_true rfl) (Nat.le_of_ble_eq_true rfl) dX12_scan_89 ?_
    refine r_if_eq (tgt := 148) dX12_scan_92 (by decide) (fun c92 => ?_) (fun c92 => ?_)
    · refine r_iload_n (j := 0) rfl rfl dX12_scan_148 ?_
      refine w_cS1p (k_X12_isDigit) (Nat.le_of_ble_eq_true rfl) lX12_34 mtX12_isDigit (Nat.le_of_ble_eq_true rfl) (Nat.le_of_ble_eq_true rfl) (Nat.le_of_ble_eq_true rfl) dX12_scan_149 ?_
      refine r_if_eq (tgt := 248) dX12_scan_152 (by decide) (fun c152 => ?_) (fun c152 => ?_)
      · refine r_aload_n (j := 1) rfl rfl dX12_scan_248 ?_
        refine r_iload_n (j := 0) rfl rfl dX12_scan_249 ?_
        refine r_bipush (v := 59) rfl dX12_scan_250 ?_
        refine r_icmp_ne (tgt := 259) dX12_scan_252 (by decide) (fun c252 => ?_) (fun c252 => ?_)
        · refine r_iconst (v := 4) rfl dX12_scan_259 ?_
          refine w_putI fX12_27 rfl (rfl) (rfl) dX12_scan_260 (fun J260 hJ260 => ?_)
          refine r_aload_n (j := 1) rfl rfl dX12_scan_263 ?_
          refine r_dup rfl dX12_scan_264 ?_
          refine w_getI fX12_20 rfl dX12_scan_265 ?_
          refine r_iconst (v := 1) rfl dX12_scan_268 ?_
          refine r_iadd dX12_scan_269 ?_
          refine w_putI fX12_20 rfl (rfl) (rfl) dX12_scan_270 (fun J270 hJ270 => ?_)
          refine w_vret rfl (Nat.le_of_ble_eq_true rfl) (Nat.le_of_ble_eq_true rfl) dX12_scan_273 ?_
          have hl := bI_0.mp c92
          have hd := bI_0.mp c152
          rw [ex1_68] at hl hd c252
          have k4' : J260 95 4 = nI q := by rw [hJ260]; simp [up_eq, vu_eq, k4]
          rw [k4', nI_1] at hJ270
          refine ⟨fin J270 (nI (q + 1)) 4 (I 95 6) ?_ ?_ ?_ ?_ ?_ ?_ ?_ ?_ ?_, rfl, rfl⟩
          · intro a h; rw [hJ270, hJ260]; simp [up_eq, h, ka a h]
          · rw [hJ270, hJ260]; simp [up_eq, vu_eq, k3]
          · rw [hJ270]; simp [up_eq, vu_eq]
          · rw [hJ270, hJ260]; simp [up_eq, vu_eq]
          · rw [hJ270, hJ260]; simp [up_eq, vu_eq, k6]
          · intro k h3 h4 h5 h6; rw [hJ270, hJ260]; simp [up_eq, vu_eq, h4, h5, kk k h3 h4]
          · unfold lxD; rw [if_pos hqN, if_neg hl, if_neg hd]
          · unfold lxT; rw [if_pos hqN, if_neg hl, if_neg hd, if_neg c252]; rfl
          · unfold mVl; rw [if_neg (fun z => hd z.2.2)]
        · refine r_iconst (v := 3) rfl dX12_scan_255 ?_
          refine r_goto (tgt := 260) dX12_scan_256 (by decide) ?_
          refine w_putI fX12_27 rfl (rfl) (rfl) dX12_scan_260 (fun J260 hJ260 => ?_)
          refine r_aload_n (j := 1) rfl rfl dX12_scan_263 ?_
          refine r_dup rfl dX12_scan_264 ?_
          refine w_getI fX12_20 rfl dX12_scan_265 ?_
          refine r_iconst (v := 1) rfl dX12_scan_268 ?_
          refine r_iadd dX12_scan_269 ?_
          refine w_putI fX12_20 rfl (rfl) (rfl) dX12_scan_270 (fun J270 hJ270 => ?_)
          refine w_vret rfl (Nat.le_of_ble_eq_true rfl) (Nat.le_of_ble_eq_true rfl) dX12_scan_273 ?_
          have hl := bI_0.mp c92
          have hd := bI_0.mp c152
          rw [ex1_68] at hl hd c252
          have k4' : J260 95 4 = nI q := by rw [hJ260]; simp [up_eq, vu_eq, k4]
          rw [k4', nI_1] at hJ270
          refine ⟨fin J270 (nI (q + 1)) 3 (I 95 6) ?_ ?_ ?_ ?_ ?_ ?_ ?_ ?_ ?_, rfl, rfl⟩
          · intro a h; rw [hJ270, hJ260]; simp [up_eq, h, ka a h]
          · rw [hJ270, hJ260]; simp [up_eq, vu_eq, k3]
          · rw [hJ270]; simp [up_eq, vu_eq]
          · rw [hJ270, hJ260]; simp [up_eq, vu_eq]
          · rw [hJ270, hJ260]; simp [up_eq, vu_eq, k6]
          · intro k h3 h4 h5 h6; rw [hJ270, hJ260]; simp [up_eq, vu_eq, h4, h5, kk k h3 h4]
          · unfold lxD; rw [if_pos hqN, if_neg hl, if_neg hd]
          · unfold lxT; rw [if_pos hqN, if_neg hl, if_neg hd, if_pos c252]; rfl
          · unfold mVl; rw [if_neg (fun z => hd z.2.2)]
      · refine r_aload_n (j := 1) rfl rfl dX12_scan_155 ?_
        refine r_iconst (v := 0) rfl dX12_scan_156 ?_
        refine w_putI fX12_37 rfl (rfl) (rfl) dX12_scan_157 (fun J157 hJ157 => ?_)
        have hl := bI_0.mp c92
        have hd := bI_1.mp c152
        rw [ex1_68] at hl hd
        have m3 : J157 95 3 = nI q := by rw [hJ157]; simp [up_eq, vu_eq, k3]
        have m4 : J157 95 4 = nI q := by rw [hJ157]; simp [up_eq, vu_eq, k4]
        have m2 : J157 95 2 = nI N := by rw [hJ157]; simp [up_eq, vu_eq, k2]
        have m6 : J157 95 6 = 0 := by rw [hJ157]; simp [up_eq, vu_eq]
        have ma : ∀ a, a ≠ 95 → J157 a = I a := by intro a h; rw [hJ157]; simp [up_eq, h, ka a h]
        have mk : ∀ k, k ≠ 3 → k ≠ 4 → k ≠ 6 → J157 95 k = I 95 k := by intro k h3 h4 h6; rw [hJ157]; simp [up_eq, vu_eq, h6, kk k h3 h4]
        have mm : mtp J157 = mtp I := by funext j; unfold mtp; rw [ma 96 (by decide)]
        clear hJ157
        refine l_X12_scan3 m2 h9 m3 (N - q) q 0 (by omega) (Nat.le_refl _) m4 (fun J1 hJ1 => ?_)
        rw [mm, m6] at hJ1
        have er := nmE_r (mtp I) (N - q) q 0
        generalize hE : (nmE (mtp I) (N - q) q 0).1 = E at *
        generalize hV : mvE (mtp I) q (N - q) q 0 = V at *
        have n3 : J1 95 3 = nI q := by rw [hJ1]; simp [up_eq, vu_eq, m3]
        have n4 : J1 95 4 = nI E := by rw [hJ1]; simp [up_eq, vu_eq]
        have n6 : J1 95 6 = V := by rw [hJ1]; simp [up_eq, vu_eq]
        have es : (J1 95 4 - J1 95 3).toInt = ((E - q : Nat) : Int) := by rw [n3, n4, pk_sub (by omega), nI_toInt (by omega)]
        have go : ∀ (T : Int32) (J : Is), T = mHd (lxT (mtp I) N q) → J = up J1 95 5 T → J = scI I N p := by
          intro T J hT hJ
          refine fin J (nI E) T V ?_ ?_ ?_ ?_ ?_ ?_ ?_ hT ?_
          · intro a h; rw [hJ, hJ1]; simp [up_eq, h, ma a h]
          · rw [hJ]; simp [up_eq, vu_eq, n3]
          · rw [hJ]; simp [up_eq, vu_eq, n4]
          · rw [hJ]; simp [up_eq, vu_eq]
          · rw [hJ]; simp [up_eq, vu_eq, n6]
          · intro k h3 h4 h5 h6; rw [hJ, hJ1]; simp [up_eq, vu_eq, h4, h5, h6, mk k h3 h4 h6]
          · unfold lxD; rw [if_pos hqN, if_neg hl, if_pos hd, hE]
          · unfold mVl; rw [if_pos ⟨hqN, hl, hd⟩, hV]
        refine r_aload_n (j := 1) rfl rfl dX12_scan_223 ?_
        refine r_aload_n (j := 1) rfl rfl dX12_scan_224 ?_
        refine w_getI fX12_20 rfl dX12_scan_225 ?_
        refine r_aload_n (j := 1) rfl rfl dX12_scan_228 ?_
        refine w_getI fX12_7 rfl dX12_scan_229 ?_
        refine r_isub dX12_scan_232 ?_
        refine r_iconst (v := 4) rfl dX12_scan_233 ?_
        refine r_icmp_le (tgt := 241) dX12_scan_234 (by decide) (fun c234 => ?_) (fun c234 => ?_)
        · refine r_iconst (v := 2) rfl dX12_scan_241 ?_
          refine w_putI fX12_27 rfl (rfl) (rfl) dX12_scan_242 (fun J242 hJ242 => ?_)
          refine r_goto (tgt := 273) dX12_scan_245 (by decide) ?_
          refine w_vret rfl (Nat.le_of_ble_eq_true rfl) (Nat.le_of_ble_eq_true rfl) dX12_scan_273 ?_
          exact ⟨go _ _ (by unfold lxT; rw [if_pos hqN, if_neg hl, if_pos hd, hE, if_neg (by ((try simp only [bI_0, bI_1, lc_lt, lc_gt, lc_le, lc_ge, Classical.not_not] at *); (try simp only [i_lt, i_le, i_eq, l_lt, l_le, l_eq, Int32.toInt_toInt64, Int32.reduceToInt, Int64.reduceToInt] at *); omega))]; rfl) hJ242, rfl, rfl⟩
        · refine r_iconst (v := 4) rfl dX12_scan_237 ?_
          refine r_goto (tgt := 242) dX12_scan_238 (by decide) ?_
          refine w_putI fX12_27 rfl (rfl) (rfl) dX12_scan_242 (fun J242 hJ242 => ?_)
          refine r_goto (tgt := 273) dX12_scan_245 (by decide) ?_
          refine w_vret rfl (Nat.le_of_ble_eq_true rfl) (Nat.le_of_ble_eq_true rfl) dX12_scan_273 ?_
          exact ⟨go _ _ (by unfold lxT; rw [if_pos hqN, if_neg hl, if_pos hd, hE, if_pos (by ((try simp only [bI_0, bI_1, lc_lt, lc_gt, lc_le, lc_ge, Classical.not_not] at *); (try simp only [i_lt, i_le, i_eq, l_lt, l_le, l_eq, Int32.toInt_toInt64, Int32.reduceToInt, Int64.reduceToInt] at *); omega))]; rfl) hJ242, rfl, rfl⟩
    · have hl := bI_1.mp c92
      rw [ex1_68] at hl
      refine l_X12_scan2 k2 h9 (N - q) q 0 (by omega) k4 (fun J1 hJ1 => ?_)
      rw [km] at hJ1
      have er := wdE_r (mtp I) (N - q) q 0
      generalize hE : (wdE (mtp I) (N - q) q 0).1 = E at *
      have n3 : J1 95 3 = nI q := by rw [hJ1]; simp [up_eq, vu_eq, k3]
      have n4 : J1 95 4 = nI E := by rw [hJ1]; simp [up_eq, vu_eq]
      have n6 : J1 95 6 = I 95 6 := by rw [hJ1]; simp [up_eq, vu_eq, k6]
      have es : (J1 95 4 - J1 95 3).toInt = ((E - q : Nat) : Int) := by rw [n3, n4, pk_sub (by omega), nI_toInt (by omega)]
      have go : ∀ (T : Int32) (J : Is), T = mHd (lxT (mtp I) N q) → J = up J1 95 5 T → J = scI I N p := by
        intro T J hT hJ
        refine fin J (nI E) T (I 95 6) ?_ ?_ ?_ ?_ ?_ ?_ ?_ hT ?_
        · intro a h; rw [hJ, hJ1]; simp [up_eq, h, ka a h]
        · rw [hJ]; simp [up_eq, vu_eq, n3]
        · rw [hJ]; simp [up_eq, vu_eq, n4]
        · rw [hJ]; simp [up_eq, vu_eq]
        · rw [hJ]; simp [up_eq, vu_eq, n6]
        · intro k h3 h4 h5 h6; rw [hJ, hJ1]; simp [up_eq, vu_eq, h4, h5, kk k h3 h4]
        · unfold lxD; rw [if_pos hqN, if_pos hl, hE]
        · unfold mVl; rw [if_neg (fun z => z.2.1 hl)]
      refine r_aload_n (j := 1) rfl rfl dX12_scan_122 ?_
      refine r_aload_n (j := 1) rfl rfl dX12_scan_123 ?_
      refine w_getI fX12_20 rfl dX12_scan_124 ?_
      refine r_aload_n (j := 1) rfl rfl dX12_scan_127 ?_
      refine w_getI fX12_7 rfl dX12_scan_128 ?_
      refine r_isub dX12_scan_131 ?_
      refine r_bipush (v := 8) rfl dX12_scan_132 ?_
      refine r_icmp_le (tgt := 141) dX12_scan_134 (by decide) (fun c134 => ?_) (fun c134 => ?_)
      · refine r_iconst (v := 1) rfl dX12_scan_141 ?_
        refine w_putI fX12_27 rfl (rfl) (rfl) dX12_scan_142 (fun J142 hJ142 => ?_)
        refine r_goto (tgt := 273) dX12_scan_145 (by decide) ?_
        refine w_vret rfl (Nat.le_of_ble_eq_true rfl) (Nat.le_of_ble_eq_true rfl) dX12_scan_273 ?_
        exact ⟨go _ _ (by unfold lxT; rw [if_pos hqN, if_pos hl, hE, if_neg (by ((try simp only [bI_0, bI_1, lc_lt, lc_gt, lc_le, lc_ge, Classical.not_not] at *); (try simp only [i_lt, i_le, i_eq, l_lt, l_le, l_eq, Int32.toInt_toInt64, Int32.reduceToInt, Int64.reduceToInt] at *); omega))]; rfl) hJ142, rfl, rfl⟩
      · refine r_iconst (v := 4) rfl dX12_scan_137 ?_
        refine r_goto (tgt := 142) dX12_scan_138 (by decide) ?_
        refine w_putI fX12_27 rfl (rfl) (rfl) dX12_scan_142 (fun J142 hJ142 => ?_)
        refine r_goto (tgt := 273) dX12_scan_145 (by decide) ?_
        refine w_vret rfl (Nat.le_of_ble_eq_true rfl) (Nat.le_of_ble_eq_true rfl) dX12_scan_273 ?_
        exact ⟨go _ _ (by unfold lxT; rw [if_pos hqN, if_pos hl, hE, if_pos (by ((try simp only [bI_0, bI_1, lc_lt, lc_gt, lc_le, lc_ge, Classical.not_not] at *); (try simp only [i_lt, i_le, i_eq, l_lt, l_le, l_eq, Int32.toInt_toInt64, Int32.reduceToInt, Int64.reduceToInt] at *); omega))]; rfl) hJ142, rfl, rfl⟩
  · have hqN : ¬ q < N := by have : (J57 95 3).toInt = (J57 95 2).toInt := (by rw [c77]); omega
    refine r_aload_n (j := 1) rfl rfl dX12_scan_80 ?_
    refine r_iconst (v := 0) rfl dX12_scan_81 ?_
    refine w_putI fX12_27 rfl (rfl) (rfl) dX12_scan_82 (fun J82 hJ82 => ?_)
    refine r_goto (tgt := 273) dX12_scan_85 (by decide) ?_
    refine w_vret rfl (Nat.le_of_ble_eq_true rfl) (Nat.le_of_ble_eq_true rfl) dX12_scan_273 ?_
    refine ⟨fin J82 (nI q) 0 (I 95 6) ?_ ?_ ?_ ?_ ?_ ?_ ?_ ?_ ?_, rfl, rfl⟩
    · intro a h; rw [hJ82]; simp [up_eq, h, ka a h]
    · rw [hJ82]; simp [up_eq, vu_eq, k3]
    · rw [hJ82]; simp [up_eq, vu_eq, k4]
    · rw [hJ82]; simp [up_eq, vu_eq]
    · rw [hJ82]; simp [up_eq, vu_eq, k6]
    · intro k h3 h4 h5 h6; rw [hJ82]; simp [up_eq, vu_eq, h5, kk k h3 h4]
    · unfold lxD; rw [if_neg hqN]
    · unfold lxT; rw [if_neg hqN]; rfl
    · unfold mVl; rw [if_neg (fun z => hqN z.1)]
end
