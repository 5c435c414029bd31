/-! the model: best -/
section
variable {sc : Sc} {I : Is} {L : Ls} {tg P : Nat}
theorem nI_ij {a b : Nat} (ha : a < 2147483648) (hb : b < 2147483648) : nI a = nI b ↔ a = b := by
  constructor
  · intro h
    have := congrArg Int32.toInt h
    rw [nI_toInt ha, nI_toInt hb] at this
    omega
  · intro h; rw [h]
theorem nt_u {I : Is} {R : Nat → Int32} (h : ntOk I P) : ntOk (upr I 147 R) P := by
  unfold ntOk
  rw [upr_n _ _ (show (95 : Nat) ≠ 147 by decide), upr_n _ _ (show (145 : Nat) ≠ 147 by decide), upr_n _ _ (show (146 : Nat) ≠ 147 by decide), upr_n _ _ (show (144 : Nat) ≠ 147 by decide)]
  exact h
theorem om_u {I : Is} {R : Nat → Int32} : ouM (upr I 147 R) = ouM I := by
  unfold ouM
  rw [upr_n _ _ (show (95 : Nat) ≠ 147 by decide), upr_n _ _ (show (145 : Nat) ≠ 147 by decide), upr_n _ _ (show (146 : Nat) ≠ 147 by decide), upr_n _ _ (show (144 : Nat) ≠ 147 by decide)]
theorem foT_base {out : Nat → Int32 → Int32} {gone n : Nat} {time : Int32} {b b' : Nat → Int32} : ∀ s, s < n → foT out P gone time b n s = foT out P gone time b' n s := by
  intro s
  induction s using Nat.strongRecOn with
  | ind s ih =>
    intro h
    rw [foT_eq n s h, foT_eq n s h]
    by_cases e : s = 0
    · rw [if_pos e, if_pos e]
    · rw [if_neg e, if_neg e]
      exact mnM_cg (fun p hp => ih _ (clr_lts hp) (by have := clr_lts hp; omega)) P
theorem l_X12_fo2 {T : Nat → Int32} {s gn : Nat} {tm : Int32} (h : ntOk I P) (hP : I 95 83 = nI P) (h8 : P ≤ 8) (hs : s < 256) (hg : gn < 256) (hT : ∀ p, s.testBit p = true → 0 ≤ (T (clr s p)).toInt ∧ (T (clr s p)).toInt ≤ 1000000) {Q : Po}
    (K : ∀ x4 : Int32, RR sc mX12_findOut 1 0 0 Q 0 0 118 [(4, .int x4), (3, .int (nI s)), (0, .ref 95), (1, .int tm), (2, .int (nI gn))] [] (XW (upr I 147 (va_up T s (mnM (ouM I) T gn s P))) L tg)) : ∀ n i : Nat, i + n = P → ∀ (J : Is) (x : Int32), J = upr I 147 (va_up T s (mnM (ouM I) T gn s i)) → x.toInt = i → RR sc mX12_findOut 1 0 0 Q 0 0 31 [(4, .int x), (3, .int (nI s)), (0, .ref 95), (1, .int tm), (2, .int (nI gn))] [] (XW J L tg) := by
  have hPi : (I 95 83).toInt = P := by rw [hP, nI_toInt (by omega)]
  have hsi : (nI s).toInt = s := nI_toInt (by omega)
  have hins := up_in (N := 256) hsi hs
  have cs := cl_of hsi
  intro n
  induction n with
  | zero =>
    intro i hi J x eJ hx
    have e83 : J 95 83 = I 95 83 := by rw [eJ, upr_n _ _ (by decide)]
    refine r_iload (j := 0) rfl dX12_findOut_31 ?_
    refine r_aload_n (j := 2) rfl rfl dX12_findOut_33 ?_
    refine w_getI fX12_541 rfl dX12_findOut_34 ?_
    refine r_icmp_ge (tgt := 118) dX12_findOut_37 (by decide) (fun c37 => ?_) (fun c37 => ?_)
    · rw [eJ, show i = P by omega]; exact K _
    · exfalso; rw [e83] at c37; ((try simp only [bI_0, bI_1, lc_lt, lc_gt, lc_le, lc_ge, Classical.not_not] at *); (try simp only [i_lt, i_le, i_eq, l_lt, l_le, l_eq, Int32.toInt_toInt64, Int32.reduceToInt, Int64.reduceToInt] at *); omega)
  | succ n ih =>
    intro i hi J x eJ hx
    have e83 : J 95 83 = I 95 83 := by rw [eJ, upr_n _ _ (by decide)]
    obtain rfl := x_nI hx
    have ob := one_bit (s := s) (h := i) (by omega) (by omega)
    have zb := g_bz (s := gn) (p := i) (by omega) (by omega)
    have hc := s8_clr s hs i (by omega)
    have hcl := clr_le s i
    have ccl : (nI (clr s i)).toNatClampNeg = clr s i := nI_clamp (by omega)
    have j147 : s.testBit i = true → J 147 (clr s i) = T (clr s i) := fun z => by
      rw [eJ, upr_s, vu_n _ _ (by have := clr_lts z; omega)]
    have js : J 147 s = mnM (ouM I) T gn s i := by rw [eJ, upr_s, vu_s]
    have skip : ¬ (s.testBit i = true ∧ gn.testBit i = false ∧ T (clr s i) < 1000000) → ∀ x' : Int32, x' = nI i + Int32.ofInt 1 → RR sc mX12_findOut 1 0 0 Q 0 0 31 [(4, .int x'), (3, .int (nI s)), (0, .ref 95), (1, .int tm), (2, .int (nI gn))] [] (XW J L tg) := fun hn x' ex => ih (i + 1) (by omega) _ _ (by rw [mnM, if_neg hn]; exact eJ) (by rw [ex]; exact i_inc hx (by omega))
    refine r_iload (j := 0) rfl dX12_findOut_31 ?_
    refine r_aload_n (j := 2) rfl rfl dX12_findOut_33 ?_
    refine w_getI fX12_541 rfl dX12_findOut_34 ?_
    refine r_icmp_ge (tgt := 118) dX12_findOut_37 (by decide) (fun c37 => ?_) (fun c37 => ?_)
    · exfalso; rw [e83] at c37; ((try simp only [bI_0, bI_1, lc_lt, lc_gt, lc_le, lc_ge, Classical.not_not] at *); (try simp only [i_lt, i_le, i_eq, l_lt, l_le, l_eq, Int32.toInt_toInt64, Int32.reduceToInt, Int64.reduceToInt] at *); omega)
    · refine r_iload_n (j := 1) rfl rfl dX12_findOut_40 ?_
      refine r_iload (j := 0) rfl dX12_findOut_41 ?_
      refine r_ishr dX12_findOut_43 ?_
      refine r_iconst (v := 1) rfl dX12_findOut_44 ?_
      refine r_iand dX12_findOut_45 ?_
      refine r_iconst (v := 1) rfl dX12_findOut_46 ?_
      refine r_icmp_ne (tgt := 112) dX12_findOut_47 (by decide) (fun c47 => ?_) (fun c47 => ?_)
      · refine r_iinc (j := 0) (lv' := fun z => [(4, .int z), (3, .int (nI s)), (0, .ref 95), (1, .int tm), (2, .int (nI gn))]) dX12_findOut_112 rfl (Nat.le_of_ble_eq_true rfl) (fun _ => rfl) (fun x4_112 ex4_112 => ?_)
        refine r_goto (tgt := 31) dX12_findOut_115 (by decide) ?_
        exact skip (fun z => c47 (ob.mpr z.1)) _ ex4_112
      · refine r_iload_n (j := 4) rfl rfl dX12_findOut_50 ?_
        refine r_iload (j := 0) rfl dX12_findOut_51 ?_
        refine r_ishr dX12_findOut_53 ?_
        refine r_iconst (v := 1) rfl dX12_findOut_54 ?_
        refine r_iand dX12_findOut_55 ?_
        refine r_if_ne (tgt := 112) dX12_findOut_56 (by decide) (fun c56 => ?_) (fun c56 => ?_)
        · refine r_iinc (j := 0) (lv' := fun z => [(4, .int z), (3, .int (nI s)), (0, .ref 95), (1, .int tm), (2, .int (nI gn))]) dX12_findOut_112 rfl (Nat.le_of_ble_eq_true rfl) (fun _ => rfl) (fun x4_112 ex4_112 => ?_)
          refine r_goto (tgt := 31) dX12_findOut_115 (by decide) ?_
          exact skip (fun z => c56 (zb.mpr z.2.1)) _ ex4_112
        · refine r_aload_n (j := 2) rfl rfl dX12_findOut_59 ?_
          refine w_getR (b := 147) fX12_333 rfl rfl dX12_findOut_60 ?_
          refine r_iload_n (j := 1) rfl rfl dX12_findOut_63 ?_
          refine r_iconst (v := 1) rfl dX12_findOut_64 ?_
          refine r_iload (j := 0) rfl dX12_findOut_65 ?_
          refine r_ishl dX12_findOut_67 ?_
          refine r_iconst (v := (-1)) rfl dX12_findOut_68 ?_
          refine r_ixor dX12_findOut_69 ?_
          refine r_iand dX12_findOut_70 ?_
          refine w_iald rfl (by rw [hc]; exact vp_in_nI (by omega) (by omega)) dX12_findOut_71 ?_
          rw [hc, ccl, j147 (ob.mp c47)]
          refine r_ldcw kX12_491 dX12_findOut_72 ?_
          refine r_icmp_ge (tgt := 112) dX12_findOut_75 (by decide) (fun c75 => ?_) (fun c75 => ?_)
          · refine r_iinc (j := 0) (lv' := fun z => [(4, .int z), (3, .int (nI s)), (0, .ref 95), (1, .int tm), (2, .int (nI gn))]) dX12_findOut_112 rfl (Nat.le_of_ble_eq_true rfl) (fun _ => rfl) (fun x4_112 ex4_112 => ?_)
            refine r_goto (tgt := 31) dX12_findOut_115 (by decide) ?_
            exact skip (fun z => absurd z.2.2 (Int32.not_lt.mpr c75)) _ ex4_112
          · refine r_aload_n (j := 2) rfl rfl dX12_findOut_78 ?_
            refine w_getR (b := 147) fX12_333 rfl rfl dX12_findOut_79 ?_
            refine r_iload_n (j := 1) rfl rfl dX12_findOut_82 ?_
            refine r_aload_n (j := 2) rfl rfl dX12_findOut_83 ?_
            refine w_getR (b := 147) fX12_333 rfl rfl dX12_findOut_84 ?_
            refine r_iload_n (j := 1) rfl rfl dX12_findOut_87 ?_
            refine w_iald rfl (by first | assumption | (rw [vp_in_iff]; ((try simp only [bI_0, bI_1, lc_lt, lc_gt, lc_le, lc_ge, Classical.not_not] at *); (try simp only [i_lt, i_le, i_eq, l_lt, l_le, l_eq, Int32.toInt_toInt64, Int32.reduceToInt, Int64.reduceToInt] at *); omega))) dX12_findOut_88 ?_
            refine r_aload_n (j := 2) rfl rfl dX12_findOut_89 ?_
            refine r_iload (j := 0) rfl dX12_findOut_90 ?_
            refine r_aload_n (j := 2) rfl rfl dX12_findOut_92 ?_
            refine w_getR (b := 147) fX12_333 rfl rfl dX12_findOut_93 ?_
            refine r_iload_n (j := 1) rfl rfl dX12_findOut_96 ?_
            refine r_iconst (v := 1) rfl dX12_findOut_97 ?_
            refine r_iload (j := 0) rfl dX12_findOut_98 ?_
            refine r_ishl dX12_findOut_100 ?_
            refine r_iconst (v := (-1)) rfl dX12_findOut_101 ?_
            refine r_ixor dX12_findOut_102 ?_
            refine r_iand dX12_findOut_103 ?_
            refine w_iald rfl (by rw [hc]; exact vp_in_nI (by omega) (by omega)) dX12_findOut_104 ?_
            refine w_cV2p (k_X12_outBy (P := P) (by rw [eJ]; exact nt_u h) hx (by omega) h8 (by rw [hc, ccl, j147 (ob.mp c47)]; have := hT i (ob.mp c47); omega)) (Nat.le_of_ble_eq_true rfl) lX12_549 vmX12_outBy rfl (Nat.le_of_ble_eq_true rfl) (Nat.le_of_ble_eq_true rfl) (Nat.le_of_ble_eq_true rfl) dX12_findOut_105 ?_
            refine r_mmin lmX12_433 (Nat.le_of_ble_eq_true rfl) (Nat.le_of_ble_eq_true rfl) (Nat.le_of_ble_eq_true rfl) (Nat.le_of_ble_eq_true rfl) dX12_findOut_108 ?_
            refine w_iast rfl (by first | assumption | (rw [vp_in_iff]; ((try simp only [bI_0, bI_1, lc_lt, lc_gt, lc_le, lc_ge, Classical.not_not] at *); (try simp only [i_lt, i_le, i_eq, l_lt, l_le, l_eq, Int32.toInt_toInt64, Int32.reduceToInt, Int64.reduceToInt] at *); omega))) dX12_findOut_111 (fun J111 hJ111 => ?_)
            refine r_iinc (j := 0) (lv' := fun z => [(4, .int z), (3, .int (nI s)), (0, .ref 95), (1, .int tm), (2, .int (nI gn))]) dX12_findOut_112 rfl (Nat.le_of_ble_eq_true rfl) (fun _ => rfl) (fun x4_112 ex4_112 => ?_)
            refine r_goto (tgt := 31) dX12_findOut_115 (by decide) ?_
            have hb := ob.mp c47
            have hq : s.testBit i = true ∧ gn.testBit i = false ∧ T (clr s i) < 1000000 := ⟨hb, zb.mp c56, Int32.not_le.mp c75⟩
            refine ih (i + 1) (by omega) _ _ ?_ (by rw [ex4_112]; exact i_inc hx (by omega))
            rw [hJ111, hc, ccl, j147 hb, cs, js, eJ, om_u, upr_up, bx_uu, mnM, if_pos hq]
theorem l_X12_fo1 {gn : Nat} {tm : Int32} (h : ntOk I P) (hP : I 95 83 = nI P) (h8 : P ≤ 8) (hg : gn < 256) (ht : 0 ≤ tm.toInt ∧ tm.toInt ≤ 1000000) : ∀ n s : Nat, s + n = 2 ^ P → 1 ≤ s → ∀ (J : Is) (x : Int32), J = upr I 147 (foT (ouM I) P gn tm (I 147) s) → x.toInt = s → RR sc mX12_findOut 1 0 0 (rV (XW (upr I 147 (foT (ouM I) P gn tm (I 147) (2 ^ P))) L tg)) 0 0 9 [(3, .int x), (0, .ref 95), (1, .int tm), (2, .int (nI gn))] [] (XW J L tg) := by
  have h256 := p2_le P h8
  intro n
  induction n with
  | zero =>
    intro s hs h1 J x eJ hx
    have e7 : J 95 83 = nI P := by rw [eJ, upr_n _ _ (by decide)]; exact hP
    have e9 : ((1 : Int32) <<< (J 95 83 &&& 31)).toInt = ((2 ^ P : Nat) : Int) := by rw [e7, s8_one P (by omega), nI_toInt (by omega)]
    refine r_iload_n (j := 0) rfl rfl dX12_findOut_9 ?_
    refine r_iconst (v := 1) rfl dX12_findOut_10 ?_
    refine r_aload_n (j := 1) rfl rfl dX12_findOut_11 ?_
    refine w_getI fX12_541 rfl dX12_findOut_12 ?_
    refine r_ishl dX12_findOut_15 ?_
    refine r_icmp_ge (tgt := 124) dX12_findOut_16 (by decide) (fun c16 => ?_) (fun c16 => ?_)
    · refine w_vret rfl (Nat.le_of_ble_eq_true rfl) (Nat.le_of_ble_eq_true rfl) dX12_findOut_124 ?_
      exact ⟨by rw [eJ, show s = 2 ^ P by omega], rfl, rfl⟩
    · exfalso; ((try simp only [bI_0, bI_1, lc_lt, lc_gt, lc_le, lc_ge, Classical.not_not] at *); (try simp only [i_lt, i_le, i_eq, l_lt, l_le, l_eq, Int32.toInt_toInt64, Int32.reduceToInt, Int64.reduceToInt] at *); omega)
  | succ n ih =>
    intro s hs h1 J x eJ hx
    obtain rfl := x_nI hx
    have cs := cl_of hx
    have e7 : J 95 83 = nI P := by rw [eJ, upr_n _ _ (by decide)]; exact hP
    have e9 : ((1 : Int32) <<< (J 95 83 &&& 31)).toInt = ((2 ^ P : Nat) : Int) := by rw [e7, s8_one P (by omega), nI_toInt (by omega)]
    refine r_iload_n (j := 0) rfl rfl dX12_findOut_9 ?_
    refine r_iconst (v := 1) rfl dX12_findOut_10 ?_
    refine r_aload_n (j := 1) rfl rfl dX12_findOut_11 ?_
    refine w_getI fX12_541 rfl dX12_findOut_12 ?_
    refine r_ishl dX12_findOut_15 ?_
    refine r_icmp_ge (tgt := 124) dX12_findOut_16 (by decide) (fun c16 => ?_) (fun c16 => ?_)
    · exfalso; ((try simp only [bI_0, bI_1, lc_lt, lc_gt, lc_le, lc_ge, Classical.not_not] at *); (try simp only [i_lt, i_le, i_eq, l_lt, l_le, l_eq, Int32.toInt_toInt64, Int32.reduceToInt, Int64.reduceToInt] at *); omega)
    · refine r_aload_n (j := 1) rfl rfl dX12_findOut_19 ?_
      refine w_getR (b := 147) fX12_333 rfl rfl dX12_findOut_20 ?_
      refine r_iload_n (j := 0) rfl rfl dX12_findOut_23 ?_
      refine r_ldcw kX12_491 dX12_findOut_24 ?_
      refine w_iast rfl (up_in hx (by omega)) dX12_findOut_27 (fun J27 hJ27 => ?_)
      refine r_iconst (v := 0) rfl dX12_findOut_28 ?_
      refine r_istore (lv' := fun z => [(4, .int z), (3, .int (nI s)), (0, .ref 95), (1, .int tm), (2, .int (nI gn))]) dX12_findOut_29 (Nat.le_of_ble_eq_true rfl) (fun _ => rfl) (fun x4_29 ex4_29 => ?_)
      refine l_X12_fo2 (T := foT (ouM I) P gn tm (I 147) s) h hP h8 (by omega) hg (fun p hp => foT_rng (ouM_ok h) ht _ (clr_lts hp)) ?_ P 0 (Nat.zero_add _) _ _ (by rw [hJ27, cs, eJ, upr_up]; rfl) (by rw [ex4_29]; rfl)
      intro x4
      refine r_lvs [(3, .int (nI s)), (0, .ref 95), (1, .int tm), (2, .int (nI gn))] [1, 2, 3, 4] rfl ?_
      refine r_iinc (j := 0) (lv' := fun z => [(3, .int z), (0, .ref 95), (1, .int tm), (2, .int (nI gn))]) dX12_findOut_118 rfl (Nat.le_of_ble_eq_true rfl) (fun _ => rfl) (fun x3_118 ex3_118 => ?_)
      refine r_goto (tgt := 9) dX12_findOut_121 (by decide) ?_
      exact ih (s + 1) (by omega) (by omega) _ _ (by rw [foT, if_neg (show ¬ s = 0 by omega)]) (by rw [ex3_118]; exact i_inc hx (by omega))
theorem k_X12_findOut {g : Int32} {gn : Nat} {tm : Int32} (h : ntOk I P) (hP : I 95 83 = nI P) (h8 : P ≤ 8) (eg : g = nI gn) (hg : gn < 256) (ht : 0 ≤ tm.toInt ∧ tm.toInt ≤ 1000000) : Con sc mX12_findOut 1 0 0 [.ref 95, .int tm, .int g] (XW I L tg) (rV (XW (upr I 147 (foT (ouM I) P gn tm (I 147) (2 ^ P))) L tg)) := by
  subst eg
  have hp1 := p2_1 P h8
  refine Con_of (by decide) (Nat.le_of_ble_eq_true rfl) ?_
  refine r_aload_n (j := 0) rfl rfl dX12_findOut_0 ?_
  refine w_getR (b := 147) fX12_333 rfl rfl dX12_findOut_1 ?_
  refine r_iconst (v := 0) rfl dX12_findOut_4 ?_
  refine r_iload_n (j := 1) rfl rfl dX12_findOut_5 ?_
  refine w_iast rfl (by first | assumption | (rw [vp_in_iff]; ((try simp only [bI_0, bI_1, lc_lt, lc_gt, lc_le, lc_ge, Classical.not_not] at *); (try simp only [i_lt, i_le, i_eq, l_lt, l_le, l_eq, Int32.toInt_toInt64, Int32.reduceToInt, Int64.reduceToInt] at *); omega))) dX12_findOut_6 (fun J6 hJ6 => ?_)
  refine r_iconst (v := 1) rfl dX12_findOut_7 ?_
  refine r_istore_n (lv' := fun z => [(3, .int z), (0, .ref 95), (1, .int tm), (2, .int (nI gn))]) dX12_findOut_8 rfl (Nat.le_of_ble_eq_true rfl) (fun _ => rfl) (fun x3_8 ex3_8 => ?_)
  exact l_X12_fo1 h hP h8 hg ht (2 ^ P - 1) 1 (by omega) (by omega) _ _ (by rw [hJ6, up_uprow]; rfl) (by rw [ex3_8]; rfl)
def eaM (T : Nat → Int32) (mn : Nat) : Nat → Int32
  | 0 => 1000000
  | s + 1 => if cnt s 32 = mn then iMin (eaM T mn s) (T s) else eaM T mn s
theorem eaM_cg {T T' : Nat → Int32} {mn : Nat} : ∀ n, (∀ s, s < n → T s = T' s) → eaM T mn n = eaM T' mn n := by
  intro n
  induction n with
  | zero => intro _; rfl
  | succ n ih =>
    intro h
    rw [eaM, eaM, ih (fun s hs => h s (by omega)), h n (by omega)]
theorem l_X12_earliest {mn : Nat} (hP : I 95 83 = nI P) (h8 : P ≤ 8) (hm : mn < 1000) : ∀ n s : Nat, s + n = 2 ^ P → ∀ b x : Int32, b = eaM (I 147) mn s → x.toInt = s → RR sc mX12_earliest 1 0 0 (rI (eaM (I 147) mn (2 ^ P)) (XW I L tg)) 0 0 6 [(3, .int x), (2, .int b), (0, .ref 95), (1, .int (nI mn))] [] (XW I L tg) := by
  have h256 := p2_le P h8
  have e9 : ((1 : Int32) <<< (I 95 83 &&& 31)).toInt = ((2 ^ P : Nat) : Int) := by rw [hP, s8_one P (by omega), nI_toInt (by omega)]
  intro n
  induction n with
  | zero =>
    intro s hs b x eb hx
    refine r_iload_n (j := 0) rfl rfl dX12_earliest_6 ?_
    refine r_iconst (v := 1) rfl dX12_earliest_7 ?_
    refine r_aload_n (j := 2) rfl rfl dX12_earliest_8 ?_
    refine w_getI fX12_541 rfl dX12_earliest_9 ?_
    refine r_ishl dX12_earliest_12 ?_
    refine r_icmp_ge (tgt := 41) dX12_earliest_13 (by decide) (fun c13 => ?_) (fun c13 => ?_)
    · refine r_iload_n (j := 1) rfl rfl dX12_earliest_41 ?_
      refine w_iret rfl (rfl) (Nat.le_of_ble_eq_true rfl) (Nat.le_of_ble_eq_true rfl) dX12_earliest_42 ?_
      exact ⟨by rw [eb, show s = 2 ^ P by omega], rfl, rfl, rfl⟩
    · exfalso; ((try simp only [bI_0, bI_1, lc_lt, lc_gt, lc_le, lc_ge, Classical.not_not] at *); (try simp only [i_lt, i_le, i_eq, l_lt, l_le, l_eq, Int32.toInt_toInt64, Int32.reduceToInt, Int64.reduceToInt] at *); omega)
  | succ n ih =>
    intro s hs b x eb hx
    have cs := cl_of hx
    obtain rfl := x_nI hx
    have hc := cnt_le s 32
    refine r_iload_n (j := 0) rfl rfl dX12_earliest_6 ?_
    refine r_iconst (v := 1) rfl dX12_earliest_7 ?_
    refine r_aload_n (j := 2) rfl rfl dX12_earliest_8 ?_
    refine w_getI fX12_541 rfl dX12_earliest_9 ?_
    refine r_ishl dX12_earliest_12 ?_
    refine r_icmp_ge (tgt := 41) dX12_earliest_13 (by decide) (fun c13 => ?_) (fun c13 => ?_)
    · exfalso; ((try simp only [bI_0, bI_1, lc_lt, lc_gt, lc_le, lc_ge, Classical.not_not] at *); (try simp only [i_lt, i_le, i_eq, l_lt, l_le, l_eq, Int32.toInt_toInt64, Int32.reduceToInt, Int64.reduceToInt] at *); omega)
    · refine r_iload_n (j := 0) rfl rfl dX12_earliest_16 ?_
      refine w_cS1p (k_X12_bits (s := s) rfl (by omega)) (Nat.le_of_ble_eq_true rfl) lX12_552 mtX12_bits (Nat.le_of_ble_eq_true rfl) (Nat.le_of_ble_eq_true rfl) (Nat.le_of_ble_eq_true rfl) dX12_earliest_17 ?_
      refine r_iload_n (j := 3) rfl rfl dX12_earliest_20 ?_
      refine r_icmp_ne (tgt := 35) dX12_earliest_21 (by decide) (fun c21 => ?_) (fun c21 => ?_)
      · refine r_iinc (j := 0) (lv' := fun z => [(3, .int z), (2, .int b), (0, .ref 95), (1, .int (nI mn))]) dX12_earliest_35 rfl (Nat.le_of_ble_eq_true rfl) (fun _ => rfl) (fun x3_35 ex3_35 => ?_)
        refine r_goto (tgt := 6) dX12_earliest_38 (by decide) ?_
        rw [nI_ij (by omega) (by omega)] at c21; exact ih (s + 1) (by omega) _ _ (by rw [eaM, if_neg c21]; exact eb) (by rw [ex3_35]; exact i_inc hx (by omega))
      · refine r_iload_n (j := 1) rfl rfl dX12_earliest_24 ?_
        refine r_aload_n (j := 2) rfl rfl dX12_earliest_25 ?_
        refine w_getR (b := 147) fX12_333 rfl rfl dX12_earliest_26 ?_
        refine r_iload_n (j := 0) rfl rfl dX12_earliest_29 ?_
        refine w_iald rfl (up_in hx (by omega)) dX12_earliest_30 ?_
        refine r_mmin lmX12_433 (Nat.le_of_ble_eq_true rfl) (Nat.le_of_ble_eq_true rfl) (Nat.le_of_ble_eq_true rfl) (Nat.le_of_ble_eq_true rfl) dX12_earliest_31 ?_
        refine r_istore_n (lv' := fun z => [(2, .int z), (3, .int (nI s)), (0, .ref 95), (1, .int (nI mn))]) dX12_earliest_34 rfl (Nat.le_of_ble_eq_true rfl) (fun _ => rfl) (fun x2_34 ex2_34 => ?_)
        refine r_iinc (j := 1) (lv' := fun z => [(3, .int z), (2, .int x2_34), (0, .ref 95), (1, .int (nI mn))]) dX12_earliest_35 rfl (Nat.le_of_ble_eq_true rfl) (fun _ => rfl) (fun x3_35 ex3_35 => ?_)
        refine r_goto (tgt := 6) dX12_earliest_38 (by decide) ?_
        rw [nI_ij (by omega) (by omega)] at c21; exact ih (s + 1) (by omega) _ _ (by rw [eaM, if_pos c21, ex2_34, cs, eb]) (by rw [ex3_35]; exact i_inc hx (by omega))
theorem k_X12_earliest {m : Int32} {mn : Nat} (em : m = nI mn) (hP : I 95 83 = nI P) (h8 : P ≤ 8) (hm : mn < 1000) : Con sc mX12_earliest 1 0 0 [.ref 95, .int m] (XW I L tg) (rI (eaM (I 147) mn (2 ^ P)) (XW I L tg)) := by
  subst em
  refine Con_of (by decide) (Nat.le_of_ble_eq_true rfl) ?_
  refine r_ldcw kX12_491 dX12_earliest_0 ?_
  refine r_istore_n (lv' := fun z => [(2, .int z), (0, .ref 95), (1, .int (nI mn))]) dX12_earliest_3 rfl (Nat.le_of_ble_eq_true rfl) (fun _ => rfl) (fun x2_3 ex2_3 => ?_)
  refine r_iconst (v := 0) rfl dX12_earliest_4 ?_
  refine r_istore_n (lv' := fun z => [(3, .int z), (2, .int x2_3), (0, .ref 95), (1, .int (nI mn))]) dX12_earliest_5 rfl (Nat.le_of_ble_eq_true rfl) (fun _ => rfl) (fun x3_5 ex3_5 => ?_)
  exact l_X12_earliest hP h8 hm _ 0 (Nat.zero_add _) _ _ (by rw [ex2_3]; rfl) (by rw [ex3_5]; rfl)
/-- may who lead? -/
def ldB (out : Nat → Int32 → Int32) (P sn : Nat) (tm : Int32) (mo : Nat) (goal : Int32) (w : Nat) : Bool := !sn.testBit w && decide (eaM (foT out P (sn ||| 2 ^ w) (out w tm) (fun _ => 0) (2 ^ P)) mo (2 ^ P) ≤ goal)
def ldF (I : Is) (L : Ls) (tg : Nat) (b : Bool) : Int32 → Is → Ls → Nat → Prop := fun v J K t => v = (if b then 1 else 0) ∧ (∃ R, J = upr I 147 R) ∧ K = L ∧ t = tg
theorem upr_id (I : Is) (a : Nat) : upr I a (I a) = I := by
  funext b
  by_cases h : b = a
  · subst h; rw [upr_s]
  · rw [upr_n _ _ h]
theorem k_X12_leads {w s tm m goal : Int32} {wn sn mo : Nat} (h : ntOk I P) (hP : I 95 83 = nI P) (h8 : P ≤ 8) (ew : w = nI wn) (hw : wn < P) (es : s = nI sn) (hs : sn < 256) (em : m = nI mo) (hm : mo < 1000) (ht : 0 ≤ tm.toInt ∧ tm.toInt ≤ 900000) : Con sc mX12_leads 2 0 0 [.ref 95, .int w, .int s, .int tm, .int m, .int goal] (XW I L tg) (gI (ldF I L tg (ldB (ouM I) P sn tm mo goal wn))) := by
  subst ew es em
  have ob := one_bit (s := sn) (h := wn) (by omega) (by omega)
  have q1 := ((ouM_ok h) wn hw).1 tm ht.1 (by omega)
  have e8 := s8_set sn hs wn (by omega)
  have hlt : sn ||| 2 ^ wn < 256 := by
    have : ∀ s, s < 256 → ∀ p, p < 8 → s ||| 2 ^ p < 256 := by decide +kernel
    exact this sn hs wn (by omega)
  have hwi : (nI wn).toInt = wn := nI_toInt (by omega)
  refine Con_of (by decide) (Nat.le_of_ble_eq_true rfl) ?_
  refine r_iload_n (j := 2) rfl rfl dX12_leads_0 ?_
  refine r_iload_n (j := 1) rfl rfl dX12_leads_1 ?_
  refine r_ishr dX12_leads_2 ?_
  refine r_iconst (v := 1) rfl dX12_leads_3 ?_
  refine r_iand dX12_leads_4 ?_
  refine r_iconst (v := 1) rfl dX12_leads_5 ?_
  refine r_icmp_ne (tgt := 11) dX12_leads_6 (by decide) (fun c6 => ?_) (fun c6 => ?_)
  · refine r_aload_n (j := 0) rfl rfl dX12_leads_11 ?_
    refine r_aload_n (j := 0) rfl rfl dX12_leads_12 ?_
    refine r_iload_n (j := 1) rfl rfl dX12_leads_13 ?_
    refine r_iload_n (j := 3) rfl rfl dX12_leads_14 ?_
    refine w_cV2p (k_X12_outBy h hwi hw h8 (by omega)) (Nat.le_of_ble_eq_true rfl) lX12_549 vmX12_outBy rfl (Nat.le_of_ble_eq_true rfl) (Nat.le_of_ble_eq_true rfl) (Nat.le_of_ble_eq_true rfl) dX12_leads_15 ?_
    refine r_iload_n (j := 2) rfl rfl dX12_leads_18 ?_
    refine r_iconst (v := 1) rfl dX12_leads_19 ?_
    refine r_iload_n (j := 1) rfl rfl dX12_leads_20 ?_
    refine r_ishl dX12_leads_21 ?_
    refine r_ior dX12_leads_22 ?_
    refine w_cV2v (k_X12_findOut h hP h8 e8 hlt (by omega)) (Nat.le_of_ble_eq_true rfl) lX12_555 vmX12_findOut rfl (Nat.le_of_ble_eq_true rfl) (Nat.le_of_ble_eq_true rfl) (Nat.le_of_ble_eq_true rfl) dX12_leads_23 (fun J23 K23 hJ23 hK23 => ?_)
    subst hK23
    refine r_aload_n (j := 0) rfl rfl dX12_leads_26 ?_
    refine r_iload (j := 4) rfl dX12_leads_27 ?_
    refine w_cV1p (k_X12_earliest rfl (by rw [hJ23, upr_n _ _ (by decide)]; exact hP) h8 hm) (Nat.le_of_ble_eq_true rfl) lX12_558 vmX12_earliest rfl (Nat.le_of_ble_eq_true rfl) (Nat.le_of_ble_eq_true rfl) (Nat.le_of_ble_eq_true rfl) dX12_leads_29 ?_
    refine r_iload (j := 5) rfl dX12_leads_32 ?_
    refine r_icmp_gt (tgt := 41) dX12_leads_34 (by decide) (fun c34 => ?_) (fun c34 => ?_)
    · refine r_iconst (v := 0) rfl dX12_leads_41 ?_
      refine w_iretG rfl (rfl) (Nat.le_of_ble_eq_true rfl) (Nat.le_of_ble_eq_true rfl) dX12_leads_42 ?_
      have ecg : eaM (J23 147) mo (2 ^ P) = eaM (foT (ouM I) P (sn ||| 2 ^ wn) (ouM I wn tm) (fun _ => 0) (2 ^ P)) mo (2 ^ P) := by
        rw [hJ23, upr_s]
        exact eaM_cg _ (fun s hs => foT_base s hs)
      rw [ecg] at c34
      refine ⟨?_, ⟨_, hJ23⟩, rfl, rfl⟩
      have hb : sn.testBit wn = false := by
        cases hq : sn.testBit wn with
        | false => rfl
        | true => exact absurd (ob.mpr hq) c6
      unfold ldB
      rw [hb]
      first
      | rw [decide_eq_true (Int32.not_lt.mp c34)]; rfl
      | rw [decide_eq_false (Int32.not_le.mpr c34)]; rfl
    · refine r_iconst (v := 1) rfl dX12_leads_37 ?_
      refine r_goto (tgt := 42) dX12_leads_38 (by decide) ?_
      refine w_iretG rfl (rfl) (Nat.le_of_ble_eq_true rfl) (Nat.le_of_ble_eq_true rfl) dX12_leads_42 ?_
      have ecg : eaM (J23 147) mo (2 ^ P) = eaM (foT (ouM I) P (sn ||| 2 ^ wn) (ouM I wn tm) (fun _ => 0) (2 ^ P)) mo (2 ^ P) := by
        rw [hJ23, upr_s]
        exact eaM_cg _ (fun s hs => foT_base s hs)
      rw [ecg] at c34
      refine ⟨?_, ⟨_, hJ23⟩, rfl, rfl⟩
      have hb : sn.testBit wn = false := by
        cases hq : sn.testBit wn with
        | false => rfl
        | true => exact absurd (ob.mpr hq) c6
      unfold ldB
      rw [hb]
      first
      | rw [decide_eq_true (Int32.not_lt.mp c34)]; rfl
      | rw [decide_eq_false (Int32.not_le.mpr c34)]; rfl
  · refine r_iconst (v := 0) rfl dX12_leads_9 ?_
    refine w_iretG rfl (rfl) (Nat.le_of_ble_eq_true rfl) (Nat.le_of_ble_eq_true rfl) dX12_leads_10 ?_
    refine ⟨?_, ⟨I 147, (upr_id I 147).symm⟩, rfl, rfl⟩
    have : ldB (ouM I) P sn tm mo goal wn = false := by unfold ldB; rw [ob.mp c6]; rfl
    rw [this]
    rfl
/-- how many can be out -/
def bmM (T : Nat → Int32) (P : Nat) (t : Int32) : Nat → Nat
  | 0 => 0
  | k + 1 => if eaM T (k + 1) (2 ^ P) ≤ t then k + 1 else bmM T P t k
theorem bmM_le (T : Nat → Int32) (P : Nat) (t : Int32) : ∀ k, bmM T P t k ≤ k := by
  intro k
  induction k with
  | zero => exact Nat.le_refl _
  | succ k ih => rw [bmM]; split <;> omega
/-- the row: who has gone and when it is; who goes -/
def chW (out : Nat → Int32 → Int32) (P mn : Nat) (goal : Int32) (q : Nat × Int32) (i : Nat) : Nat := nN (fsk (ldB out P q.1 q.2 (mn - i - 1) goal) P 0)
def brS (out : Nat → Int32 → Int32) (P mn : Nat) (goal : Int32) : Nat → Nat × Int32
  | 0 => (0, 0)
  | i + 1 => ((brS out P mn goal i).1 ||| 2 ^ chW out P mn goal (brS out P mn goal i) i, out (chW out P mn goal (brS out P mn goal i) i) (brS out P mn goal i).2)
def brW (out : Nat → Int32 → Int32) (P mn : Nat) (goal : Int32) (i : Nat) : Int32 := nI (chW out P mn goal (brS out P mn goal i) i)
def brO (out : Nat → Int32 → Int32) (P mn : Nat) (goal : Int32) (i : Nat) : Int32 := (brS out P mn goal (i + 1)).2
def mbI (I : Is) (P mn : Nat) (goal : Int32) (i : Nat) (R : Nat → Int32) : Is := upr (upr (upr I 148 (prf (brW (ouM I) P mn goal) i (I 148))) 149 (prf (brO (ouM I) P mn goal) i (I 149))) 147 R
theorem mb_147 (I : Is) (P mn : Nat) (goal : Int32) (i : Nat) (R R' : Nat → Int32) : upr (mbI I P mn goal i R) 147 R' = mbI I P mn goal i R' := by
  unfold mbI
  funext a
  by_cases h : a = 147
  · subst h; rw [upr_s, upr_s]
  · rw [upr_n _ _ h, upr_n _ _ h, upr_n _ _ h]
theorem mb_n (I : Is) (P mn : Nat) (goal : Int32) (i : Nat) (R : Nat → Int32) {q : Nat} (h : ¬ (147 ≤ q ∧ q ≤ 149)) : mbI I P mn goal i R q = I q := by
  unfold mbI
  rw [upr_n _ _ (by omega), upr_n _ _ (by omega), upr_n _ _ (by omega)]
theorem mb_s (I : Is) (P mn : Nat) (goal : Int32) (i : Nat) (R : Nat → Int32) : up (up (mbI I P mn goal i R) 148 i (brW (ouM I) P mn goal i)) 149 i (brO (ouM I) P mn goal i) = mbI I P mn goal (i + 1) R := by
  unfold mbI
  rw [← prf_s (brW (ouM I) P mn goal), ← prf_s (brO (ouM I) P mn goal)]
  funext q
  by_cases h1 : q = 148
  · subst h1; simp [up_eq, upr_eq]
  · by_cases h2 : q = 149
    · subst h2; simp [up_eq, upr_eq]
    · by_cases h3 : q = 147
      · subst h3; simp [up_eq, upr_eq]
      · simp [up_eq, upr_eq, h1, h2, h3]
theorem nt_mb {mn i : Nat} {goal : Int32} {R : Nat → Int32} (h : ntOk I P) : ntOk (mbI I P mn goal i R) P := by
  unfold ntOk
  rw [mb_n _ _ _ _ _ _ (show ¬ (147 ≤ 95 ∧ 95 ≤ 149) by decide), mb_n _ _ _ _ _ _ (show ¬ (147 ≤ 145 ∧ 145 ≤ 149) by decide), mb_n _ _ _ _ _ _ (show ¬ (147 ≤ 146 ∧ 146 ≤ 149) by decide), mb_n _ _ _ _ _ _ (show ¬ (147 ≤ 144 ∧ 144 ≤ 149) by decide)]
  exact h
theorem om_mb {mn i : Nat} {goal : Int32} {R : Nat → Int32} : ouM (mbI I P mn goal i R) = ouM I := by
  unfold ouM
  rw [mb_n _ _ _ _ _ _ (show ¬ (147 ≤ 95 ∧ 95 ≤ 149) by decide), mb_n _ _ _ _ _ _ (show ¬ (147 ≤ 145 ∧ 145 ≤ 149) by decide), mb_n _ _ _ _ _ _ (show ¬ (147 ≤ 146 ∧ 146 ≤ 149) by decide), mb_n _ _ _ _ _ _ (show ¬ (147 ≤ 144 ∧ 144 ≤ 149) by decide)]
/-- what best leaves -/
def beF (I : Is) (L : Ls) (tg P mn : Nat) (goal : Int32) : Int32 → Is → Ls → Nat → Prop := fun v J K t => v = nI mn ∧ (∃ R, J = up (mbI I P mn goal mn R) 95 91 (nI mn)) ∧ K = L ∧ t = tg
theorem l_X12_be3 {t goal tm sn : Int32} {mn i sN : Nat} (h : ntOk I P) (hP : I 95 83 = nI P) (h8 : P ≤ 8) (hmn : mn ≤ 8) (hi : i < mn) (es : sn = nI sN) (hs : sN < 256) (ht : 0 ≤ tm.toInt ∧ tm.toInt ≤ 900000) {cw : Nat} (hcw : cw < 8) {x6 : Int32} (e6 : x6 = nI i) {Q : Po}
    (K : ∀ R, RR sc mX12_best 3 0 0 Q 0 0 91 [(7, .int (nI cw)), (6, .int x6), (5, .int tm), (4, .int sn), (3, .int goal), (2, .int (nI mn)), (0, .ref 95), (1, .int t)] [] (XW (mbI I P mn goal i R) L tg)) : ∀ n w : Nat, w + n = P → fsk (ldB (ouM I) P sN tm (mn - i - 1) goal) n w = nI cw → ∀ (R : Nat → Int32) (x : Int32), x.toInt = w → RR sc mX12_best 3 0 0 Q 0 0 65 [(7, .int x), (6, .int x6), (5, .int tm), (4, .int sn), (3, .int goal), (2, .int (nI mn)), (0, .ref 95), (1, .int t)] [] (XW (mbI I P mn goal i R) L tg) := by
  have em : nI mn - x6 - 1 = nI (mn - i - 1) := by rw [e6, pk_sub (by omega), nI_pr (by omega)]
  have hcn : ¬ nI cw = -1 := nI_nn (by omega)
  intro n
  induction n with
  | zero =>
    intro w hw he R x hx
    exact absurd he.symm hcn
  | succ n ih =>
    intro w hw he R x hx
    obtain rfl := x_nI hx
    rw [fsk] at he
    refine r_aload_n (j := 6) rfl rfl dX12_best_65 ?_
    refine r_iload (j := 0) rfl dX12_best_66 ?_
    refine r_iload (j := 3) rfl dX12_best_68 ?_
    refine r_iload (j := 2) rfl dX12_best_70 ?_
    refine r_iload_n (j := 5) rfl rfl dX12_best_72 ?_
    refine r_iload (j := 1) rfl dX12_best_73 ?_
    refine r_isub dX12_best_75 ?_
    refine r_iconst (v := 1) rfl dX12_best_76 ?_
    refine r_isub dX12_best_77 ?_
    refine r_iload_n (j := 4) rfl rfl dX12_best_78 ?_
    refine w_cV5g (k_X12_leads (P := P) (nt_mb h) (by rw [mb_n _ _ _ _ _ _ (by decide)]; exact hP) h8 rfl (by omega) es hs em (by omega) ht) (Nat.le_of_ble_eq_true rfl) lX12_561 vmX12_leads rfl (Nat.le_of_ble_eq_true rfl) (Nat.le_of_ble_eq_true rfl) (Nat.le_of_ble_eq_true rfl) dX12_best_79 (fun v79 J79 K79 t79 h79 => ?_)
    obtain ⟨hv, ⟨R', hR⟩, hK, htg⟩ := h79; rw [om_mb] at hv; rw [mb_147] at hR; subst hR hK htg
    refine r_if_ne (tgt := 91) dX12_best_82 (by decide) (fun c82 => ?_) (fun c82 => ?_)
    · by_cases hl : ldB (ouM I) P sN tm (mn - i - 1) goal w = true
      · rw [if_pos hl] at he
        rw [he]
        exact K _
      · rw [hv, if_neg hl] at c82; exact absurd rfl c82
    · refine r_iinc (j := 0) (lv' := fun z => [(7, .int z), (6, .int x6), (5, .int tm), (4, .int sn), (3, .int goal), (2, .int (nI mn)), (0, .ref 95), (1, .int t)]) dX12_best_85 rfl (Nat.le_of_ble_eq_true rfl) (fun _ => rfl) (fun x7_85 ex7_85 => ?_)
      refine r_goto (tgt := 65) dX12_best_88 (by decide) ?_
      by_cases hl : ldB (ouM I) P sN tm (mn - i - 1) goal w = true
      · rw [hv, if_pos hl] at c82; exact absurd c82 (by decide)
      · rw [if_neg hl] at he
        exact ih (w + 1) (by omega) he _ _ (by rw [ex7_85]; exact i_inc hx (by omega))
theorem or_lt8 : ∀ s, s < 256 → ∀ p, p < 8 → s ||| 2 ^ p < 256 := by decide +kernel
theorem l_X12_be2 {t goal : Int32} {mn : Nat} (h : ntOk I P) (hP : I 95 83 = nI P) (h8 : P ≤ 8) (hmn : mn ≤ P) (hex : ∀ i, i < mn → ∃ w, w < P ∧ ldB (ouM I) P (brS (ouM I) P mn goal i).1 (brS (ouM I) P mn goal i).2 (mn - i - 1) goal w = true) : ∀ n i : Nat, i + n = mn → ∀ (R : Nat → Int32) (sn tm x : Int32), sn = nI (brS (ouM I) P mn goal i).1 → (brS (ouM I) P mn goal i).1 < 256 → tm = (brS (ouM I) P mn goal i).2 → (0 ≤ tm.toInt ∧ tm.toInt ≤ 1000 * i) → x.toInt = i → RR sc mX12_best 3 0 0 (gI (beF I L tg P mn goal)) 0 0 56 [(6, .int x), (5, .int tm), (4, .int sn), (3, .int goal), (2, .int (nI mn)), (0, .ref 95), (1, .int t)] [] (XW (mbI I P mn goal i R) L tg) := by
  have hmi : (nI mn).toInt = mn := nI_toInt (by omega)
  intro n
  induction n with
  | zero =>
    intro i hi R sn tm x es hs et ht hx
    have e : i = mn := by omega
    subst e
    refine r_iload (j := 0) rfl dX12_best_56 ?_
    refine r_iload_n (j := 4) rfl rfl dX12_best_58 ?_
    refine r_icmp_ge (tgt := 134) dX12_best_59 (by decide) (fun c59 => ?_) (fun c59 => ?_)
    · refine r_aload_n (j := 5) rfl rfl dX12_best_134 ?_
      refine r_iload_n (j := 4) rfl rfl dX12_best_135 ?_
      refine w_putI fX12_391 rfl (rfl) (rfl) dX12_best_136 (fun J136 hJ136 => ?_)
      refine r_iload_n (j := 4) rfl rfl dX12_best_139 ?_
      refine w_iretG rfl (rfl) (Nat.le_of_ble_eq_true rfl) (Nat.le_of_ble_eq_true rfl) dX12_best_140 ?_
      exact ⟨rfl, ⟨R, hJ136⟩, rfl, rfl⟩
    · exfalso; ((try simp only [bI_0, bI_1, lc_lt, lc_gt, lc_le, lc_ge, Classical.not_not] at *); (try simp only [i_lt, i_le, i_eq, l_lt, l_le, l_eq, Int32.toInt_toInt64, Int32.reduceToInt, Int64.reduceToInt] at *); omega)
  | succ n ih =>
    intro i hi R sn tm x es hs et ht hx
    have cx := cl_of hx
    have hin := up_in (N := 8) hx (by omega)
    obtain ⟨w0, hw0, hl0⟩ := hex i (by omega)
    obtain ⟨cw, hcwP, hfs, hcw2⟩ : ∃ cw, cw < P ∧ fsk (ldB (ouM I) P (brS (ouM I) P mn goal i).1 (brS (ouM I) P mn goal i).2 (mn - i - 1) goal) P 0 = nI cw ∧ chW (ouM I) P mn goal (brS (ouM I) P mn goal i) i = cw := by
      rcases fsk_rng (ldB (ouM I) P (brS (ouM I) P mn goal i).1 (brS (ouM I) P mn goal i).2 (mn - i - 1) goal) P 0 with ⟨-, g2⟩ | ⟨j, g1, g2, g3, -⟩
      · exact absurd hl0 (by rw [g2 w0 (by omega) (by omega)]; decide)
      · refine ⟨j, by omega, g3, ?_⟩
        unfold chW nN
        rw [g3, nI_clamp (by omega)]
    have hcwi : (nI cw).toInt = cw := nI_toInt (by omega)
    have q1 := ((ouM_ok h) cw hcwP).1 tm ht.1 (by omega)
    obtain rfl := x_nI hx
    refine r_iload (j := 0) rfl dX12_best_56 ?_
    refine r_iload_n (j := 4) rfl rfl dX12_best_58 ?_
    refine r_icmp_ge (tgt := 134) dX12_best_59 (by decide) (fun c59 => ?_) (fun c59 => ?_)
    · exfalso; ((try simp only [bI_0, bI_1, lc_lt, lc_gt, lc_le, lc_ge, Classical.not_not] at *); (try simp only [i_lt, i_le, i_eq, l_lt, l_le, l_eq, Int32.toInt_toInt64, Int32.reduceToInt, Int64.reduceToInt] at *); omega)
    · refine r_iconst (v := 0) rfl dX12_best_62 ?_
      refine r_istore (lv' := fun z => [(7, .int z), (6, .int (nI i)), (5, .int tm), (4, .int sn), (3, .int goal), (2, .int (nI mn)), (0, .ref 95), (1, .int t)]) dX12_best_63 (Nat.le_of_ble_eq_true rfl) (fun _ => rfl) (fun x7_63 ex7_63 => ?_)
      rw [← et] at hfs
      refine l_X12_be3 (i := i) (cw := cw) h hP h8 (by omega) (by omega) es hs (by omega) (by omega) rfl ?_ P 0 (Nat.zero_add _) hfs _ _ (by rw [ex7_63]; rfl)
      intro R2
      refine r_aload_n (j := 6) rfl rfl dX12_best_91 ?_
      refine w_getR (b := 148) fX12_336 rfl rfl dX12_best_92 ?_
      refine r_iload (j := 1) rfl dX12_best_95 ?_
      refine r_iload (j := 0) rfl dX12_best_97 ?_
      refine w_iast rfl (by first | assumption | (rw [vp_in_iff]; ((try simp only [bI_0, bI_1, lc_lt, lc_gt, lc_le, lc_ge, Classical.not_not] at *); (try simp only [i_lt, i_le, i_eq, l_lt, l_le, l_eq, Int32.toInt_toInt64, Int32.reduceToInt, Int64.reduceToInt] at *); omega))) dX12_best_99 (fun J99 hJ99 => ?_)
      refine r_aload_n (j := 6) rfl rfl dX12_best_100 ?_
      refine r_iload (j := 0) rfl dX12_best_101 ?_
      refine r_iload (j := 2) rfl dX12_best_103 ?_
      refine w_cV2p (k_X12_outBy (P := P) (by rw [hJ99]; unfold ntOk; rw [up_n _ _ _ (show (95 : Nat) ≠ 148 by decide), up_n _ _ _ (show (145 : Nat) ≠ 148 by decide), up_n _ _ _ (show (146 : Nat) ≠ 148 by decide), up_n _ _ _ (show (144 : Nat) ≠ 148 by decide)]; exact nt_mb h) hcwi hcwP h8 (by omega)) (Nat.le_of_ble_eq_true rfl) lX12_549 vmX12_outBy rfl (Nat.le_of_ble_eq_true rfl) (Nat.le_of_ble_eq_true rfl) (Nat.le_of_ble_eq_true rfl) dX12_best_105 ?_
      refine r_istore (lv' := fun z => [(5, .int z), (7, .int (nI cw)), (6, .int (nI i)), (4, .int sn), (3, .int goal), (2, .int (nI mn)), (0, .ref 95), (1, .int t)]) dX12_best_108 (Nat.le_of_ble_eq_true rfl) (fun _ => rfl) (fun x5_108 ex5_108 => ?_)
      refine r_aload_n (j := 6) rfl rfl dX12_best_110 ?_
      refine w_getR (b := 149) fX12_339 rfl rfl dX12_best_111 ?_
      refine r_iload (j := 2) rfl dX12_best_114 ?_
      refine r_iload (j := 0) rfl dX12_best_116 ?_
      refine w_iast rfl (by first | assumption | (rw [vp_in_iff]; ((try simp only [bI_0, bI_1, lc_lt, lc_gt, lc_le, lc_ge, Classical.not_not] at *); (try simp only [i_lt, i_le, i_eq, l_lt, l_le, l_eq, Int32.toInt_toInt64, Int32.reduceToInt, Int64.reduceToInt] at *); omega))) dX12_best_118 (fun J118 hJ118 => ?_)
      refine r_iload (j := 3) rfl dX12_best_119 ?_
      refine r_iconst (v := 1) rfl dX12_best_121 ?_
      refine r_iload (j := 1) rfl dX12_best_122 ?_
      refine r_ishl dX12_best_124 ?_
      refine r_ior dX12_best_125 ?_
      refine r_istore (lv' := fun z => [(4, .int z), (5, .int x5_108), (7, .int (nI cw)), (6, .int (nI i)), (3, .int goal), (2, .int (nI mn)), (0, .ref 95), (1, .int t)]) dX12_best_126 (Nat.le_of_ble_eq_true rfl) (fun _ => rfl) (fun x4_126 ex4_126 => ?_)
      refine r_iinc (j := 3) (lv' := fun z => [(6, .int z), (4, .int x4_126), (5, .int x5_108), (7, .int (nI cw)), (3, .int goal), (2, .int (nI mn)), (0, .ref 95), (1, .int t)]) dX12_best_128 rfl (Nat.le_of_ble_eq_true rfl) (fun _ => rfl) (fun x6_128 ex6_128 => ?_)
      refine r_goto (tgt := 56) dX12_best_131 (by decide) ?_
      refine r_lvs [(6, .int x6_128), (5, .int x5_108), (4, .int x4_126), (3, .int goal), (2, .int (nI mn)), (0, .ref 95), (1, .int t)] [0, 2, 1, 4, 5, 6, 7] rfl ?_
      have eo : ouM J99 = ouM I := by
        rw [hJ99]
        unfold ouM
        rw [up_n _ _ _ (show (95 : Nat) ≠ 148 by decide), up_n _ _ _ (show (145 : Nat) ≠ 148 by decide), up_n _ _ _ (show (146 : Nat) ≠ 148 by decide), up_n _ _ _ (show (144 : Nat) ≠ 148 by decide)]
        exact om_mb
      rw [eo] at ex5_108
      have e2 : x5_108 = (brS (ouM I) P mn goal (i + 1)).2 := by rw [ex5_108, brS, hcw2, et]
      have e1 : x4_126 = nI (brS (ouM I) P mn goal (i + 1)).1 := by rw [ex4_126, es, s8_set _ hs cw (by omega), brS, hcw2]
      have eJ : J118 = mbI I P mn goal (i + 1) R2 := by
        rw [hJ118, hJ99, cx, e2, ← mb_s]
        show up (up _ 148 i (nI cw)) 149 i _ = up (up _ 148 i (brW (ouM I) P mn goal i)) 149 i _
        unfold brW
        rw [hcw2]
        rfl
      rw [eJ]
      refine ih (i + 1) (by omega) R2 _ _ _ e1 ?_ e2 ?_ (by rw [ex6_128]; exact i_inc hx (by omega))
      · rw [brS, hcw2]; exact or_lt8 _ hs cw (by omega)
      · rw [ex5_108]; omega
theorem l_X12_be1 {t : Int32} (h : ntOk I P) (hP : I 95 83 = nI P) (h8 : P ≤ 8) (h0 : eaM (I 147) 0 (2 ^ P) ≤ t) {Q : Po}
    (K : RR sc mX12_best 3 0 0 Q 0 0 41 [(2, .int (nI (bmM (I 147) P t P))), (0, .ref 95), (1, .int t)] [] (XW I L tg)) : ∀ k, k ≤ P → bmM (I 147) P t k = bmM (I 147) P t P → ∀ x : Int32, x = nI k → RR sc mX12_best 3 0 0 Q 0 0 26 [(2, .int x), (0, .ref 95), (1, .int t)] [] (XW I L tg) := by
  intro k
  induction k with
  | zero =>
    intro hk he x hx
    subst hx
    refine r_aload_n (j := 1) rfl rfl dX12_best_26 ?_
    refine r_iload_n (j := 0) rfl rfl dX12_best_27 ?_
    refine w_cV1p (k_X12_earliest rfl hP h8 (by omega)) (Nat.le_of_ble_eq_true rfl) lX12_558 vmX12_earliest rfl (Nat.le_of_ble_eq_true rfl) (Nat.le_of_ble_eq_true rfl) (Nat.le_of_ble_eq_true rfl) dX12_best_28 ?_
    refine r_iload_n (j := 2) rfl rfl dX12_best_31 ?_
    refine r_icmp_le (tgt := 41) dX12_best_32 (by decide) (fun c32 => ?_) (fun c32 => ?_)
    · rw [← he] at K; exact K
    · exact absurd h0 c32
  | succ k ih =>
    intro hk he x hx
    subst hx
    rw [bmM] at he
    refine r_aload_n (j := 1) rfl rfl dX12_best_26 ?_
    refine r_iload_n (j := 0) rfl rfl dX12_best_27 ?_
    refine w_cV1p (k_X12_earliest rfl hP h8 (by omega)) (Nat.le_of_ble_eq_true rfl) lX12_558 vmX12_earliest rfl (Nat.le_of_ble_eq_true rfl) (Nat.le_of_ble_eq_true rfl) (Nat.le_of_ble_eq_true rfl) dX12_best_28 ?_
    refine r_iload_n (j := 2) rfl rfl dX12_best_31 ?_
    refine r_icmp_le (tgt := 41) dX12_best_32 (by decide) (fun c32 => ?_) (fun c32 => ?_)
    · rw [if_pos c32] at he; rw [← he] at K; exact K
    · refine r_iinc (j := 0) (lv' := fun z => [(2, .int z), (0, .ref 95), (1, .int t)]) dX12_best_35 rfl (Nat.le_of_ble_eq_true rfl) (fun _ => rfl) (fun x2_35 ex2_35 => ?_)
      refine r_goto (tgt := 26) dX12_best_38 (by decide) ?_
      rw [if_neg c32] at he; exact ih (by omega) he _ (by rw [ex2_35]; exact pk_m1 k)
theorem k_X12_best_r {t : Int32} (hc : ¬ (0 ≤ t.toInt ∧ t.toInt ≤ 999)) : Con sc mX12_best 3 0 0 [.ref 95, .int t] (XW I L tg) (rI (-2) (XW I L tg)) := by
  refine Con_of (by decide) (Nat.le_of_ble_eq_true rfl) ?_
  refine r_iload_n (j := 1) rfl rfl dX12_best_0 ?_
  refine r_i2l dX12_best_1 ?_
  refine r_lconst (v := 0) rfl dX12_best_2 ?_
  refine r_ldc2 kX12_500 dX12_best_3 ?_
  refine w_cS3p (k_X12_in) (Nat.le_of_ble_eq_true rfl) lX12_52 mtX12_in (Nat.le_of_ble_eq_true rfl) (Nat.le_of_ble_eq_true rfl) (Nat.le_of_ble_eq_true rfl) dX12_best_6 ?_
  refine r_if_ne (tgt := 15) dX12_best_9 (by decide) (fun c9 => ?_) (fun c9 => ?_)
  · exact absurd (by have := bI_1.mp c9; rw [Int32.toInt_toInt64] at this; exact this) hc
  · refine r_bipush (v := (-2)) rfl dX12_best_12 ?_
    refine w_iret rfl (rfl) (Nat.le_of_ble_eq_true rfl) (Nat.le_of_ble_eq_true rfl) dX12_best_14 ?_
    exact ⟨rfl, rfl, rfl, rfl⟩
/-- the table of the night, the most, their time -/
def nT0 (out : Nat → Int32 → Int32) (P : Nat) : Nat → Int32 := foT out P 0 0 (fun _ => 0) (2 ^ P)
def nMn (out : Nat → Int32 → Int32) (P : Nat) (t : Int32) : Nat := bmM (nT0 out P) P t P
def nGo (out : Nat → Int32 → Int32) (P : Nat) (t : Int32) : Int32 := eaM (nT0 out P) (nMn out P t) (2 ^ P)
theorem bmM_cg {T T' : Nat → Int32} {t : Int32} (h : ∀ s, s < 2 ^ P → T s = T' s) : ∀ k, bmM T P t k = bmM T' P t k := by
  intro k
  induction k with
  | zero => rfl
  | succ k ih => rw [bmM, bmM, ih, eaM_cg _ h]
theorem k_X12_best_y {t : Int32} (hc : 0 ≤ t.toInt ∧ t.toInt ≤ 999) (h : ntOk I P) (hP : I 95 83 = nI P) (h8 : P ≤ 8) (h0 : eaM (nT0 (ouM I) P) 0 (2 ^ P) ≤ t) (hex : ∀ i, i < nMn (ouM I) P t → ∃ w, w < P ∧ ldB (ouM I) P (brS (ouM I) P (nMn (ouM I) P t) (nGo (ouM I) P t) i).1 (brS (ouM I) P (nMn (ouM I) P t) (nGo (ouM I) P t) i).2 (nMn (ouM I) P t - i - 1) (nGo (ouM I) P t) w = true) : Con sc mX12_best 3 0 0 [.ref 95, .int t] (XW I L tg) (gI (beF I L tg P (nMn (ouM I) P t) (nGo (ouM I) P t))) := by
  have hle : nMn (ouM I) P t ≤ P := bmM_le _ _ _ _
  refine Con_of (by decide) (Nat.le_of_ble_eq_true rfl) ?_
  refine r_iload_n (j := 1) rfl rfl dX12_best_0 ?_
  refine r_i2l dX12_best_1 ?_
  refine r_lconst (v := 0) rfl dX12_best_2 ?_
  refine r_ldc2 kX12_500 dX12_best_3 ?_
  refine w_cS3p (k_X12_in) (Nat.le_of_ble_eq_true rfl) lX12_52 mtX12_in (Nat.le_of_ble_eq_true rfl) (Nat.le_of_ble_eq_true rfl) (Nat.le_of_ble_eq_true rfl) dX12_best_6 ?_
  refine r_if_ne (tgt := 15) dX12_best_9 (by decide) (fun c9 => ?_) (fun c9 => ?_)
  · refine r_aload_n (j := 0) rfl rfl dX12_best_15 ?_
    refine r_iconst (v := 0) rfl dX12_best_16 ?_
    refine r_iconst (v := 0) rfl dX12_best_17 ?_
    refine w_cV2v (k_X12_findOut (gn := 0) h hP h8 rfl (by decide) (by decide)) (Nat.le_of_ble_eq_true rfl) lX12_555 vmX12_findOut rfl (Nat.le_of_ble_eq_true rfl) (Nat.le_of_ble_eq_true rfl) (Nat.le_of_ble_eq_true rfl) dX12_best_18 (fun J18 K18 hJ18 hK18 => ?_)
    subst hK18
    refine r_aload_n (j := 0) rfl rfl dX12_best_21 ?_
    refine w_getI fX12_541 rfl dX12_best_22 ?_
    refine r_istore_n (lv' := fun z => [(2, .int z), (0, .ref 95), (1, .int t)]) dX12_best_25 rfl (Nat.le_of_ble_eq_true rfl) (fun _ => rfl) (fun x2_25 ex2_25 => ?_)
    have hT : ∀ s, s < 2 ^ P → J18 147 s = nT0 (ouM I) P s := fun s hs => by rw [hJ18, upr_s]; exact foT_base s hs
    have e83 : J18 95 83 = nI P := by rw [hJ18, upr_n _ _ (by decide)]; exact hP
    have hb : bmM (J18 147) P t P = nMn (ouM I) P t := bmM_cg hT P
    have hg : eaM (J18 147) (nMn (ouM I) P t) (2 ^ P) = nGo (ouM I) P t := eaM_cg _ hT
    refine l_X12_be1 (P := P) (by rw [hJ18]; exact nt_u h) e83 h8 (by rw [eaM_cg _ hT]; exact h0) ?_ P (Nat.le_refl _) rfl _ (by rw [ex2_25]; exact e83)
    rw [hb]
    refine r_aload_n (j := 1) rfl rfl dX12_best_41 ?_
    refine r_iload_n (j := 0) rfl rfl dX12_best_42 ?_
    refine w_cV1p (k_X12_earliest rfl e83 h8 (by omega)) (Nat.le_of_ble_eq_true rfl) lX12_558 vmX12_earliest rfl (Nat.le_of_ble_eq_true rfl) (Nat.le_of_ble_eq_true rfl) (Nat.le_of_ble_eq_true rfl) dX12_best_43 ?_
    refine r_istore_n (lv' := fun z => [(3, .int z), (2, .int (nI (nMn (ouM I) P t))), (0, .ref 95), (1, .int t)]) dX12_best_46 rfl (Nat.le_of_ble_eq_true rfl) (fun _ => rfl) (fun x3_46 ex3_46 => ?_)
    refine r_iconst (v := 0) rfl dX12_best_47 ?_
    refine r_istore (lv' := fun z => [(4, .int z), (3, .int x3_46), (2, .int (nI (nMn (ouM I) P t))), (0, .ref 95), (1, .int t)]) dX12_best_48 (Nat.le_of_ble_eq_true rfl) (fun _ => rfl) (fun x4_48 ex4_48 => ?_)
    refine r_iconst (v := 0) rfl dX12_best_50 ?_
    refine r_istore (lv' := fun z => [(5, .int z), (4, .int x4_48), (3, .int x3_46), (2, .int (nI (nMn (ouM I) P t))), (0, .ref 95), (1, .int t)]) dX12_best_51 (Nat.le_of_ble_eq_true rfl) (fun _ => rfl) (fun x5_51 ex5_51 => ?_)
    refine r_iconst (v := 0) rfl dX12_best_53 ?_
    refine r_istore (lv' := fun z => [(6, .int z), (5, .int x5_51), (4, .int x4_48), (3, .int x3_46), (2, .int (nI (nMn (ouM I) P t))), (0, .ref 95), (1, .int t)]) dX12_best_54 (Nat.le_of_ble_eq_true rfl) (fun _ => rfl) (fun x6_54 ex6_54 => ?_)
    rw [hg] at ex3_46
    subst ex3_46
    have eJ : J18 = mbI I P (nMn (ouM I) P t) (nGo (ouM I) P t) 0 (J18 147) := by
      unfold mbI
      rw [prf_0, prf_0, upr_id, upr_id, hJ18, upr_s]
    rw [eJ]
    exact l_X12_be2 h hP h8 hle hex _ 0 (Nat.zero_add _) _ _ _ _ (by rw [ex4_48]; rfl) (show (0 : Nat) < 256 by decide) (by rw [ex5_51]; rfl) (by rw [ex5_51]; decide) (by rw [ex6_54]; rfl)
  · refine absurd ?_ (bI_0.mp c9); rw [Int32.toInt_toInt64]; exact hc
def gmC (I : Is) (i : Int32) : Prop := 0 ≤ i.toInt ∧ i.toInt < (I 95 91).toInt
theorem k_X12_goes_r {i w : Int32} (hc : ¬ gmC I i) : Con sc mX12_goes 1 0 0 [.ref 95, .int i, .int w] (XW I L tg) (rI (-1) (XW I L tg)) := by
  refine Con_of (by decide) (Nat.le_of_ble_eq_true rfl) ?_
  refine r_iload_n (j := 1) rfl rfl dX12_goes_0 ?_
  refine r_i2l dX12_goes_1 ?_
  refine r_lconst (v := 0) rfl dX12_goes_2 ?_
  refine r_aload_n (j := 0) rfl rfl dX12_goes_3 ?_
  refine w_getI fX12_391 rfl dX12_goes_4 ?_
  refine r_i2l dX12_goes_7 ?_
  refine r_lconst (v := 1) rfl dX12_goes_8 ?_
  refine r_lsub dX12_goes_9 ?_
  refine w_cS3p (k_X12_in) (Nat.le_of_ble_eq_true rfl) lX12_52 mtX12_in (Nat.le_of_ble_eq_true rfl) (Nat.le_of_ble_eq_true rfl) (Nat.le_of_ble_eq_true rfl) dX12_goes_10 ?_
  refine r_if_ne (tgt := 20) dX12_goes_13 (by decide) (fun c13 => ?_) (fun c13 => ?_)
  · have h := bI_1.mp c13
    rw [Int32.toInt_toInt64, x64_sub _ _ (by decide)] at h
    have h : 0 ≤ i.toInt ∧ i.toInt ≤ (I 95 91).toInt - 1 := h
    exact absurd ⟨h.1, by omega⟩ hc
  · refine r_iconst (v := (-1)) rfl dX12_goes_16 ?_
    refine r_goto (tgt := 48) dX12_goes_17 (by decide) ?_
    refine w_iret rfl (rfl) (Nat.le_of_ble_eq_true rfl) (Nat.le_of_ble_eq_true rfl) dX12_goes_48 ?_
    exact ⟨rfl, rfl, rfl, rfl⟩
theorem k_X12_goes_y {i w : Int32} {k : Nat} (hc : gmC I i) (ei : i.toInt = k) (h8 : k < 8) : Con sc mX12_goes 1 0 0 [.ref 95, .int i, .int w] (XW I L tg) (rI (if w = 0 then I 148 k else if w = 1 then I 149 k else -1) (XW I L tg)) := by
  refine Con_of (by decide) (Nat.le_of_ble_eq_true rfl) ?_
  have ci := cl_of ei
  have hin := up_in ei h8
  refine r_iload_n (j := 1) rfl rfl dX12_goes_0 ?_
  refine r_i2l dX12_goes_1 ?_
  refine r_lconst (v := 0) rfl dX12_goes_2 ?_
  refine r_aload_n (j := 0) rfl rfl dX12_goes_3 ?_
  refine w_getI fX12_391 rfl dX12_goes_4 ?_
  refine r_i2l dX12_goes_7 ?_
  refine r_lconst (v := 1) rfl dX12_goes_8 ?_
  refine r_lsub dX12_goes_9 ?_
  refine w_cS3p (k_X12_in) (Nat.le_of_ble_eq_true rfl) lX12_52 mtX12_in (Nat.le_of_ble_eq_true rfl) (Nat.le_of_ble_eq_true rfl) (Nat.le_of_ble_eq_true rfl) dX12_goes_10 ?_
  refine r_if_ne (tgt := 20) dX12_goes_13 (by decide) (fun c13 => ?_) (fun c13 => ?_)
  · refine r_iload_n (j := 2) rfl rfl dX12_goes_20 ?_
    refine r_if_ne (tgt := 33) dX12_goes_21 (by decide) (fun c21 => ?_) (fun c21 => ?_)
    · refine r_iload_n (j := 2) rfl rfl dX12_goes_33 ?_
      refine r_iconst (v := 1) rfl dX12_goes_34 ?_
      refine r_icmp_ne (tgt := 47) dX12_goes_35 (by decide) (fun c35 => ?_) (fun c35 => ?_)
      · refine r_iconst (v := (-1)) rfl dX12_goes_47 ?_
        refine w_iret rfl (rfl) (Nat.le_of_ble_eq_true rfl) (Nat.le_of_ble_eq_true rfl) dX12_goes_48 ?_
        exact ⟨by first | (rw [if_pos c21, ci]) | (rw [if_neg c21, if_pos c35, ci]) | (rw [if_neg c21, if_neg c35]), rfl, rfl, rfl⟩
      · refine r_aload_n (j := 0) rfl rfl dX12_goes_38 ?_
        refine w_getR (b := 149) fX12_339 rfl rfl dX12_goes_39 ?_
        refine r_iload_n (j := 1) rfl rfl dX12_goes_42 ?_
        refine w_iald rfl (by first | assumption | (rw [vp_in_iff]; ((try simp only [bI_0, bI_1, lc_lt, lc_gt, lc_le, lc_ge, Classical.not_not] at *); (try simp only [i_lt, i_le, i_eq, l_lt, l_le, l_eq, Int32.toInt_toInt64, Int32.reduceToInt, Int64.reduceToInt] at *); omega))) dX12_goes_43 ?_
        refine r_goto (tgt := 48) dX12_goes_44 (by decide) ?_
        refine w_iret rfl (rfl) (Nat.le_of_ble_eq_true rfl) (Nat.le_of_ble_eq_true rfl) dX12_goes_48 ?_
        exact ⟨by first | (rw [if_pos c21, ci]) | (rw [if_neg c21, if_pos c35, ci]) | (rw [if_neg c21, if_neg c35]), rfl, rfl, rfl⟩
    · refine r_aload_n (j := 0) rfl rfl dX12_goes_24 ?_
      refine w_getR (b := 148) fX12_336 rfl rfl dX12_goes_25 ?_
      refine r_iload_n (j := 1) rfl rfl dX12_goes_28 ?_
      refine w_iald rfl (by first | assumption | (rw [vp_in_iff]; ((try simp only [bI_0, bI_1, lc_lt, lc_gt, lc_le, lc_ge, Classical.not_not] at *); (try simp only [i_lt, i_le, i_eq, l_lt, l_le, l_eq, Int32.toInt_toInt64, Int32.reduceToInt, Int64.reduceToInt] at *); omega))) dX12_goes_29 ?_
      refine r_goto (tgt := 48) dX12_goes_30 (by decide) ?_
      refine w_iret rfl (rfl) (Nat.le_of_ble_eq_true rfl) (Nat.le_of_ble_eq_true rfl) dX12_goes_48 ?_
      exact ⟨by first | (rw [if_pos c21, ci]) | (rw [if_neg c21, if_pos c35, ci]) | (rw [if_neg c21, if_neg c35]), rfl, rfl, rfl⟩
  · exfalso
    apply bI_0.mp c13
    rw [Int32.toInt_toInt64, x64_sub _ _ (by decide)]
    have := hc.2
    exact ⟨hc.1, by show _ ≤ (I 95 91).toInt - 1; omega⟩
end
