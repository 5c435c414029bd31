/-! giveTo: the walk -/
section
variable {sc : Sc} {I : Is} {L : Ls} {tg : Nat} {G : Gx} {b : Bool} {p o u : Nat}
def clx (G : Gx) (b : Bool) (e : Nat) (I J : Is) : Prop := ∀ x, x < 15 → x ≠ e → ¬ aske I x → aske J x → sat G (mof I) x ∧ ∀ q, q < gS G → I 133 q = srcv x → ∀ y, rch G b y q → aske J y
theorem clx_step {e q : Nat} {J J' : Is} (hS : SB [135] I J) (h : clx G b e I J) (hN : gtN G b q J J') (hm : ∀ x, aske J x → aske J' x) : clx G b e I J' := by
  intro x hx hne h1 h2
  obtain ⟨-, -, hc⟩ := hN
  by_cases ha : aske J x
  · obtain ⟨a1, a2⟩ := h x hx hne h1 ha
    exact ⟨a1, fun q hq hqx y hy => hm y (a2 q hq hqx y hy)⟩
  · obtain ⟨a1, a2⟩ := hc x hx ha h2
    rw [mof_135 hS] at a1
    rw [hS 133 (by decide)] at a2
    exact ⟨a1, a2⟩
theorem SB1 {J J' : Is} (h1 : SB [135] I J) (h2 : SB [133, 134, 135, 136] J J') : SB [133, 134, 135, 136] I J' := (h1.mono (by decide)).tr h2
theorem l_gt3 {h : Nat} (g : gOk G I) (hv : Vl G (mof I) 99) (hp : p < gS G) (ho : srcO (mof I) p o) (hoa : o = 99 ∨ aske I o) (hb : b = true) (hh : h < gH G) (hct : gct G h = true) (hc : gcn G h (gsh G p) = true) (hns : ¬ aske I (10 + h)) (hfull : (gcp G h : Int) ≤ (I 134 h).toInt) {J1 : Is} (hm1 : ∀ x, aske I x → aske J1 x) (ha1 : aske J1 (10 + h)) (hun : uns J1 < u)
    (IH : ∀ (J : Is) (q : Nat), gOk G J → Vl G (mof J) 99 → q < gS G → (∃ o, srcO (mof J) q o ∧ (o = 99 ∨ aske J o)) → uns J < u → Con sc mX12_giveTo u 0 0 [.ref 95, .int (nI q), .int (if b then 1 else 0)] (XW J L tg) (gI (gtF G b q J L tg)))
    (K : ∀ (J : Is) (x4 : Int32), SB [135] I J → (∀ x, aske J1 x → aske J x) → (∀ q, q < gS G → I 133 q = srcv (10 + h) → ∀ y, rch G b y q → aske J y) → clx G b (10 + h) I J → RR sc mX12_giveTo (u + 1) 0 0 (gI (gtF G b p I L tg)) 0 0 256 [(4, .int x4), (3, .int (nI h)), (0, .ref 95), (1, .int (nI p)), (2, .int (if b then 1 else 0))] [] (XW J L tg)) : ∀ n k : Nat, k + n = gS G → ∀ (J : Is) (x : Int32), SB [135] I J → (∀ x, aske J1 x → aske J x) → (∀ q, q < k → I 133 q = srcv (10 + h) → ∀ y, rch G b y q → aske J y) → clx G b (10 + h) I J → x.toInt = k → RR sc mX12_giveTo (u + 1) 0 0 (gI (gtF G b p I L tg)) 0 0 202 [(4, .int x), (3, .int (nI h)), (0, .ref 95), (1, .int (nI p)), (2, .int (if b then 1 else 0))] [] (XW J L tg) := by
  obtain ⟨gs1, gs2, gs3, gs4, -⟩ := id g
  have e100 : (100 : Int32) + nI h = nI (100 + h) := nI_add 100 h
  have hpi : (nI p).toInt = p := nI_toInt (by omega)
  intro n
  induction n with
  | zero =>
    intro k hk J x hS hm hq hx1 hx
    have jS : J 95 65 = nI (gS G) := by rw [hS 95 (by decide)]; exact gs1
    have jSi : (J 95 65).toInt = gS G := by rw [jS, nI_toInt (by omega)]
    refine r_iload (j := 0) rfl dX12_giveTo_202 ?_
    refine r_aload_n (j := 2) rfl rfl dX12_giveTo_204 ?_
    refine w_getI fX12_464 rfl dX12_giveTo_205 ?_
    refine r_icmp_ge (tgt := 256) dX12_giveTo_208 (by decide) (fun c208 => ?_) (fun c208 => ?_)
    · exact K _ _ hS hm (fun q hq2 => hq q (by omega)) hx1
    · exfalso; ((try simp only [bI_0, bI_1, lc_lt, lc_gt, lc_le, lc_ge, Classical.not_not] at *); (try simp only [i_lt, i_le, i_eq, l_lt, l_le, l_eq, Int32.toInt_toInt64, Int32.reduceToInt, Int64.reduceToInt] at *); omega)
  | succ n ih =>
    intro k hk J x hS hm hq hx1 hx
    have cx := cl_of hx
    have hin := up_in (N := 10) hx (by omega)
    have jS : J 95 65 = nI (gS G) := by rw [hS 95 (by decide)]; exact gs1
    have jSi : (J 95 65).toInt = gS G := by rw [jS, nI_toInt (by omega)]
    have j133 : J 133 = I 133 := hS 133 (by decide)
    have mJ := mof_135 hS
    have hunJ : uns J < u := Nat.lt_of_le_of_lt (uns_mono hm) hun
    obtain rfl := x_nI hx
    refine r_iload (j := 0) rfl dX12_giveTo_202 ?_
    refine r_aload_n (j := 2) rfl rfl dX12_giveTo_204 ?_
    refine w_getI fX12_464 rfl dX12_giveTo_205 ?_
    refine r_icmp_ge (tgt := 256) dX12_giveTo_208 (by decide) (fun c208 => ?_) (fun c208 => ?_)
    · exfalso; ((try simp only [bI_0, bI_1, lc_lt, lc_gt, lc_le, lc_ge, Classical.not_not] at *); (try simp only [i_lt, i_le, i_eq, l_lt, l_le, l_eq, Int32.toInt_toInt64, Int32.reduceToInt, Int64.reduceToInt] at *); omega)
    · refine r_aload_n (j := 2) rfl rfl dX12_giveTo_211 ?_
      refine w_getR (b := 133) fX12_291 rfl rfl dX12_giveTo_212 ?_
      refine r_iload (j := 0) rfl dX12_giveTo_215 ?_
      refine w_iald rfl (by first | assumption | (rw [vp_in_iff]; ((try simp only [bI_0, bI_1, lc_lt, lc_gt, lc_le, lc_ge, Classical.not_not] at *); (try simp only [i_lt, i_le, i_eq, l_lt, l_le, l_eq, Int32.toInt_toInt64, Int32.reduceToInt, Int64.reduceToInt] at *); omega))) dX12_giveTo_217 ?_
      refine r_bipush (v := 100) rfl dX12_giveTo_218 ?_
      refine r_iload_n (j := 1) rfl rfl dX12_giveTo_220 ?_
      refine r_iadd dX12_giveTo_221 ?_
      rw [e100, cx, j133]
      refine r_icmp_ne (tgt := 250) dX12_giveTo_222 (by decide) (fun c222 => ?_) (fun c222 => ?_)
      · refine r_iinc (j := 0) (lv' := fun z => [(4, .int z), (3, .int (nI h)), (0, .ref 95), (1, .int (nI p)), (2, .int (if b then 1 else 0))]) dX12_giveTo_250 rfl (Nat.le_of_ble_eq_true rfl) (fun _ => rfl) (fun x4_250 ex4_250 => ?_)
        refine r_goto (tgt := 202) dX12_giveTo_253 (by decide) ?_
        exact ih (k + 1) (by omega) _ _ hS hm (fun q hq2 hqs => by by_cases e : q = k; subst e; exact absurd (by rw [← srcv_h]; exact hqs) c222; exact hq q (by omega) hqs) hx1 (by rw [ex4_250]; exact i_inc hx (by omega))
      · refine r_aload_n (j := 2) rfl rfl dX12_giveTo_225 ?_
        refine r_iload (j := 0) rfl dX12_giveTo_226 ?_
        refine r_iconst (v := 1) rfl dX12_giveTo_228 ?_
        have hqs : I 133 k = srcv (10 + h) := by rw [srcv_h]; exact c222
        have IHk := IH J k (gOk_SB g (hS.mono (by decide))) (by rw [mJ]; exact hv) (by omega) ⟨10 + h, Or.inr ⟨by omega, by rw [mJ]; exact hqs⟩, Or.inr (hm _ ha1)⟩ hunJ
        rw [if_pos hb] at IHk
        refine w_cV2g (IHk) (Nat.le_refl (u + 1)) lX12_470 vmX12_giveTo rfl (Nat.le_of_ble_eq_true rfl) (Nat.le_of_ble_eq_true rfl) (Nat.le_of_ble_eq_true rfl) dX12_giveTo_229 (fun v229 J229 K229 t229 h229 => ?_)
        obtain ⟨hK, ht, hS2, hm2, hcase⟩ := h229; subst hK ht
        refine r_if_ne (tgt := 238) dX12_giveTo_232 (by decide) (fun c232 => ?_) (fun c232 => ?_)
        · refine r_aload_n (j := 2) rfl rfl dX12_giveTo_238 ?_
          refine w_getR (b := 133) fX12_291 rfl rfl dX12_giveTo_239 ?_
          refine r_iload_n (j := 3) rfl rfl dX12_giveTo_242 ?_
          refine r_bipush (v := 100) rfl dX12_giveTo_243 ?_
          refine r_iload_n (j := 1) rfl rfl dX12_giveTo_245 ?_
          refine r_iadd dX12_giveTo_246 ?_
          refine w_iast rfl (up_in hpi (by omega)) dX12_giveTo_247 (fun J247 hJ247 => ?_)
          refine r_iconst (v := 1) rfl dX12_giveTo_248 ?_
          refine w_iretG rfl (rfl) (Nat.le_of_ble_eq_true rfl) (Nat.le_of_ble_eq_true rfl) dX12_giveTo_249 ?_
          rcases hcase with ⟨hv1, hsu⟩ | ⟨hv1, -⟩
          · have hJ : J247 = up J229 133 p (nI (100 + h)) := by rw [hJ247, e100, nI_clamp (by omega)]
            refine ⟨rfl, rfl, ?_, ?_, Or.inl ⟨rfl, ?_⟩⟩
            · rw [hJ]; exact (SB1 hS hS2).up (by decide)
            · intro x hx; rw [hJ]; unfold aske; rw [up_n _ _ _ (by decide)]; exact hm2 x (hm x (hm1 x hx))
            · rw [hJ]
              subst hb
              exact give_hut (J := J) (J2 := J229) (J3 := J229) g hv hp ho hoa hh hct hS (fun x hx => hm x (hm1 x hx)) hns (hm _ ha1) hc (Or.inr ⟨rfl, hfull, k, by omega, hqs, hsu⟩) rfl
          · rw [hv1] at c232; exact absurd rfl c232
        · refine r_goto (tgt := 250) dX12_giveTo_235 (by decide) ?_
          refine r_iinc (j := 0) (lv' := fun z => [(4, .int z), (3, .int (nI h)), (0, .ref 95), (1, .int (nI p)), (2, .int (if b then 1 else 0))]) dX12_giveTo_250 rfl (Nat.le_of_ble_eq_true rfl) (fun _ => rfl) (fun x4_250 ex4_250 => ?_)
          refine r_goto (tgt := 202) dX12_giveTo_253 (by decide) ?_
          rcases hcase with ⟨hv1, -⟩ | ⟨hv1, hfa⟩
          · rw [hv1] at c232; exact absurd c232 (by decide)
          · obtain ⟨n1, n2, n3⟩ := id hfa
            refine ih (k + 1) (by omega) _ _ (hS.tr n1) (fun x hx => hm2 x (hm x hx)) (fun q hq2 hqs2 y hy => ?_) (clx_step hS hx1 hfa hm2) (by rw [ex4_250]; exact i_inc hx (by omega))
            by_cases e : q = k
            · subst e; exact n2 y hy
            · exact hm2 y (hq q (by omega) hqs2 y hy)
theorem l_gt2 (g : gOk G I) (hv : Vl G (mof I) 99) (hp : p < gS G) (ho : srcO (mof I) p o) (hoa : o = 99 ∨ aske I o) (hun : uns I < u + 1)
    (IH : ∀ (J : Is) (q : Nat), gOk G J → Vl G (mof J) 99 → q < gS G → (∃ o, srcO (mof J) q o ∧ (o = 99 ∨ aske J o)) → uns J < u → Con sc mX12_giveTo u 0 0 [.ref 95, .int (nI q), .int (if b then 1 else 0)] (XW J L tg) (gI (gtF G b q J L tg))) : ∀ n h : Nat, h + n = gH G → ∀ (J : Is) (x : Int32), SB [135] I J → (∀ x, aske I x → aske J x) → (∀ s, s < gS G → gcn G (gsh G s) (gsh G p) = true → aske J s) → (b = true → ∀ k, k < h → gct G k = true → gcn G k (gsh G p) = true → aske J (10 + k)) → cls G b I J → x.toInt = h → RR sc mX12_giveTo (u + 1) 0 0 (gI (gtF G b p I L tg)) 0 0 96 [(3, .int x), (0, .ref 95), (1, .int (nI p)), (2, .int (if b then 1 else 0))] [] (XW J L tg) := by
  obtain ⟨gs1, gs2, gs3, gs4, gs5, gs6, gs7, gs8⟩ := id g
  have hpi : (nI p).toInt = p := nI_toInt (by omega)
  have hip := up_in (N := 10) hpi (by omega)
  have cp := cl_of hpi
  have fail : ∀ J : Is, SB [135] I J → (∀ x, aske I x → aske J x) → (∀ s, s < gS G → gcn G (gsh G s) (gsh G p) = true → aske J s) → (b = true → ∀ k, k < gH G → gct G k = true → gcn G k (gsh G p) = true → aske J (10 + k)) → cls G b I J → gtF G b p I L tg 0 J L tg := by
    intro J hS hm h1 h2 hc
    refine ⟨rfl, rfl, hS.mono (by decide), hm, Or.inr ⟨rfl, hS, fun y hy => ?_, hc⟩⟩
    obtain ⟨hy1, hy2⟩ := hy
    rcases hy1 with z | ⟨z1, z2, z3, z4⟩
    · unfold hof at hy2; rw [if_pos (by omega)] at hy2; exact h1 y z hy2
    · unfold hof at hy2; rw [if_neg (by omega)] at hy2
      have := h2 z1 (y - 10) (by omega) z4 hy2
      rw [show 10 + (y - 10) = y by omega] at this
      exact this
  intro n
  induction n with
  | zero =>
    intro h hh J x hS hm h1 h2 hcl hx
    have jH : (J 95 10).toInt = gH G := by rw [hS 95 (by decide), gs3, nI_toInt (by omega)]
    refine r_iload_n (j := 0) rfl rfl dX12_giveTo_96 ?_
    refine r_aload_n (j := 1) rfl rfl dX12_giveTo_97 ?_
    refine w_getI fX12_355 rfl dX12_giveTo_98 ?_
    refine r_icmp_ge (tgt := 262) dX12_giveTo_101 (by decide) (fun c101 => ?_) (fun c101 => ?_)
    · refine r_iconst (v := 0) rfl dX12_giveTo_262 ?_
      refine w_iretG rfl (rfl) (Nat.le_of_ble_eq_true rfl) (Nat.le_of_ble_eq_true rfl) dX12_giveTo_263 ?_
      exact fail J hS hm h1 (fun z k hk => h2 z k (by omega)) hcl
    · exfalso; ((try simp only [bI_0, bI_1, lc_lt, lc_gt, lc_le, lc_ge, Classical.not_not] at *); (try simp only [i_lt, i_le, i_eq, l_lt, l_le, l_eq, Int32.toInt_toInt64, Int32.reduceToInt, Int64.reduceToInt] at *); omega)
  | succ n ih =>
    intro h hh J x hS hm h1 h2 hcl hx
    have jH : (J 95 10).toInt = gH G := by rw [hS 95 (by decide), gs3, nI_toInt (by omega)]
    have cx := cl_of hx
    have hin := up_in (N := 5) hx (by omega)
    obtain rfl := x_nI hx
    have e10 : (10 : Int32) + nI h = nI (10 + h) := nI_add 10 h
    have e100 : (100 : Int32) + nI h = nI (100 + h) := nI_add 100 h
    have cl10 : (nI (10 + h)).toNatClampNeg = 10 + h := nI_clamp (by omega)
    have j132 : J 132 p = nI (gsh G p) := by rw [hS 132 (by decide)]; exact (gs5 p hp).1
    have shp := (gs5 p hp).2
    have next : ∀ (J' : Is) (x' : Int32), SB [135] I J' → (∀ x, aske I x → aske J' x) → (∀ s, s < gS G → gcn G (gsh G s) (gsh G p) = true → aske J' s) → (b = true → ∀ k, k < h + 1 → gct G k = true → gcn G k (gsh G p) = true → aske J' (10 + k)) → cls G b I J' → x' = nI h + Int32.ofInt 1 → RR sc mX12_giveTo (u + 1) 0 0 (gI (gtF G b p I L tg)) 0 0 96 [(3, .int x'), (0, .ref 95), (1, .int (nI p)), (2, .int (if b then 1 else 0))] [] (XW J' L tg) := fun J' x' a1 a2 a3 a4 a5 e => ih (h + 1) (by omega) J' x' a1 a2 a3 a4 a5 (by rw [e]; exact i_inc hx (by omega))
    have keep : (gct G h = true → gcn G h (gsh G p) = true → aske J (10 + h)) → (b = true → ∀ k, k < h + 1 → gct G k = true → gcn G k (gsh G p) = true → aske J (10 + k)) := by
      intro hk hb k hk2 a1 a2
      by_cases e : k = h
      · subst e; exact hk a1 a2
      · exact h2 hb k (by omega) a1 a2
    refine r_iload_n (j := 0) rfl rfl dX12_giveTo_96 ?_
    refine r_aload_n (j := 1) rfl rfl dX12_giveTo_97 ?_
    refine w_getI fX12_355 rfl dX12_giveTo_98 ?_
    refine r_icmp_ge (tgt := 262) dX12_giveTo_101 (by decide) (fun c101 => ?_) (fun c101 => ?_)
    · exfalso; ((try simp only [bI_0, bI_1, lc_lt, lc_gt, lc_le, lc_ge, Classical.not_not] at *); (try simp only [i_lt, i_le, i_eq, l_lt, l_le, l_eq, Int32.toInt_toInt64, Int32.reduceToInt, Int64.reduceToInt] at *); omega)
    · refine r_iload_n (j := 3) rfl rfl dX12_giveTo_104 ?_
      refine r_if_eq (tgt := 262) dX12_giveTo_105 (by decide) (fun c105 => ?_) (fun c105 => ?_)
      · refine r_iconst (v := 0) rfl dX12_giveTo_262 ?_
        refine w_iretG rfl (rfl) (Nat.le_of_ble_eq_true rfl) (Nat.le_of_ble_eq_true rfl) dX12_giveTo_263 ?_
        exact fail J hS hm h1 (fun z => absurd c105 (by rw [z]; decide)) hcl
      · have hb : b = true := by { cases hq : b with | true => rfl | false => rw [hq] at c105; exact absurd rfl c105 }
        refine r_aload_n (j := 1) rfl rfl dX12_giveTo_108 ?_
        refine w_getR (b := 135) fX12_297 rfl rfl dX12_giveTo_109 ?_
        refine r_bipush (v := 10) rfl dX12_giveTo_112 ?_
        refine r_iload_n (j := 0) rfl rfl dX12_giveTo_114 ?_
        refine r_iadd dX12_giveTo_115 ?_
        refine w_zald rfl (by rw [e10]; exact vp_in_nI (by omega) (by omega)) dX12_giveTo_116 ?_
        rw [e10, cl10]
        refine r_if_ne (tgt := 256) dX12_giveTo_117 (by decide) (fun c117 => ?_) (fun c117 => ?_)
        · refine r_iinc (j := 0) (lv' := fun z => [(3, .int z), (0, .ref 95), (1, .int (nI p)), (2, .int (if b then 1 else 0))]) dX12_giveTo_256 rfl (Nat.le_of_ble_eq_true rfl) (fun _ => rfl) (fun x3_256 ex3_256 => ?_)
          refine r_goto (tgt := 96) dX12_giveTo_259 (by decide) ?_
          exact next J _ hS hm h1 (keep (fun _ _ => c117)) hcl ex3_256
        · refine r_aload_n (j := 1) rfl rfl dX12_giveTo_120 ?_
          refine r_iload_n (j := 0) rfl rfl dX12_giveTo_121 ?_
          refine w_cV1p (k_X12_isCounted hx (by omega)) (Nat.le_of_ble_eq_true rfl) lX12_461 vmX12_isCounted rfl (Nat.le_of_ble_eq_true rfl) (Nat.le_of_ble_eq_true rfl) (Nat.le_of_ble_eq_true rfl) dX12_giveTo_122 ?_
          refine r_if_eq (tgt := 256) dX12_giveTo_125 (by decide) (fun c125 => ?_) (fun c125 => ?_)
          · refine r_iinc (j := 0) (lv' := fun z => [(3, .int z), (0, .ref 95), (1, .int (nI p)), (2, .int (if b then 1 else 0))]) dX12_giveTo_256 rfl (Nat.le_of_ble_eq_true rfl) (fun _ => rfl) (fun x3_256 ex3_256 => ?_)
            refine r_goto (tgt := 96) dX12_giveTo_259 (by decide) ?_
            exact next J _ hS hm h1 (keep (fun a _ => absurd ((gs6 h (by omega)).mp a) (by have := bI_0.mp c125; rw [hS 105 (by decide)] at this; exact this))) hcl ex3_256
          · refine r_aload_n (j := 1) rfl rfl dX12_giveTo_128 ?_
            refine r_iload_n (j := 0) rfl rfl dX12_giveTo_129 ?_
            refine r_aload_n (j := 1) rfl rfl dX12_giveTo_130 ?_
            refine w_getR (b := 132) fX12_288 rfl rfl dX12_giveTo_131 ?_
            refine r_iload_n (j := 2) rfl rfl dX12_giveTo_134 ?_
            refine w_iald rfl (by first | assumption | (rw [vp_in_iff]; ((try simp only [bI_0, bI_1, lc_lt, lc_gt, lc_le, lc_ge, Classical.not_not] at *); (try simp only [i_lt, i_le, i_eq, l_lt, l_le, l_eq, Int32.toInt_toInt64, Int32.reduceToInt, Int64.reduceToInt] at *); omega))) dX12_giveTo_135 ?_
            refine w_cV2p (k_X12_canRun (hn := h) (on := gsh G p) rfl (by rw [cp]; exact j132) (by omega) (by omega)) (Nat.le_of_ble_eq_true rfl) lX12_467 vmX12_canRun rfl (Nat.le_of_ble_eq_true rfl) (Nat.le_of_ble_eq_true rfl) (Nat.le_of_ble_eq_true rfl) dX12_giveTo_136 ?_
            refine r_if_ne (tgt := 145) dX12_giveTo_139 (by decide) (fun c139 => ?_) (fun c139 => ?_)
            · have hct : gct G h = true := (gs6 h (by omega)).mpr (by have := bI_1.mp c125; rw [hS 105 (by decide)] at this; exact this)
              have hcn : gcn G h (gsh G p) = true := (gs7 h _ (by omega) shp).mpr (by have := bI_1.mp c139; rw [hS 131 (by decide), hS 106 (by decide)] at this; exact this)
              have hnJ : ¬ aske J (10 + h) := fun z => z c117
              refine r_aload_n (j := 1) rfl rfl dX12_giveTo_145 ?_
              refine w_getR (b := 135) fX12_297 rfl rfl dX12_giveTo_146 ?_
              refine r_bipush (v := 10) rfl dX12_giveTo_149 ?_
              refine r_iload_n (j := 0) rfl rfl dX12_giveTo_151 ?_
              refine r_iadd dX12_giveTo_152 ?_
              refine r_iconst (v := 1) rfl dX12_giveTo_153 ?_
              refine w_zast rfl (by rw [e10]; exact vp_in_nI (by omega) (by omega)) dX12_giveTo_154 (fun J154 hJ154 => ?_)
              have eJ1 : J154 = up J 135 (10 + h) 1 := by rw [hJ154, e10, cl10]; rfl
              have hS1 : SB [135] I J154 := by rw [eJ1]; exact hS.up (by decide)
              have hup : ∀ x, aske J x → aske J154 x := fun x hx => by rw [eJ1]; exact aske_up hx
              have hm1 : ∀ x, aske I x → aske J154 x := fun x hx => hup x (hm x hx)
              have ha1 : aske J154 (10 + h) := by rw [eJ1]; exact aske_x
              have hnI : ¬ aske I (10 + h) := fun z => hnJ (hm _ z)
              have hun1 : uns J154 < u := by
                rw [eJ1]
                have q1 := uns_lt (J := J) (x := 10 + h) (by omega) hnJ
                have q2 := uns_mono hm
                omega
              refine r_aload_n (j := 1) rfl rfl dX12_giveTo_155 ?_
              refine w_getR (b := 134) fX12_294 rfl rfl dX12_giveTo_156 ?_
              refine r_iload_n (j := 0) rfl rfl dX12_giveTo_159 ?_
              refine w_iald rfl (by first | assumption | (rw [vp_in_iff]; ((try simp only [bI_0, bI_1, lc_lt, lc_gt, lc_le, lc_ge, Classical.not_not] at *); (try simp only [i_lt, i_le, i_eq, l_lt, l_le, l_eq, Int32.toInt_toInt64, Int32.reduceToInt, Int64.reduceToInt] at *); omega))) dX12_giveTo_160 ?_
              refine r_aload_n (j := 1) rfl rfl dX12_giveTo_161 ?_
              refine w_getR (b := 104) fX12_228 rfl rfl dX12_giveTo_162 ?_
              refine r_iload_n (j := 0) rfl rfl dX12_giveTo_165 ?_
              refine w_iald rfl (by first | assumption | (rw [vp_in_iff]; ((try simp only [bI_0, bI_1, lc_lt, lc_gt, lc_le, lc_ge, Classical.not_not] at *); (try simp only [i_lt, i_le, i_eq, l_lt, l_le, l_eq, Int32.toInt_toInt64, Int32.reduceToInt, Int64.reduceToInt] at *); omega))) dX12_giveTo_166 ?_
              refine r_aload_n (j := 1) rfl rfl dX12_giveTo_167 ?_
              refine w_getR (b := 130) fX12_282 rfl rfl dX12_giveTo_168 ?_
              refine r_iload_n (j := 0) rfl rfl dX12_giveTo_171 ?_
              refine w_iald rfl (by first | assumption | (rw [vp_in_iff]; ((try simp only [bI_0, bI_1, lc_lt, lc_gt, lc_le, lc_ge, Classical.not_not] at *); (try simp only [i_lt, i_le, i_eq, l_lt, l_le, l_eq, Int32.toInt_toInt64, Int32.reduceToInt, Int64.reduceToInt] at *); omega))) dX12_giveTo_172 ?_
              refine r_isub dX12_giveTo_173 ?_
              refine r_icmp_ge (tgt := 199) dX12_giveTo_174 (by decide) (fun c174 => ?_) (fun c174 => ?_)
              · refine r_iconst (v := 0) rfl dX12_giveTo_199 ?_
                refine r_istore (lv' := fun z => [(4, .int z), (3, .int (nI h)), (0, .ref 95), (1, .int (nI p)), (2, .int (if b then 1 else 0))]) dX12_giveTo_200 (Nat.le_of_ble_eq_true rfl) (fun _ => rfl) (fun x4_200 ex4_200 => ?_)
                have hfull : (gcp G h : Int) ≤ (I 134 h).toInt := by
                  rw [cx, hS1 104 (by decide), hS1 130 (by decide), hS1 134 (by decide), i_le, (gs8 h (by omega)).1] at c174
                  exact c174
                refine l_gt3 g hv hp ho hoa hb (by omega) hct hcn hnI hfull hm1 ha1 hun1 IH ?_ (gS G) 0 (Nat.zero_add _) J154 _ hS1 (fun _ z => z) (fun q hq => absurd hq (Nat.not_lt_zero _)) ?_ (by rw [ex4_200]; rfl)
                · intro J5 x4 s1 s2 s3 s4
                  refine r_lvs [(3, .int (nI h)), (0, .ref 95), (1, .int (nI p)), (2, .int (if b then 1 else 0))] [1, 2, 3, 4] rfl ?_
                  refine r_iinc (j := 0) (lv' := fun z => [(3, .int z), (0, .ref 95), (1, .int (nI p)), (2, .int (if b then 1 else 0))]) dX12_giveTo_256 rfl (Nat.le_of_ble_eq_true rfl) (fun _ => rfl) (fun x3_256 ex3_256 => ?_)
                  refine r_goto (tgt := 96) dX12_giveTo_259 (by decide) ?_
                  refine next J5 _ s1 (fun x hx => s2 x (hm1 x hx)) (fun s hs z => s2 s (hup s (h1 s hs z))) (fun hb k hk a1 a2 => ?_) (fun x hx n1 n2 => ?_) ex3_256
                  · by_cases e : k = h
                    · subst e; exact s2 _ ha1
                    · exact s2 _ (hup _ (h2 hb k (by omega) a1 a2))
                  · by_cases e : x = 10 + h
                    · subst e
                      exact ⟨⟨fun z => by omega, fun _ => by rw [Nat.add_sub_cancel_left]; exact hfull⟩, s3⟩
                    · exact s4 x hx e n1 n2
                · intro x hx e n1 n2
                  rw [eJ1] at n2
                  obtain ⟨a1, a2⟩ := hcl x hx n1 (aske_n e n2)
                  exact ⟨a1, fun q hq hqx y hy => hup y (a2 q hq hqx y hy)⟩
              · refine r_aload_n (j := 1) rfl rfl dX12_giveTo_177 ?_
                refine w_getR (b := 134) fX12_294 rfl rfl dX12_giveTo_178 ?_
                refine r_iload_n (j := 0) rfl rfl dX12_giveTo_181 ?_
                refine r_dup2 rfl rfl dX12_giveTo_182 ?_
                refine w_iald rfl (by first | assumption | (rw [vp_in_iff]; ((try simp only [bI_0, bI_1, lc_lt, lc_gt, lc_le, lc_ge, Classical.not_not] at *); (try simp only [i_lt, i_le, i_eq, l_lt, l_le, l_eq, Int32.toInt_toInt64, Int32.reduceToInt, Int64.reduceToInt] at *); omega))) dX12_giveTo_183 ?_
                refine r_iconst (v := 1) rfl dX12_giveTo_184 ?_
                refine r_iadd dX12_giveTo_185 ?_
                refine w_iast rfl (by first | assumption | (rw [vp_in_iff]; ((try simp only [bI_0, bI_1, lc_lt, lc_gt, lc_le, lc_ge, Classical.not_not] at *); (try simp only [i_lt, i_le, i_eq, l_lt, l_le, l_eq, Int32.toInt_toInt64, Int32.reduceToInt, Int64.reduceToInt] at *); omega))) dX12_giveTo_186 (fun J186 hJ186 => ?_)
                refine r_aload_n (j := 1) rfl rfl dX12_giveTo_187 ?_
                refine w_getR (b := 133) fX12_291 rfl rfl dX12_giveTo_188 ?_
                refine r_iload_n (j := 2) rfl rfl dX12_giveTo_191 ?_
                refine r_bipush (v := 100) rfl dX12_giveTo_192 ?_
                refine r_iload_n (j := 0) rfl rfl dX12_giveTo_194 ?_
                refine r_iadd dX12_giveTo_195 ?_
                refine w_iast rfl (hip) dX12_giveTo_196 (fun J196 hJ196 => ?_)
                refine r_iconst (v := 1) rfl dX12_giveTo_197 ?_
                refine w_iretG rfl (rfl) (Nat.le_of_ble_eq_true rfl) (Nat.le_of_ble_eq_true rfl) dX12_giveTo_198 ?_
                have hfree : (I 134 h).toInt < (gcp G h : Int) := by
                  rw [cx, hS1 104 (by decide), hS1 130 (by decide), hS1 134 (by decide), i_le, (gs8 h (by omega)).1] at c174
                  omega
                have hJ : J196 = up (up J154 134 h (J154 134 h + 1)) 133 p (nI (100 + h)) := by rw [hJ196, hJ186, e100, cp, cx]
                refine ⟨rfl, rfl, ?_, ?_, Or.inl ⟨rfl, ?_⟩⟩
                · rw [hJ]; exact ((hS1.mono (by decide)).up (by decide)).up (by decide)
                · intro x hx; rw [hJ]; unfold aske; rw [up_n _ _ _ (by decide), up_n _ _ _ (by decide)]; exact hm1 x hx
                · rw [hJ]
                  exact give_hut (J := J154) (J2 := J154) g hv hp ho hoa (by omega) hct hS1 hm1 hnI ha1 hcn (Or.inl ⟨rfl, hfree⟩) hb
            · refine r_goto (tgt := 256) dX12_giveTo_142 (by decide) ?_
              refine r_iinc (j := 0) (lv' := fun z => [(3, .int z), (0, .ref 95), (1, .int (nI p)), (2, .int (if b then 1 else 0))]) dX12_giveTo_256 rfl (Nat.le_of_ble_eq_true rfl) (fun _ => rfl) (fun x3_256 ex3_256 => ?_)
              refine r_goto (tgt := 96) dX12_giveTo_259 (by decide) ?_
              exact next J _ hS hm h1 (keep (fun _ a => absurd ((gs7 h _ (by omega) shp).mp a) (by have := bI_0.mp c139; rw [hS 131 (by decide), hS 106 (by decide)] at this; exact this))) hcl ex3_256
theorem l_gt1 (g : gOk G I) (hv : Vl G (mof I) 99) (hp : p < gS G) (ho : srcO (mof I) p o) (hoa : o = 99 ∨ aske I o) (hun : uns I < u + 1)
    (IH : ∀ (J : Is) (q : Nat), gOk G J → Vl G (mof J) 99 → q < gS G → (∃ o, srcO (mof J) q o ∧ (o = 99 ∨ aske J o)) → uns J < u → Con sc mX12_giveTo u 0 0 [.ref 95, .int (nI q), .int (if b then 1 else 0)] (XW J L tg) (gI (gtF G b q J L tg))) : ∀ n i : Nat, i + n = gS G → ∀ (J : Is) (x : Int32), SB [135] I J → (∀ x, aske I x → aske J x) → (∀ s, s < i → gcn G (gsh G s) (gsh G p) = true → aske J s) → cls G b I J → x.toInt = i → RR sc mX12_giveTo (u + 1) 0 0 (gI (gtF G b p I L tg)) 0 0 2 [(3, .int x), (0, .ref 95), (1, .int (nI p)), (2, .int (if b then 1 else 0))] [] (XW J L tg) := by
  obtain ⟨gs1, gs2, gs3, gs4, gs5, gs6, gs7, gs8⟩ := id g
  have hpi : (nI p).toInt = p := nI_toInt (by omega)
  have hip := up_in (N := 10) hpi (by omega)
  have cp := cl_of hpi
  intro n
  induction n with
  | zero =>
    intro i hi J x hS hm h1 hcl hx
    have jS : (J 95 65).toInt = gS G := by rw [hS 95 (by decide), gs1, nI_toInt (by omega)]
    refine r_iload_n (j := 0) rfl rfl dX12_giveTo_2 ?_
    refine r_aload_n (j := 1) rfl rfl dX12_giveTo_3 ?_
    refine w_getI fX12_464 rfl dX12_giveTo_4 ?_
    refine r_icmp_ge (tgt := 94) dX12_giveTo_7 (by decide) (fun c7 => ?_) (fun c7 => ?_)
    · refine r_iconst (v := 0) rfl dX12_giveTo_94 ?_
      refine r_istore_n (lv' := fun z => [(3, .int z), (0, .ref 95), (1, .int (nI p)), (2, .int (if b then 1 else 0))]) dX12_giveTo_95 rfl (Nat.le_of_ble_eq_true rfl) (fun _ => rfl) (fun x3_95 ex3_95 => ?_)
      exact l_gt2 g hv hp ho hoa hun IH (gH G) 0 (Nat.zero_add _) J _ hS hm (fun s hs => h1 s (by omega)) (fun _ k hk => absurd hk (Nat.not_lt_zero _)) hcl (by rw [ex3_95]; rfl)
    · exfalso; ((try simp only [bI_0, bI_1, lc_lt, lc_gt, lc_le, lc_ge, Classical.not_not] at *); (try simp only [i_lt, i_le, i_eq, l_lt, l_le, l_eq, Int32.toInt_toInt64, Int32.reduceToInt, Int64.reduceToInt] at *); omega)
  | succ n ih =>
    intro i hi J x hS hm h1 hcl hx
    have jS : (J 95 65).toInt = gS G := by rw [hS 95 (by decide), gs1, nI_toInt (by omega)]
    have cx := cl_of hx
    have hin := up_in (N := 10) hx (by omega)
    have hin2 := up_in (N := 15) hx (by omega)
    obtain rfl := x_nI hx
    have j132 : ∀ q, q < gS G → J 132 q = nI (gsh G q) := fun q hq => by rw [hS 132 (by decide)]; exact (gs5 q hq).1
    have shp := (gs5 p hp).2
    have shi := (gs5 i (by omega)).2
    have next : ∀ (J' : Is) (x' : Int32), SB [135] I J' → (∀ x, aske I x → aske J' x) → (∀ s, s < i + 1 → gcn G (gsh G s) (gsh G p) = true → aske J' s) → cls G b I J' → x' = nI i + Int32.ofInt 1 → RR sc mX12_giveTo (u + 1) 0 0 (gI (gtF G b p I L tg)) 0 0 2 [(3, .int x'), (0, .ref 95), (1, .int (nI p)), (2, .int (if b then 1 else 0))] [] (XW J' L tg) := fun J' x' a1 a2 a3 a4 e => ih (i + 1) (by omega) J' x' a1 a2 a3 a4 (by rw [e]; exact i_inc hx (by omega))
    have keep : (gcn G (gsh G i) (gsh G p) = true → aske J i) → ∀ s, s < i + 1 → gcn G (gsh G s) (gsh G p) = true → aske J s := by
      intro hk s hs a
      by_cases e : s = i
      · subst e; exact hk a
      · exact h1 s (by omega) a
    refine r_iload_n (j := 0) rfl rfl dX12_giveTo_2 ?_
    refine r_aload_n (j := 1) rfl rfl dX12_giveTo_3 ?_
    refine w_getI fX12_464 rfl dX12_giveTo_4 ?_
    refine r_icmp_ge (tgt := 94) dX12_giveTo_7 (by decide) (fun c7 => ?_) (fun c7 => ?_)
    · exfalso; ((try simp only [bI_0, bI_1, lc_lt, lc_gt, lc_le, lc_ge, Classical.not_not] at *); (try simp only [i_lt, i_le, i_eq, l_lt, l_le, l_eq, Int32.toInt_toInt64, Int32.reduceToInt, Int64.reduceToInt] at *); omega)
    · refine r_aload_n (j := 1) rfl rfl dX12_giveTo_10 ?_
      refine w_getR (b := 135) fX12_297 rfl rfl dX12_giveTo_11 ?_
      refine r_iload_n (j := 0) rfl rfl dX12_giveTo_14 ?_
      refine w_zald rfl (by first | assumption | (rw [vp_in_iff]; ((try simp only [bI_0, bI_1, lc_lt, lc_gt, lc_le, lc_ge, Classical.not_not] at *); (try simp only [i_lt, i_le, i_eq, l_lt, l_le, l_eq, Int32.toInt_toInt64, Int32.reduceToInt, Int64.reduceToInt] at *); omega))) dX12_giveTo_15 ?_
      rw [cx]
      refine r_if_ne (tgt := 88) dX12_giveTo_16 (by decide) (fun c16 => ?_) (fun c16 => ?_)
      · refine r_iinc (j := 0) (lv' := fun z => [(3, .int z), (0, .ref 95), (1, .int (nI p)), (2, .int (if b then 1 else 0))]) dX12_giveTo_88 rfl (Nat.le_of_ble_eq_true rfl) (fun _ => rfl) (fun x3_88 ex3_88 => ?_)
        refine r_goto (tgt := 2) dX12_giveTo_91 (by decide) ?_
        exact next J _ hS hm (keep (fun _ => c16)) hcl ex3_88
      · refine r_aload_n (j := 1) rfl rfl dX12_giveTo_19 ?_
        refine r_aload_n (j := 1) rfl rfl dX12_giveTo_20 ?_
        refine w_getR (b := 132) fX12_288 rfl rfl dX12_giveTo_21 ?_
        refine r_iload_n (j := 0) rfl rfl dX12_giveTo_24 ?_
        refine w_iald rfl (by first | assumption | (rw [vp_in_iff]; ((try simp only [bI_0, bI_1, lc_lt, lc_gt, lc_le, lc_ge, Classical.not_not] at *); (try simp only [i_lt, i_le, i_eq, l_lt, l_le, l_eq, Int32.toInt_toInt64, Int32.reduceToInt, Int64.reduceToInt] at *); omega))) dX12_giveTo_25 ?_
        refine r_aload_n (j := 1) rfl rfl dX12_giveTo_26 ?_
        refine w_getR (b := 132) fX12_288 rfl rfl dX12_giveTo_27 ?_
        refine r_iload_n (j := 2) rfl rfl dX12_giveTo_30 ?_
        refine w_iald rfl (by first | assumption | (rw [vp_in_iff]; ((try simp only [bI_0, bI_1, lc_lt, lc_gt, lc_le, lc_ge, Classical.not_not] at *); (try simp only [i_lt, i_le, i_eq, l_lt, l_le, l_eq, Int32.toInt_toInt64, Int32.reduceToInt, Int64.reduceToInt] at *); omega))) dX12_giveTo_31 ?_
        refine w_cV2p (k_X12_canRun (hn := gsh G i) (on := gsh G p) (by rw [cx]; exact j132 i (by omega)) (by rw [cp]; exact j132 p hp) (by omega) (by omega)) (Nat.le_of_ble_eq_true rfl) lX12_467 vmX12_canRun rfl (Nat.le_of_ble_eq_true rfl) (Nat.le_of_ble_eq_true rfl) (Nat.le_of_ble_eq_true rfl) dX12_giveTo_32 ?_
        refine r_if_ne (tgt := 41) dX12_giveTo_35 (by decide) (fun c35 => ?_) (fun c35 => ?_)
        · have hcn : gcn G (gsh G i) (gsh G p) = true := (gs7 _ _ shi shp).mpr (by have := bI_1.mp c35; rw [hS 131 (by decide), hS 106 (by decide)] at this; exact this)
          have hnJ : ¬ aske J i := fun z => z c16
          refine r_aload_n (j := 1) rfl rfl dX12_giveTo_41 ?_
          refine w_getR (b := 135) fX12_297 rfl rfl dX12_giveTo_42 ?_
          refine r_iload_n (j := 0) rfl rfl dX12_giveTo_45 ?_
          refine r_iconst (v := 1) rfl dX12_giveTo_46 ?_
          refine w_zast rfl (by first | assumption | (rw [vp_in_iff]; ((try simp only [bI_0, bI_1, lc_lt, lc_gt, lc_le, lc_ge, Classical.not_not] at *); (try simp only [i_lt, i_le, i_eq, l_lt, l_le, l_eq, Int32.toInt_toInt64, Int32.reduceToInt, Int64.reduceToInt] at *); omega))) dX12_giveTo_47 (fun J47 hJ47 => ?_)
          have eJ1 : J47 = up J 135 i 1 := by rw [hJ47, cx]; rfl
          have hS1 : SB [135] I J47 := by rw [eJ1]; exact hS.up (by decide)
          have hup : ∀ x, aske J x → aske J47 x := fun x hx => by rw [eJ1]; exact aske_up hx
          have hm1 : ∀ x, aske I x → aske J47 x := fun x hx => hup x (hm x hx)
          have ha1 : aske J47 i := by rw [eJ1]; exact aske_x
          have hun1 : uns J47 < u := by
            rw [eJ1]
            have q1 := uns_lt (J := J) (x := i) (by omega) hnJ
            have q2 := uns_mono hm
            omega
          refine r_aload_n (j := 1) rfl rfl dX12_giveTo_48 ?_
          refine w_getR (b := 136) fX12_300 rfl rfl dX12_giveTo_49 ?_
          refine r_iload_n (j := 0) rfl rfl dX12_giveTo_52 ?_
          refine w_iald rfl (by first | assumption | (rw [vp_in_iff]; ((try simp only [bI_0, bI_1, lc_lt, lc_gt, lc_le, lc_ge, Classical.not_not] at *); (try simp only [i_lt, i_le, i_eq, l_lt, l_le, l_eq, Int32.toInt_toInt64, Int32.reduceToInt, Int64.reduceToInt] at *); omega))) dX12_giveTo_53 ?_
          refine r_iconst (v := (-1)) rfl dX12_giveTo_54 ?_
          refine r_icmp_eq (tgt := 72) dX12_giveTo_55 (by decide) (fun c55 => ?_) (fun c55 => ?_)
          · refine r_aload_n (j := 1) rfl rfl dX12_giveTo_72 ?_
            refine w_getR (b := 136) fX12_300 rfl rfl dX12_giveTo_73 ?_
            refine r_iload_n (j := 0) rfl rfl dX12_giveTo_76 ?_
            refine r_iload_n (j := 2) rfl rfl dX12_giveTo_77 ?_
            refine w_iast rfl (hin) dX12_giveTo_78 (fun J78 hJ78 => ?_)
            refine r_aload_n (j := 1) rfl rfl dX12_giveTo_79 ?_
            refine w_getR (b := 133) fX12_291 rfl rfl dX12_giveTo_80 ?_
            refine r_iload_n (j := 2) rfl rfl dX12_giveTo_83 ?_
            refine r_iload_n (j := 0) rfl rfl dX12_giveTo_84 ?_
            refine w_iast rfl (hip) dX12_giveTo_85 (fun J85 hJ85 => ?_)
            refine r_iconst (v := 1) rfl dX12_giveTo_86 ?_
            refine w_iretG rfl (rfl) (Nat.le_of_ble_eq_true rfl) (Nat.le_of_ble_eq_true rfl) dX12_giveTo_87 ?_
            rw [cx, hS1 136 (by decide)] at c55
            have hJ : J85 = up (up J47 136 i (nI p)) 133 p (nI i) := by rw [hJ85, hJ78, cp, cx]
            refine ⟨rfl, rfl, ?_, ?_, Or.inl ⟨rfl, ?_⟩⟩
            · rw [hJ]; exact ((hS1.mono (by decide)).up (by decide)).up (by decide)
            · intro x hx; rw [hJ]; unfold aske; rw [up_n _ _ _ (by decide), up_n _ _ _ (by decide)]; exact hm1 x hx
            · rw [hJ]
              exact give_stand (J := J) g hv hp ho hoa hS hm (by omega) hnJ hcn (Or.inl ⟨eJ1, c55⟩)
          · refine r_aload_n (j := 1) rfl rfl dX12_giveTo_58 ?_
            refine r_aload_n (j := 1) rfl rfl dX12_giveTo_59 ?_
            refine w_getR (b := 136) fX12_300 rfl rfl dX12_giveTo_60 ?_
            refine r_iload_n (j := 0) rfl rfl dX12_giveTo_63 ?_
            refine w_iald rfl (by first | assumption | (rw [vp_in_iff]; ((try simp only [bI_0, bI_1, lc_lt, lc_gt, lc_le, lc_ge, Classical.not_not] at *); (try simp only [i_lt, i_le, i_eq, l_lt, l_le, l_eq, Int32.toInt_toInt64, Int32.reduceToInt, Int64.reduceToInt] at *); omega))) dX12_giveTo_64 ?_
            refine r_iload_n (j := 3) rfl rfl dX12_giveTo_65 ?_
            rw [cx, hS1 136 (by decide)] at c55
            obtain ⟨q, hq, e1, e2, e3⟩ : ∃ q, q < gS G ∧ I 136 i = nI q ∧ I 133 q = srcv i ∧ ∀ q', q' < gS G → I 133 q' = srcv i → q' = q := by
              rcases hv.2.1 i (by omega) (by omega) with ⟨z, -⟩ | z
              · exact absurd z c55
              · exact z
            have enx : J47 136 (nI i).toNatClampNeg = nI q := by rw [cx, hS1 136 (by decide)]; exact e1
            rw [enx]
            refine w_cV2g (IH J47 q (gOk_SB g (hS1.mono (by decide))) (by rw [mof_135 hS1]; exact hv) hq ⟨i, Or.inr ⟨by omega, by rw [mof_135 hS1]; exact e2⟩, Or.inr ha1⟩ hun1) (Nat.le_refl (u + 1)) lX12_470 vmX12_giveTo rfl (Nat.le_of_ble_eq_true rfl) (Nat.le_of_ble_eq_true rfl) (Nat.le_of_ble_eq_true rfl) dX12_giveTo_66 (fun v66 J66 K66 t66 h66 => ?_)
            obtain ⟨hK, ht, hS2, hm2, hcase⟩ := h66; subst hK ht
            refine r_if_eq (tgt := 88) dX12_giveTo_69 (by decide) (fun c69 => ?_) (fun c69 => ?_)
            · refine r_iinc (j := 0) (lv' := fun z => [(3, .int z), (0, .ref 95), (1, .int (nI p)), (2, .int (if b then 1 else 0))]) dX12_giveTo_88 rfl (Nat.le_of_ble_eq_true rfl) (fun _ => rfl) (fun x3_88 ex3_88 => ?_)
              refine r_goto (tgt := 2) dX12_giveTo_91 (by decide) ?_
              rcases hcase with ⟨hv1, -⟩ | ⟨hv1, hfa⟩
              · rw [hv1] at c69; exact absurd c69 (by decide)
              · obtain ⟨n1, n2, n3⟩ := id hfa
                refine next J66 _ (hS1.tr n1) (fun x hx => hm2 x (hm1 x hx)) (fun s hs a => ?_) (fun x hx m1 m2 => ?_) ex3_88
                · by_cases e : s = i
                  · subst e; exact hm2 _ ha1
                  · exact hm2 _ (hup _ (h1 s (by omega) a))
                · by_cases e : x = i
                  · subst e
                    exact ⟨⟨fun _ => c55, fun z => by omega⟩, fun q' hq' hqx y hy => by rw [e3 q' hq' hqx] at hy; exact n2 y hy⟩
                  · by_cases ha : aske J47 x
                    · rw [eJ1] at ha
                      obtain ⟨a1, a2⟩ := hcl x hx m1 (aske_n e ha)
                      exact ⟨a1, fun q' hq' hqx y hy => hm2 y (hup y (a2 q' hq' hqx y hy))⟩
                    · obtain ⟨a1, a2⟩ := n3 x hx ha m2
                      rw [mof_135 hS1] at a1
                      rw [hS1 133 (by decide)] at a2
                      exact ⟨a1, a2⟩
            · refine r_aload_n (j := 1) rfl rfl dX12_giveTo_72 ?_
              refine w_getR (b := 136) fX12_300 rfl rfl dX12_giveTo_73 ?_
              refine r_iload_n (j := 0) rfl rfl dX12_giveTo_76 ?_
              refine r_iload_n (j := 2) rfl rfl dX12_giveTo_77 ?_
              refine w_iast rfl (hin) dX12_giveTo_78 (fun J78 hJ78 => ?_)
              refine r_aload_n (j := 1) rfl rfl dX12_giveTo_79 ?_
              refine w_getR (b := 133) fX12_291 rfl rfl dX12_giveTo_80 ?_
              refine r_iload_n (j := 2) rfl rfl dX12_giveTo_83 ?_
              refine r_iload_n (j := 0) rfl rfl dX12_giveTo_84 ?_
              refine w_iast rfl (hip) dX12_giveTo_85 (fun J85 hJ85 => ?_)
              refine r_iconst (v := 1) rfl dX12_giveTo_86 ?_
              refine w_iretG rfl (rfl) (Nat.le_of_ble_eq_true rfl) (Nat.le_of_ble_eq_true rfl) dX12_giveTo_87 ?_
              rcases hcase with ⟨hv1, hsu⟩ | ⟨hv1, -⟩
              · have hJ : J85 = up (up J66 136 i (nI p)) 133 p (nI i) := by rw [hJ85, hJ78, cp, cx]
                refine ⟨rfl, rfl, ?_, ?_, Or.inl ⟨rfl, ?_⟩⟩
                · rw [hJ]; exact ((SB1 hS1 hS2).up (by decide)).up (by decide)
                · intro x hx; rw [hJ]; unfold aske; rw [up_n _ _ _ (by decide), up_n _ _ _ (by decide)]; exact hm2 x (hm1 x hx)
                · rw [hJ]
                  rw [eJ1] at hsu
                  exact give_stand (J := J) g hv hp ho hoa hS hm (by omega) hnJ hcn (Or.inr ⟨q, hq, e2, hsu⟩)
              · rw [hv1] at c69; exact absurd rfl c69
        · refine r_goto (tgt := 88) dX12_giveTo_38 (by decide) ?_
          refine r_iinc (j := 0) (lv' := fun z => [(3, .int z), (0, .ref 95), (1, .int (nI p)), (2, .int (if b then 1 else 0))]) dX12_giveTo_88 rfl (Nat.le_of_ble_eq_true rfl) (fun _ => rfl) (fun x3_88 ex3_88 => ?_)
          refine r_goto (tgt := 2) dX12_giveTo_91 (by decide) ?_
          exact next J _ hS hm (keep (fun a => absurd ((gs7 _ _ shi shp).mp a) (by have := bI_0.mp c35; rw [hS 131 (by decide), hS 106 (by decide)] at this; exact this))) hcl ex3_88
theorem k_X12_giveTo : ∀ (u : Nat) (I : Is) (p : Nat), gOk G I → Vl G (mof I) 99 → p < gS G → (∃ o, srcO (mof I) p o ∧ (o = 99 ∨ aske I o)) → uns I < u → Con sc mX12_giveTo u 0 0 [.ref 95, .int (nI p), .int (if b then 1 else 0)] (XW I L tg) (gI (gtF G b p I L tg)) := by
  intro u
  induction u with
  | zero => intro I p _ _ _ _ h; omega
  | succ u IH =>
    intro I p g hv hp ⟨o, ho, hoa⟩ hun
    refine Con_of (by decide) (Nat.le_of_ble_eq_true rfl) ?_
    refine r_iconst (v := 0) rfl dX12_giveTo_0 ?_
    refine r_istore_n (lv' := fun z => [(3, .int z), (0, .ref 95), (1, .int (nI p)), (2, .int (if b then 1 else 0))]) dX12_giveTo_1 rfl (Nat.le_of_ble_eq_true rfl) (fun _ => rfl) (fun x3_1 ex3_1 => ?_)
    exact l_gt1 g hv hp ho hoa hun IH (gS G) 0 (Nat.zero_add _) I _ SB.rf (fun _ z => z) (fun s hs => absurd hs (Nat.not_lt_zero _)) (fun x _ n1 n2 => absurd n2 n1) (by rw [ex3_1]; rfl)
end
