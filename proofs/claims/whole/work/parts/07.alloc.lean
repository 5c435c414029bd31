/-- one more cell, of kind kd and length N, all zero -/
def alo (X : Hp) (kd N : Nat) : Hp := (X.1 + 1, va_up X.2.1 X.1 (kd, N), upr X.2.2.1 X.1 (fun _ => 0), upr X.2.2.2.1 X.1 (fun _ => 0), upr X.2.2.2.2 X.1 (fun _ => none))
theorem PV.alo {X : Hp} {kd N : Nat} (h : PV X) (h1 : X.1 < 1000) : PV (alo X kd N) := by
  refine ⟨h1, fun a f b hb => ?_⟩
  have hb : upr X.2.2.2.2 X.1 (fun _ => none) a f = some b := hb
  by_cases ha : a = X.1
  · subst ha
    rw [upr_s] at hb
    cases hb
  · rw [upr_n _ _ ha] at hb
    exact Nat.lt_succ_of_lt (h.2 _ _ _ hb)
theorem en_alo {ca : Nat → ClassId} {ad : Nat → Nat} {X : Hp} {kd N q a : Nat} (h : PV X) (ha : a < X.1) : en ca (va_up ad X.1 q) (alo X kd N) a = en ca ad X a := by
  have hne : a ≠ X.1 := Nat.ne_of_lt ha
  have e1 : (alo X kd N).2.1 a = X.2.1 a := vu_n _ _ hne
  have e2 : (alo X kd N).2.2.1 a = X.2.2.1 a := upr_n _ _ hne
  have e3 : (alo X kd N).2.2.2.1 a = X.2.2.2.1 a := upr_n _ _ hne
  have e4 : (alo X kd N).2.2.2.2 a = X.2.2.2.2 a := upr_n _ _ hne
  have e5 : ∀ f, ((X.2.2.2.2 a f).map (va_up ad X.1 q)) = (X.2.2.2.2 a f).map ad := by
    intro f
    cases hf : X.2.2.2.2 a f with
    | none => rfl
    | some b => exact congrArg some (vu_n _ _ (Nat.ne_of_lt (h.2 _ _ _ hf)))
  have e6 : ∀ k kd', fv (va_up ad X.1 q) (alo X kd N) a k kd' = fv ad X a k kd' := by
    intro k kd'
    unfold fv
    rw [e2, e3, e4, e5]
  unfold en
  simp only [e1, e2, e3, e4, e5, e6]
theorem wsX_alo {ca : Nat → ClassId} {ad : Nat → Nat} {X : Hp} {kd N q : Nat} {e : va_E} (h : PV X) (he : en ca (va_up ad X.1 q) (alo X kd N) X.1 = e) : wsX ca ad X ++ [(q, e)] = wsX ca (va_up ad X.1 q) (alo X kd N) := by
  unfold wsX
  show _ = (List.range (X.1 + 1)).map _
  rw [List.range_succ, List.map_append]
  congr 1
  · refine List.map_congr_left fun a ha => ?_
    have ha := List.mem_range.mp ha
    rw [en_alo h ha, vu_n _ _ (Nat.ne_of_lt ha)]
  · rw [List.map_cons, List.map_nil, vu_s, he]
def okn (m : Nat) : Value → Bool
  | .ref a => decide (a ≠ m)
  | _ => true
theorem okn_vv {ad : Nat → Nat} {m q : Nat} {v : Value} (h : okn m v = true) : vv (va_up ad m q) v = vv ad v := by
  cases v with
  | ref a =>
    simp only [okn, decide_eq_true_eq] at h
    exact congrArg Value.ref (vu_n _ _ h)
  | _ => rfl
theorem okn_lv {ad : Nat → Nat} {m q : Nat} {lv : List (Nat × Value)} (h : lv.all (fun q => okn m q.2) = true) : lvv (va_up ad m q) lv = lvv ad lv := by
  unfold lvv
  refine List.map_congr_left fun q hq => ?_
  rw [okn_vv (List.all_eq_true.mp h q hq)]
theorem okn_st {ad : Nat → Nat} {m q : Nat} {st : List Value} (h : st.all (okn m) = true) : st.map (vv (va_up ad m q)) = st.map (vv ad) :=
  List.map_congr_left fun q hq => okn_vv (List.all_eq_true.mp h q hq)
theorem Cx.alo {sc : Sc} {μ : Mu} {fl : Bool} {X : Hp} {p : Program} {s : State} {m : MethodId} {args : Array Value} {meth : Method} {c : Code} {D : va_G} {ca : Nat → ClassId} {A : Nat → Prop} {n0 : Nat} {ad0 ad : Nat → Nat} {H H1 : Heap} {locs : List Loc} {kd N q : Nat} {e : va_E} (C : Cx sc μ fl p s m args meth c D ca A n0 ad0 ad X H locs) (h1 : X.1 < 1000) (he : en ca (va_up ad X.1 q) (alo X kd N) X.1 = e)
    (hP1 : va_P D vwCl (wsX ca ad X ++ [(q, e)]) H1) (hD1 : va_D A (wsX ca ad X ++ [(q, e)])) (hS1 : va_S A s.heap H1 locs) : Cx sc μ fl p s m args meth c D ca A n0 ad0 (va_up ad X.1 q) (alo X kd N) H1 locs := by
  obtain ⟨⟨hx, hb, hr, hml, hown, hts, hlocks, hnm, hA, hK, hST⟩, hnn, hP, hD, hS⟩ := id C
  rw [wsX_alo hnn.2.2 he] at hP1 hD1
  refine ⟨⟨hx, hb, hr, hml, hown, hts, hlocks, hnm, hA, hK, hST.ad (fun a ha => vu_n _ _ (by omega))⟩, ⟨Nat.le_succ_of_le hnn.1, fun a hg ha => ?_, hnn.2.2.alo h1⟩, hP1, hD1, hS1⟩
  have ha : a < n0 ∨ X.1 + 1 ≤ a := ha
  have hn := hnn.1
  rw [vu_n _ _ (by omega)]
  exact hnn.2.1 a hg (by omega)
section Alloc
variable {sc : Sc} {μ : Mu} {d mc ms : Nat} {post : Po} {k n pc : Nat} {lv : List (Nat × Value)} {st : List Value} {X : Hp}
theorem r_new {ci idx N : Nat} {C2 : String} {T : u_T} {ty0 : Nat → FieldType} (h1 : X.1 < 1000) (hci : vwCl[ci]? = some (C2, T, N)) (hc5 : ci < 50) (hin : ∀ w ∈ u_ws C2 T N, w ∈ gtb) (hty : ∀ k, k < N → parseFieldDescriptor (T k).2.2.1 = some (ty0 k)) (hfd : ∀ j, j < N → (fks ci)[j]? = some (match ty0 j with | .long => 1 | .object _ => 2 | .array _ => 2 | _ => 0) ∧ (match ty0 j with | .float => False | .double => False | _ => True)) (hlk : Cond.classLink μ.1.cls idx C2 ∈ gtb) (hins : Cond.instantiable C2 N ∈ gtb) (hini : Cond.initialized C2 ∈ gtb) (hok : lv.all (fun q => okn X.1 q.2) = true ∧ st.all (okn X.1) = true) (hk : k + 1 ≤ mc) (hn : n + N ≤ ms) (hd : decode μ.2.1 pc = .ok (.new idx, 3)) (kk : RR sc μ d mc ms post (k + 1) (n + N) (pc + 3) lv (.ref X.1 :: st) (alo X ci 0)) : RR sc μ d mc ms post k n pc lv st X := by

  intro p l e s m args below meth c D ca A n0 ad0 ad H locs ls C hl
  obtain ⟨⟨hx, hb, hr, hml, hown, hts, hlocks, hnm, hA, hK, hST⟩, hnn, hP, hD, hS⟩ := id C
  refine va_new hx hb hts hin ty0 hty hown (hts _ hlk) (hts _ hins) (hts _ hini) hK hP hD hS hA hci (fs := (fks ci).mapIdx (fun k kd => fv (fun _ => 0) (alo X ci 0) X.1 k kd)) ?_ hk hn hd (fun q H1 hP1 hD1 hS1 => ?_)
  · intro j hj
    obtain ⟨g1, g2⟩ := hfd j hj
    have hi : (alo X ci 0).2.2.1 X.1 = fun _ => 0 := upr_s _ _ _
    have hL : (alo X ci 0).2.2.2.1 X.1 = fun _ => 0 := upr_s _ _ _
    have hR : (alo X ci 0).2.2.2.2 X.1 = fun _ => none := upr_s _ _ _
    unfold vp_V
    rw [List.getD_eq_getElem?_getD, fs_at g1]
    unfold fv
    rw [hi, hL, hR]
    cases h : ty0 j <;> rw [h] at g2 <;> first | exact absurd g2 id | rfl
  · have he : en ca (va_up ad X.1 q) (alo X ci 0) X.1 = .inr (ci, (fks ci).mapIdx (fun k kd => fv (fun _ => 0) (alo X ci 0) X.1 k kd)) := by
      have hsh : (alo X ci 0).2.1 X.1 = (ci, 0) := vu_s _ _ _
      have hR : (alo X ci 0).2.2.2.2 X.1 = fun _ => none := upr_s _ _ _
      rw [fks_at hsh hc5]
      congr 3
      funext k kd
      unfold fv
      rw [hR]
      rfl
    have K := kk p l e s m args below meth c D ca A n0 ad0 (va_up ad X.1 q) H1 locs ls (C.alo h1 he hP1 hD1 hS1) (by rw [okn_lv hok.1]; exact hl)
    rw [List.map_cons, okn_st hok.2] at K
    have e9 : vv (va_up ad X.1 q) (.ref X.1) = .ref q := congrArg Value.ref (vu_s _ _ _)
    rw [e9] at K
    exact K

theorem r_newaI {v : Int32} {N : Nat} (h1 : X.1 < 1000) (hN : v.toNatClampNeg = N) (hv : ¬ v < 0) (hN2 : N ≤ 10000) (hac : Cond.arrayClass .int ∈ gtb) (hok : lv.all (fun q => okn X.1 q.2) = true ∧ st.all (okn X.1) = true) (hk : k + 1 ≤ mc) (hn : n + N ≤ ms) (hd : decode μ.2.1 pc = .ok (.newarray .int, 2)) (kk : RR sc μ d mc ms post (k + 1) (n + N) (pc + 2) lv (.ref X.1 :: st) (alo X 50 N)) : RR sc μ d mc ms post k n pc lv (.int v :: st) X := by
  intro p l e s m args below meth c D ca A n0 ad0 ad H locs ls C hl
  obtain ⟨⟨hx, hb, hr, hml, hown, hts, hlocks, hnm, hA, hK, hST⟩, hnn, hP, hD, hS⟩ := id C
  refine va_newa hx hb (atype := .int) (hts _ hac) (ty := .int) rfl hK hP hD hS hA (a0 := (N, .inl (fun _ => 0))) (fun _ => rfl) hv hN (by simp only [componentBytes]; omega) hk hn hd (fun q cA H1 hK1 hP1 hD1 hS1 => ?_)
  have hcA : cA = ca 0 := by
    have g1 := (hK1.2 5 (cA, .int) rfl).2
    have g2 := (hK.2 0 (ca 0, .int) rfl).2
    exact Option.some.inj (Eq.trans (Eq.symm g1) g2)
  subst hcA
  have he : en ca (va_up ad X.1 q) (alo X 50 N) X.1 = .inl (ca 0, (N, .inl (fun _ => 0))) := by
    have hsh : (alo X 50 N).2.1 X.1 = (50, N) := vu_s _ _ _
    rw [en_50 hsh]
    simp [alo, upr]
  have K := kk p l e s m args below meth c D ca A n0 ad0 (va_up ad X.1 q) H1 locs ls (C.alo h1 he hP1 hD1 hS1) (by rw [okn_lv hok.1]; exact hl)
  rw [List.map_cons, okn_st hok.2] at K
  have e9 : vv (va_up ad X.1 q) (.ref X.1) = .ref q := congrArg Value.ref (vu_s _ _ _)
  rw [e9] at K
  exact K

theorem r_newaB {v : Int32} {N : Nat} (h1 : X.1 < 1000) (hN : v.toNatClampNeg = N) (hv : ¬ v < 0) (hN2 : N ≤ 10000) (hac : Cond.arrayClass .byte ∈ gtb) (hok : lv.all (fun q => okn X.1 q.2) = true ∧ st.all (okn X.1) = true) (hk : k + 1 ≤ mc) (hn : n + N ≤ ms) (hd : decode μ.2.1 pc = .ok (.newarray .byte, 2)) (kk : RR sc μ d mc ms post (k + 1) (n + N) (pc + 2) lv (.ref X.1 :: st) (alo X 51 N)) : RR sc μ d mc ms post k n pc lv (.int v :: st) X := by
  intro p l e s m args below meth c D ca A n0 ad0 ad H locs ls C hl
  obtain ⟨⟨hx, hb, hr, hml, hown, hts, hlocks, hnm, hA, hK, hST⟩, hnn, hP, hD, hS⟩ := id C
  refine va_newa hx hb (atype := .byte) (hts _ hac) (ty := .byte) rfl hK hP hD hS hA (a0 := (N, .inl (fun _ => 0))) (fun _ => rfl) hv hN (by simp only [componentBytes]; omega) hk hn hd (fun q cA H1 hK1 hP1 hD1 hS1 => ?_)
  have hcA : cA = ca 1 := by
    have g1 := (hK1.2 5 (cA, .byte) rfl).2
    have g2 := (hK.2 1 (ca 1, .byte) rfl).2
    exact Option.some.inj (Eq.trans (Eq.symm g1) g2)
  subst hcA
  have he : en ca (va_up ad X.1 q) (alo X 51 N) X.1 = .inl (ca 1, (N, .inl (fun _ => 0))) := by
    have hsh : (alo X 51 N).2.1 X.1 = (51, N) := vu_s _ _ _
    rw [en_51 hsh]
    simp [alo, upr]
  have K := kk p l e s m args below meth c D ca A n0 ad0 (va_up ad X.1 q) H1 locs ls (C.alo h1 he hP1 hD1 hS1) (by rw [okn_lv hok.1]; exact hl)
  rw [List.map_cons, okn_st hok.2] at K
  have e9 : vv (va_up ad X.1 q) (.ref X.1) = .ref q := congrArg Value.ref (vu_s _ _ _)
  rw [e9] at K
  exact K

theorem r_newaZ {v : Int32} {N : Nat} (h1 : X.1 < 1000) (hN : v.toNatClampNeg = N) (hv : ¬ v < 0) (hN2 : N ≤ 10000) (hac : Cond.arrayClass .boolean ∈ gtb) (hok : lv.all (fun q => okn X.1 q.2) = true ∧ st.all (okn X.1) = true) (hk : k + 1 ≤ mc) (hn : n + N ≤ ms) (hd : decode μ.2.1 pc = .ok (.newarray .boolean, 2)) (kk : RR sc μ d mc ms post (k + 1) (n + N) (pc + 2) lv (.ref X.1 :: st) (alo X 52 N)) : RR sc μ d mc ms post k n pc lv (.int v :: st) X := by
  intro p l e s m args below meth c D ca A n0 ad0 ad H locs ls C hl
  obtain ⟨⟨hx, hb, hr, hml, hown, hts, hlocks, hnm, hA, hK, hST⟩, hnn, hP, hD, hS⟩ := id C
  refine va_newa hx hb (atype := .boolean) (hts _ hac) (ty := .boolean) rfl hK hP hD hS hA (a0 := (N, .inl (fun _ => 0))) (fun _ => rfl) hv hN (by simp only [componentBytes]; omega) hk hn hd (fun q cA H1 hK1 hP1 hD1 hS1 => ?_)
  have hcA : cA = ca 2 := by
    have g1 := (hK1.2 5 (cA, .boolean) rfl).2
    have g2 := (hK.2 2 (ca 2, .boolean) rfl).2
    exact Option.some.inj (Eq.trans (Eq.symm g1) g2)
  subst hcA
  have he : en ca (va_up ad X.1 q) (alo X 52 N) X.1 = .inl (ca 2, (N, .inl (fun _ => 0))) := by
    have hsh : (alo X 52 N).2.1 X.1 = (52, N) := vu_s _ _ _
    rw [en_52 hsh]
    simp [alo, upr]
  have K := kk p l e s m args below meth c D ca A n0 ad0 (va_up ad X.1 q) H1 locs ls (C.alo h1 he hP1 hD1 hS1) (by rw [okn_lv hok.1]; exact hl)
  rw [List.map_cons, okn_st hok.2] at K
  have e9 : vv (va_up ad X.1 q) (.ref X.1) = .ref q := congrArg Value.ref (vu_s _ _ _)
  rw [e9] at K
  exact K

theorem r_newaL {v : Int32} {N : Nat} (h1 : X.1 < 1000) (hN : v.toNatClampNeg = N) (hv : ¬ v < 0) (hN2 : N ≤ 10000) (hac : Cond.arrayClass .long ∈ gtb) (hok : lv.all (fun q => okn X.1 q.2) = true ∧ st.all (okn X.1) = true) (hk : k + 1 ≤ mc) (hn : n + N ≤ ms) (hd : decode μ.2.1 pc = .ok (.newarray .long, 2)) (kk : RR sc μ d mc ms post (k + 1) (n + N) (pc + 2) lv (.ref X.1 :: st) (alo X 53 N)) : RR sc μ d mc ms post k n pc lv (.int v :: st) X := by
  intro p l e s m args below meth c D ca A n0 ad0 ad H locs ls C hl
  obtain ⟨⟨hx, hb, hr, hml, hown, hts, hlocks, hnm, hA, hK, hST⟩, hnn, hP, hD, hS⟩ := id C
  refine va_newa hx hb (atype := .long) (hts _ hac) (ty := .long) rfl hK hP hD hS hA (a0 := (N, .inr (.inl (fun _ => 0)))) (fun _ => rfl) hv hN (by simp only [componentBytes]; omega) hk hn hd (fun q cA H1 hK1 hP1 hD1 hS1 => ?_)
  have hcA : cA = ca 3 := by
    have g1 := (hK1.2 5 (cA, .long) rfl).2
    have g2 := (hK.2 3 (ca 3, .long) rfl).2
    exact Option.some.inj (Eq.trans (Eq.symm g1) g2)
  subst hcA
  have he : en ca (va_up ad X.1 q) (alo X 53 N) X.1 = .inl (ca 3, (N, .inr (.inl (fun _ => 0)))) := by
    have hsh : (alo X 53 N).2.1 X.1 = (53, N) := vu_s _ _ _
    rw [en_53 hsh]
    simp [alo, upr]
  have K := kk p l e s m args below meth c D ca A n0 ad0 (va_up ad X.1 q) H1 locs ls (C.alo h1 he hP1 hD1 hS1) (by rw [okn_lv hok.1]; exact hl)
  rw [List.map_cons, okn_st hok.2] at K
  have e9 : vv (va_up ad X.1 q) (.ref X.1) = .ref q := congrArg Value.ref (vu_s _ _ _)
  rw [e9] at K
  exact K

theorem r_newq {idx : Nat} {v : Int32} {N : Nat} (h1 : X.1 < 1000) (hN : v.toNatClampNeg = N) (hv : ¬ v < 0) (hN2 : N ≤ 10000) (hlk : Cond.classLink μ.1.cls idx RX3 ∈ gtb) (hok : lv.all (fun q => okn X.1 q.2) = true ∧ st.all (okn X.1) = true) (hk : k + 1 ≤ mc) (hn : n + N ≤ ms) (hd : decode μ.2.1 pc = .ok (.anewarray idx, 3)) (kk : RR sc μ d mc ms post (k + 1) (n + N) (pc + 3) lv (.ref X.1 :: st) (alo X 54 N)) : RR sc μ d mc ms post k n pc lv (.int v :: st) X := by
  intro p l e s m args below meth c D ca A n0 ad0 ad H locs ls C hl
  obtain ⟨⟨hx, hb, hr, hml, hown, hts, hlocks, hnm, hA, hK, hST⟩, hnn, hP, hD, hS⟩ := id C
  refine va_newq hx hb hown (hts _ hlk) hST.2.2.2.2 hK hP hD hS hA hv hN (by omega) hk hn hd (fun q cA H1 hK1 hP1 hD1 hS1 => ?_)
  have hcA : cA = ca 4 := by
    obtain ⟨_, _, _, _, _, g1⟩ := (hK1.2 5 (cA, .object RX3) rfl).2
    obtain ⟨_, _, _, _, _, g2⟩ := (hK.2 4 (ca 4, .object RX3) rfl).2
    exact Option.some.inj (Eq.trans (Eq.symm g1) g2)
  subst hcA
  have he : en ca (va_up ad X.1 q) (alo X 54 N) X.1 = .inl (ca 4, N, .inr (.inr (.inr (.inr (fun _ => none))))) := by
    have hsh : (alo X 54 N).2.1 X.1 = (54, N) := vu_s _ _ _
    rw [en_54 hsh]
    simp [alo, upr]
  have K := kk p l e s m args below meth c D ca A n0 ad0 (va_up ad X.1 q) H1 locs ls (C.alo h1 he hP1 hD1 hS1) (by rw [okn_lv hok.1]; exact hl)
  rw [List.map_cons, okn_st hok.2] at K
  have e9 : vv (va_up ad X.1 q) (.ref X.1) = .ref q := congrArg Value.ref (vu_s _ _ _)
  rw [e9] at K
  exact K

theorem nn_c {z : Int32} (hz : ¬ z < 0) : z.toInt = (z.toNatClampNeg : Int) := by
  have hz0 : (0 : Int) ≤ z.toInt := by simpa using Int32.le_iff_toInt_le.mp (Int32.not_lt.mp hz)
  show z.toInt = ((z.toInt.toNat : Nat) : Int)
  omega

theorem r_copy {a b M N idx : Nat} {sp dp nv : Int32} (hsa : X.2.1 a = (50, M)) (ha : a < X.1) (hsb : X.2.1 b = (50, N)) (hbv : b < X.1) (h1 : ¬ sp < 0) (h2 : ¬ dp < 0) (h3 : ¬ nv < 0) (h4 : sp.toNatClampNeg + nv.toNatClampNeg ≤ M) (h5 : dp.toNatClampNeg + nv.toNatClampNeg ≤ N) (hlk : Cond.methodLink μ.1.cls idx arraycopyName ∈ gtb) (hna : Cond.native arraycopyName ∈ gtb) (hsta : Cond.static arraycopyName ∈ gtb) (hini : Cond.initialized "java/lang/System" ∈ gtb) (hs : (st.map fun v => v.category).sum ≤ 8) (hdd : 1 ≤ d) (hd : decode μ.2.1 pc = .ok (.invokestatic idx, 3)) (kk : RR sc μ d mc ms post k n (pc + 3) lv st (X.1, X.2.1, upr X.2.2.1 b (va_cpy (X.2.2.1 a) (X.2.2.1 b) sp.toNatClampNeg dp.toNatClampNeg nv.toNatClampNeg), X.2.2.2)) : RR sc μ d mc ms post k n pc lv (.int nv :: .int dp :: .ref b :: .int sp :: .ref a :: st) X := by
  intro p l e s m args below meth c D ca A n0 ad0 ad H locs ls C hl
  obtain ⟨⟨hx, hb, hr, hml, hown, hts, hlocks, hnm, hA, hK, hST⟩, hnn, hP, hD, hS⟩ := id C
  have e8 : ((st.map (vv ad)).map fun v => v.category) = st.map fun v => v.category := by
    rw [List.map_map]
    exact List.map_congr_left fun v _ => vv_cat ad v
  have e7 : ((st.map (vv ad)).map fun v => v.category).sum + (nativeFrameWords "java/lang/System" "arraycopy" 5 + 11) ≤ (rr d mc ms).locals := by
    rw [e8]
    have e6 : nativeFrameWords "java/lang/System" "arraycopy" 5 ≤ 30 := by decide +kernel
    show _ ≤ 64 * d
    omega
  have hea : (wsX ca ad X)[a]? = some (ad a, .inl (ca 0, M, .inl (X.2.2.1 a))) := by rw [wsX_at ca ad X ha, en_50 hsa]
  have heb : (wsX ca ad X)[b]? = some (ad b, .inl (ca 0, N, .inl (X.2.2.1 b))) := by rw [wsX_at ca ad X hbv, en_50 hsb]
  refine va_copyi hx hb (by rw [hml]; exact hl.1.symm) hown (hts _ hlk) (hts _ hna) (hts _ hsta) (hts _ hini) hK hP hD hS a b 0 0 (ty := .int) hea heb rfl rfl rfl h1 h2 h3 h4 h5 (fun _ _ => rfl) hdd e7 hd (fun H1 locs1 hP1 hD1 hS1 => ?_)
  have hw : (wsX ca ad X).set b (ad b, .inl (ca 0, N, .inl (va_cpy (X.2.2.1 a) (X.2.2.1 b) sp.toNatClampNeg dp.toNatClampNeg nv.toNatClampNeg))) = wsX ca ad (X.1, X.2.1, upr X.2.2.1 b (va_cpy (X.2.2.1 a) (X.2.2.1 b) sp.toNatClampNeg dp.toNatClampNeg nv.toNatClampNeg), X.2.2.2) := by
    refine wsX_set hbv rfl ?_ (fun b hb' => en_I hb')
    rw [en_50 (X := (X.1, X.2.1, upr X.2.2.1 b (va_cpy (X.2.2.1 a) (X.2.2.1 b) sp.toNatClampNeg dp.toNatClampNeg nv.toNatClampNeg), X.2.2.2)) (N := N) hsb]
    simp [upr]
  rw [hw] at hP1 hD1
  exact kk p l e s m args below meth c D ca A n0 ad0 ad H1 locs1 ls (C.to rfl hnn.2.2 hP1 hD1 hS1) hl

theorem r_copyT {a b N idx : Nat} {t : List Int32} {sp dp nv : Int32} (hq : (a, t) ∈ oT) (hsb : X.2.1 b = (50, N)) (hbv : b < X.1) (h1 : ¬ sp < 0) (h2 : ¬ dp < 0) (h3 : ¬ nv < 0) (h4 : sp.toNatClampNeg + nv.toNatClampNeg ≤ t.length) (h5 : dp.toNatClampNeg + nv.toNatClampNeg ≤ N) (hlk : Cond.methodLink μ.1.cls idx arraycopyName ∈ gtb) (hna : Cond.native arraycopyName ∈ gtb) (hsta : Cond.static arraycopyName ∈ gtb) (hini : Cond.initialized "java/lang/System" ∈ gtb) (hs : (st.map fun v => v.category).sum ≤ 8) (hdd : 1 ≤ d) (hd : decode μ.2.1 pc = .ok (.invokestatic idx, 3)) (kk : RR sc μ d mc ms post k n (pc + 3) lv st (X.1, X.2.1, upr X.2.2.1 b (va_cpy (fun j => t.getD j 0) (X.2.2.1 b) sp.toNatClampNeg dp.toNatClampNeg nv.toNatClampNeg), X.2.2.2)) : RR sc μ d mc ms post k n pc lv (.int nv :: .int dp :: .ref b :: .int sp :: .ref a :: st) X := by
  intro p l e s m args below meth c D ca A n0 ad0 ad H locs ls C hl
  obtain ⟨⟨hx, hb, hr, hml, hown, hts, hlocks, hnm, hA, hK, hST⟩, hnn, hP, hD, hS⟩ := id C
  have e8 : ((st.map (vv ad)).map fun v => v.category) = st.map fun v => v.category := by
    rw [List.map_map]
    exact List.map_congr_left fun v _ => vv_cat ad v
  have e7 : ((st.map (vv ad)).map fun v => v.category).sum + (nativeFrameWords "java/lang/System" "arraycopy" 5 + 11) ≤ (rr d mc ms).locals := by
    rw [e8]
    have e6 : nativeFrameWords "java/lang/System" "arraycopy" 5 ≤ 30 := by decide +kernel
    show _ ≤ 64 * d
    omega
  have heb : (wsX ca ad X)[b]? = some (ad b, .inl (ca 0, N, .inl (X.2.2.1 b))) := by rw [wsX_at ca ad X hbv, en_50 hsb]
  have hc1 : H[ad b]? = some (vp_cell (ca 0) (N, .inl (X.2.2.1 b))) := hP b _ heb
  obtain ⟨scr, hs1, hs2, hs3, hs4, -, hs5, hs7⟩ := hST.1.1 _ hq
  have hs4 : t.length ≤ scr.slots.size := hs4
  have hc0 : H[ad a]? = some scr := by rw [hS.2.1 (ad a) (Array.getElem?_eq_some_iff.mp hs1).1 hs7]; exact hs1
  obtain ⟨hs6, k0, hk0, cm0, hkk0⟩ := hs2
  obtain ⟨-, k1, hk1, cm1, hkk1⟩ := (hK.2 0 (ca 0, .int) rfl).1 N (fun j => .int (X.2.2.1 b j))
  intro TT hT XX
  obtain ⟨vm', X', step⟩ := XX.arraycopy hx hown (hts _ hlk) (hts _ hna) (hts _ hsta) (hts _ hini) (src := ad a) (dst := ad b) (cs := scr) (cd := vp_cell (ca 0) (N, .inl (X.2.2.1 b))) (srcPos := sp) (destPos := dp) (n := nv) (by rw [hT]; exact hc0) (by rw [hT]; exact hc1)
    hs6 (fun _ h => by cases h) hs3 (fun h => by cases h) hk0 hk1 hkk0 hkk1 (by simp [refKind]) h1 h2 h3
    (by rw [nn_c h1, nn_c h3]; omega)
    (by rw [nn_c h2, nn_c h3]; show ¬ _ > ((arrV (ca 0) N (fun j => .int (X.2.2.1 b j))).slots.size : Int); rw [arrV_size]; omega)
    (fun vm₁ _ i hi => by
      have e : scr.slots.getD (sp.toNatClampNeg + i) .null = .int (t.getD (sp.toNatClampNeg + i) 0) := by
        rw [Array.getD_eq_getD_getElem?, hs5 _ (show sp.toNatClampNeg + i < t.length by omega)]
        rfl
      refine ⟨?_, ?_⟩
      · rw [e]; rfl
      · rw [e]; exact trivial)
    (g := F0 m pc ls ((Value.int nv :: .int dp :: .ref b :: .int sp :: .ref a :: st).map (vv ad))) rfl (by rw [hml]; exact hl.1) (rest := st.map (vv ad)) rfl (by rw [hb]; exact hd) hdd (by show 2 * 0 + _ + _ ≤ _; omega)
  have e1 : copied scr (vp_cell (ca 0) (N, .inl (X.2.2.1 b))) sp dp nv = vp_cell (ca 0) (N, .inl (va_cpy (fun j => t.getD j 0) (X.2.2.1 b) sp.toNatClampNeg dp.toNatClampNeg nv.toNatClampNeg)) := va_copiedX (fun z => .int z) scr (ca 0) (fun j => t.getD j 0) (X.2.2.1 b) hs5 h4
  rw [e1] at X' step
  have hlt : ad b < H.size := (Array.getElem?_eq_some_iff.mp hc1).1
  have hw : (wsX ca ad X).set b (ad b, .inl (ca 0, N, .inl (va_cpy (fun j => t.getD j 0) (X.2.2.1 b) sp.toNatClampNeg dp.toNatClampNeg nv.toNatClampNeg))) = wsX ca ad (X.1, X.2.1, upr X.2.2.1 b (va_cpy (fun j => t.getD j 0) (X.2.2.1 b) sp.toNatClampNeg dp.toNatClampNeg nv.toNatClampNeg), X.2.2.2) := by
    refine wsX_set hbv rfl ?_ (fun b hb' => en_I hb')
    rw [en_50 (X := (X.1, X.2.1, upr X.2.2.1 b (va_cpy (fun j => t.getD j 0) (X.2.2.1 b) sp.toNatClampNeg dp.toNatClampNeg nv.toNatClampNeg), X.2.2.2)) (N := N) hsb]
    simp [upr]
  have oq : ∀ q : Nat, q ≠ ad b → (H.setIfInBounds (ad b) (vp_cell (ca 0) (N, .inl (va_cpy (fun j => t.getD j 0) (X.2.2.1 b) sp.toNatClampNeg dp.toNatClampNeg nv.toNatClampNeg))))[q]? = H[q]? := fun q hq => by simp [Array.getElem?_setIfInBounds, Ne.symm hq]
  have hP1 := hP.set hD heb (e := .inl (ca 0, N, .inl (va_cpy (fun j => t.getD j 0) (X.2.2.1 b) sp.toNatClampNeg dp.toNatClampNeg nv.toNatClampNeg))) (show (H.setIfInBounds (ad b) _)[ad b]? = some _ by simp [Array.getElem?_setIfInBounds, hlt]) oq
  have hD1 := hD.set (e := .inl (ca 0, N, .inl (va_cpy (fun j => t.getD j 0) (X.2.2.1 b) sp.toNatClampNeg dp.toNatClampNeg nv.toNatClampNeg))) heb
  rw [hw] at hP1 hD1
  obtain ⟨t9, a1, b1⟩ := kk p l e s m args below meth c D ca A n0 ad0 ad _ _ ls (C.to rfl hnn.2.2 hP1 hD1 ⟨by simp; exact hS.1, fun q g1 g2 => by
      rw [oq q (fun e => g2 (by rw [e]; exact hD.2 b _ heb))]
      exact hS.2.1 q g1 g2, fun q hq => by
      rcases List.mem_append.mp hq with h | h
      · exact hS.2.2 q h
      · obtain ⟨z, -, hz⟩ := List.mem_map.mp h
        rw [← hz]
        exact hD.2 b _ heb⟩) hl _ (by rw [← hT]; rfl) X'
  exact ⟨t9, step t9 a1, b1⟩

theorem vv_lg (ad : Nat → Nat) (av : List Value) : ∀ i, lv_args i (av.map (vv ad)) = lvv ad (lv_args i av) := by
  induction av with
  | nil => intro i; rfl
  | cons v t ih =>
    intro i
    show lv_args i (vv ad v :: t.map (vv ad)) = _
    unfold lv_args
    rw [vv_cat, ih]
    rfl
theorem lg_len (ad : Nat → Nat) (av : List Value) : (lg_sl (av.map (vv ad))).length = (lg_sl av).length := by
  induction av with
  | nil => rfl
  | cons v t ih =>
    have e : ∀ (w : Value) (r : List Value), lg_sl (w :: r) = (if w.category = 2 then [Slot.val w, Slot.second] else [Slot.val w]) ++ lg_sl r := fun _ _ => rfl
    rw [List.map_cons, e, e, List.length_append, List.length_append, ih, vv_cat]
    congr 1
    split <;> rfl
/-- A METHOD'S CONTRACT, out of the walk of its body -/
theorem Con_of {av : List Value} (hy : plainName μ.1.cls = true) (hlen : (lg_sl av).length ≤ μ.2.2.1) (h : RR sc μ d mc ms post 0 0 0 (lv_args 0 av) [] X) : Con sc μ d mc ms av X post := by
  intro l D ca ad sz
  refine Met.ofW (cc := μ.2.1) (maxL := μ.2.2.1) (ret := μ.2.2.2) hy rfl ?_
  intro p e s m args below meth c s₁ B hml hv
  obtain ⟨rfl, hsz, hP, hK, hD0, hPV, hST⟩ := hv
  subst hsz
  have hts := atoms_spec (ws := wm μ) B.pre
  have hl := lv_entry (av.map (vv ad)) (n := μ.2.2.1) (by rw [lg_len]; exact hlen)
  rw [lg_entry_eq]
  rw [vv_lg] at hl
  exact h p l e s m _ below meth c D ca (va_A (wsX ca ad X) s.heap.size) X.1 ad ad s.heap [] _ ⟨⟨B.exec, B.bytes, B.returns, hml, findClass_of_methodNamed B.named, fun w hw => hts w (List.mem_cons_of_mem _ hw), B.notSynchronized, (name_of_methodNamed B.named B.method).1, fun q hq => Or.inr hq, hK, hST⟩, ⟨Nat.le_refl _, fun _ _ _ => rfl, hPV⟩, hP, hD0.self, va_S.rf⟩ hl
end Alloc

