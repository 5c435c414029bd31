theorem gtb_good : ∀ w ∈ gtb, (w.onTables && w.keeps) = true ∨ ∃ ty, w = .arrayClass ty := fun _ h => good_of_word (List.mem_filter.mp h).2
theorem wm_good {μ : Mu} (h : Cond.code μ.1 μ.2.1 μ.2.2.1 μ.2.2.2 ∈ gtb) : GoodIn gtb (wm μ) := by
  intro w hw
  rcases List.mem_cons.mp hw with rfl | hw
  · exact ⟨h, gtb_good _ h⟩
  · exact ⟨hw, gtb_good _ hw⟩
/-- a value that no new cell bears -/
def okr (m : Nat) : Value → Bool
  | .ref a => decide (a < m) || decide (1000 ≤ a)
  | _ => true
/-- a value that neither a new cell nor a camp bears -/
def okw (m : Nat) : Value → Bool
  | .ref a => (decide (a < 3) || decide (33 ≤ a)) && (decide (a < m) || decide (1000 ≤ a))
  | _ => true
theorem okw_vv {ad ad' : Nat → Nat} {m M : Nat} {v : Value} (hM : M ≤ 1000) (h : okw m v = true) (ha : ∀ a, a < 3 ∨ 33 ≤ a → a < m ∨ M ≤ a → ad' a = ad a) : vv ad' v = vv ad v := by
  cases v with
  | ref a =>
    simp only [okw, Bool.and_eq_true, Bool.or_eq_true, decide_eq_true_eq] at h
    exact congrArg Value.ref (ha a h.1 (h.2.imp id (fun z => Nat.le_trans hM z)))
  | _ => rfl
theorem okw_lv {ad ad' : Nat → Nat} {m M : Nat} {lv : List (Nat × Value)} (hM : M ≤ 1000) (h : lv.all (fun q => okw m q.2) = true) (ha : ∀ a, a < 3 ∨ 33 ≤ a → a < m ∨ M ≤ a → ad' a = ad a) : lvv ad' lv = lvv ad lv := by
  unfold lvv
  refine List.map_congr_left fun q hq => ?_
  rw [okw_vv hM (List.all_eq_true.mp h q hq) ha]
theorem okw_st {ad ad' : Nat → Nat} {m M : Nat} {st : List Value} (hM : M ≤ 1000) (h : st.all (okw m) = true) (ha : ∀ a, a < 3 ∨ 33 ≤ a → a < m ∨ M ≤ a → ad' a = ad a) : st.map (vv ad') = st.map (vv ad) :=
  List.map_congr_left fun q hq => okw_vv hM (List.all_eq_true.mp h q hq) ha
theorem okr_vv {ad ad' : Nat → Nat} {m M : Nat} {v : Value} (hM : M ≤ 1000) (h : okr m v = true) (ha : ∀ a, a < m ∨ M ≤ a → ad' a = ad a) : vv ad' v = vv ad v := by
  cases v with
  | ref a =>
    simp only [okr, Bool.or_eq_true, decide_eq_true_eq] at h
    exact congrArg Value.ref (ha a (h.imp id (fun z => Nat.le_trans hM z)))
  | _ => rfl
theorem okr_lv {ad ad' : Nat → Nat} {m M : Nat} {lv : List (Nat × Value)} (hM : M ≤ 1000) (h : lv.all (fun q => okr m q.2) = true) (ha : ∀ a, a < m ∨ M ≤ a → ad' a = ad a) : lvv ad' lv = lvv ad lv := by
  unfold lvv
  refine List.map_congr_left fun q hq => ?_
  rw [okr_vv hM (List.all_eq_true.mp h q hq) ha]
theorem okr_st {ad ad' : Nat → Nat} {m M : Nat} {st : List Value} (hM : M ≤ 1000) (h : st.all (okr m) = true) (ha : ∀ a, a < m ∨ M ≤ a → ad' a = ad a) : st.map (vv ad') = st.map (vv ad) :=
  List.map_congr_left fun q hq => okr_vv hM (List.all_eq_true.mp h q hq) ha
section Calls
variable {sc : Sc} {μ : Mu} {d mc ms : Nat} {post : Po} {k n pc : Nat} {lv : List (Nat × Value)} {st : List Value} {X : Hp}
/-- behind a call -/
theorem W_after {p : Program} {l : Launch} {e : Env} {s : State} {m : MethodId} {args : Array Value} {below : List Frame} {meth : Method} {c : Code} {D : va_G} {ca : Nat → ClassId} {A : Nat → Prop} {n0 : Nat} {ad0 ad : Nat → Nat} {H : Heap} {locs : List Loc} {ls : Array Slot} {mc' ms' : Nat} {post' : Po} {av : Array Value} {st0 : List Value}
    (C : Cx sc μ post.1 p s m args meth c D ca A n0 ad0 ad X H locs) (hl : lv_has ls μ.2.2.1 (lvv ad lv))
    (hrun : va_Run p l e (rr d mc ms) s m args below meth c H locs k n mc' ms' (F0 m pc ls st0) (st.map (vv ad)) (QC D ca X.1 ad (va_A (wsX ca ad X) H.size) post' av) (va_A (wsX ca ad X) H.size))
    (hok : ((post'.1 = true ∧ ((∀ r Y, post'.2 r Y → Y.1 = X.1) ∨ (lv.all (fun q => okr X.1 q.2) = true ∧ st.all (okr X.1) = true))) ∨ (post.1 = false ∧ lv.all (fun q => okw X.1 q.2) = true ∧ st.all (okw X.1) = true)))
    (kk : ∀ r Y, post'.2 r Y → RR sc μ d mc ms post (k + mc') (n + ms') (pc + 3) lv (r.toList ++ st) Y) :
    W p l e (rr d mc ms) s m args below meth c H locs k n (MQ below (QC D ca n0 ad0 A post) args s mc ms A) (F0 m pc ls st0) := by
  obtain ⟨⟨hx, hb, hr, hml, hown, hts, hlocks, hnm, hA, hK, hST⟩, hnn, hP, hD, hS⟩ := id C
  intro T hT XX
  obtain ⟨v, st₀, t, T', L, h0, X', hL, e1, e2, ⟨⟨r, Y, ad', hv, hp, hn', hP1, hK1, hD1⟩, hz, hk⟩, stp⟩ := hrun T hT XX
  have hv : v = r.map (vv ad') := by injection hv
  subst hv
  rw [h0] at hz hk
  have hf : ∀ q, va_A (wsX ca ad X) H.size q → A q := by
    intro q hq
    rcases hq with ⟨j, e9, h9⟩ | h9
    · exact hD.2 j _ h9
    · exact hA q (Nat.le_trans hS.1 h9)
  have had : ∀ a, ag post'.1 a → a < X.1 ∨ Y.1 ≤ a → ad' a = ad a := hn'.2.1
  have hYM : Y.1 ≤ 1000 := hn'.2.2.1
  have hlv : lvv ad' lv = lvv ad lv := by
    rcases hok with ⟨hf1, h | ⟨h, -⟩⟩ | ⟨-, h, -⟩
    · have e9 := h r Y hp
      have : ad' = ad := funext fun a => had a (Or.inl hf1) (by rw [e9]; exact Nat.lt_or_ge a X.1)
      rw [this]
    · exact okr_lv hYM h (fun a => had a (Or.inl hf1))
    · exact okw_lv hYM h (fun a z => had a (Or.inr z))
  have hst : st.map (vv ad') = st.map (vv ad) := by
    rcases hok with ⟨hf1, h | ⟨-, h⟩⟩ | ⟨-, -, h⟩
    · have e9 := h r Y hp
      have : ad' = ad := funext fun a => had a (Or.inl hf1) (by rw [e9]; exact Nat.lt_or_ge a X.1)
      rw [this]
    · exact okr_st hYM h (fun a => had a (Or.inl hf1))
    · exact okw_st hYM h (fun a z => had a (Or.inr z))
  have hag : ∀ a, ag post.1 a → ag post'.1 a := by
    intro a ha
    rcases hok with ⟨hf1, -⟩ | ⟨hf1, -⟩
    · exact Or.inl hf1
    · rcases ha with h | h
      · rw [hf1] at h; cases h
      · exact Or.inr h
  have C2 : Cx sc μ post.1 p s m args meth c D ca A n0 ad0 ad' Y T'.heap (locs ++ L) := by
    refine ⟨⟨hx, hb, hr, hml, hown, hts, hlocks, hnm, hA, hK, hST.ad (fun a ha => had a (Or.inr (Or.inr (by omega))) (Or.inr (Nat.le_trans hYM ha)))⟩, ⟨Nat.le_trans hnn.1 hn'.1, fun a hg ha => ?_, hn'.2.2⟩, by rw [e1]; exact hP1, hD1.weaken (fun _ q _ h => hf q.1 h), ?_⟩
    · rcases ha with ha | ha
      · rw [had a (hag a hg) (Or.inl (Nat.lt_of_lt_of_le ha hnn.1)), hnn.2.1 a hg (Or.inl ha)]
      · rw [had a (hag a hg) (Or.inr ha), hnn.2.1 a hg (Or.inr (Nat.le_trans hn'.1 ha))]
    · refine ⟨Nat.le_trans hS.1 (by rw [e1]; exact hz), fun q h1 h2 => ?_, fun q hq => ?_⟩
      · rw [e1, hk q (Nat.lt_of_lt_of_le h1 hS.1) (fun z => h2 (hf q z))]
        exact hS.2.1 q h1 h2
      · rcases List.mem_append.mp hq with h | h
        · exact hS.2.2 q h
        · exact hf _ (hL q h)
  have K := kk r Y hp p l e s m args below meth c D ca A n0 ad0 ad' T'.heap (locs ++ L) ls C2 (by rw [hlv]; exact hl)
  rw [List.map_append, hst] at K
  have hrl : r.toList.map (vv ad') = (r.map (vv ad')).toList := by cases r <;> rfl
  rw [hrl] at K
  obtain ⟨t2, a1, b1⟩ := K T' rfl X'
  exact ⟨t2, stp t2 a1, b1⟩
theorem Pc_blind {av : List Value} {B : State → Prop} (h : ∀ (U : State) (g : JFrame) (mk : MethodId) (a : Array Value), B U → B (U.calling g mk a)) : FrameBlind (va_Pc av B) := fun a U g mk q => ⟨q.1, h U g mk a q.2⟩
theorem Cx.pre {fl : Bool} {p : Program} {s : State} {m : MethodId} {args : Array Value} {meth : Method} {c : Code} {D : va_G} {ca : Nat → ClassId} {A : Nat → Prop} {n0 : Nat} {ad0 ad : Nat → Nat} {H : Heap} {locs : List Loc} (C : Cx sc μ fl p s m args meth c D ca A n0 ad0 ad X H locs) (av : List Value) :
    PreS s H (va_Pc (av.map (vv ad)) (fun U => U.heap.size = H.size ∧ va_P D vwCl (wsX ca ad X) U.heap ∧ va_K D vwCl (tyl ca) U ∧ va_D (fun _ => True) (wsX ca ad X) ∧ PV X ∧ ST sc ad (va_A (wsX ca ad X) H.size) U U.heap)) (av.map (vv ad)) := by
  obtain ⟨⟨hx, hb, hr, hml, hown, hts, hlocks, hnm, hA, hK, hST⟩, hnn, hP, hD, hS⟩ := id C
  refine ⟨Pc_blind (fun U g mk a q => ⟨q.1, q.2.1, va_K.moved (u := U) (U := U.calling g mk a) (Vm.Alike.refl U.vm) q.2.2.1, q.2.2.2.1, q.2.2.2.2.1, ST.same (U := U.calling g mk a) q.2.2.2.2.2 rfl⟩), fun U hU hW => ⟨rfl, by rw [hU], by rw [hU]; exact hP, va_K.moved hW.alike hK, hD.weaken (fun _ _ _ _ => trivial), hnn.2.2, ?_⟩⟩
  rw [hU]
  refine hST.go hW (fun a h1 h2 => hS.2.1 a h1 h2) ?_
  intro q hq
  rcases hq with ⟨j, e9, h9⟩ | h9
  · exact hD.2 j _ h9
  · exact hA q (Nat.le_trans hS.1 h9)
/-- the words of a call: at own's pool entry idx stands μ', of np parameters -/
def CL (own : String) (idx : Nat) (μ' : Mu) (np : Nat) : Prop := (Cond.methodLink own idx μ'.1 ∈ gtb ∨ ∃ host, (own, idx, μ'.1, host) ∈ nM) ∧ Cond.initialized μ'.1.cls ∈ gtb ∧ Cond.code μ'.1 μ'.2.1 μ'.2.2.1 μ'.2.2.2 ∈ gtb ∧ (μ'.1.cls ≠ "java/lang/invoke/MethodHandle" ∧ μ'.1.cls ≠ "java/lang/invoke/VarHandle" ∧ (parseMethodDescriptor μ'.1.desc).map (fun d => d.parameters.length) = some np) ∧ μ'.2.2.1 ≤ 40
theorem rr_room {d' d mc' ms' mc ms nL : Nat} (hd : d' + 1 ≤ d) (h : nL ≤ 40) : (rr d' mc' ms').frames + 1 ≤ (rr d mc ms).frames ∧ 8 + (nL + 11) + (rr d' mc' ms').locals ≤ (rr d mc ms).locals := ⟨hd, by show 8 + (nL + 11) + 64 * d' ≤ 64 * d; omega⟩
variable {idx d' mc' ms' : Nat} {μ' : Mu} {post' : Po}
theorem r_callV {b ci N : Nat} {T : u_T} {As : List Value} (hc : Con sc μ' d' mc' ms' (.ref b :: As) X post') (hdd : d' + 1 ≤ d) (hcl : CL μ.1.cls idx μ' As.length) (hin : Cond.instanceMethod μ'.1 ∈ gtb) (hse : Cond.selects μ'.1.cls μ'.1 μ'.1 ∈ gtb) (hsh : X.2.1 b = (ci, 0)) (hbv : b < X.1) (hci : vwCl[ci]? = some (μ'.1.cls, T, N)) (hc5 : ci < 50) (hs : (st.map fun v => v.category).sum ≤ 8) (hk : k + mc' ≤ mc) (hn : n + ms' ≤ ms) (hd : decode μ.2.1 pc = .ok (.invokevirtual idx, 3)) (hok : ((post'.1 = true ∧ ((∀ r Y, post'.2 r Y → Y.1 = X.1) ∨ (lv.all (fun q => okr X.1 q.2) = true ∧ st.all (okr X.1) = true))) ∨ (post.1 = false ∧ lv.all (fun q => okw X.1 q.2) = true ∧ st.all (okw X.1) = true))) (kk : ∀ r Y, post'.2 r Y → RR sc μ d mc ms post (k + mc') (n + ms') (pc + 3) lv (r.toList ++ st) Y) : RR sc μ d mc ms post k n pc lv (As.reverse ++ .ref b :: st) X := by
  have hsum : ∀ (ad : Nat → Nat) (m : MethodId) (ls : Array Slot) (z : List Value), 2 * (F0 m pc ls z).monitorRoom + ((st.map (vv ad)).map fun v => v.category).sum ≤ 8 := by
    intro ad m ls z
    have e9 : ((st.map (vv ad)).map fun v => v.category) = st.map fun v => v.category := by
      rw [List.map_map]
      exact List.map_congr_left fun v _ => vv_cat ad v
    rw [e9]
    exact lv_room hs
  intro p l e s m args below meth c D ca A n0 ad0 ad H locs ls C hl
  obtain ⟨⟨hx, hb, hr, hml, hown, hts, hlocks, hnm, hA, hK, hST⟩, hnn, hP, hD, hS⟩ := id C
  have he : (wsX ca ad X)[b]? = some (ad b, .inr (ci, (fks ci).mapIdx (fun k kd => fv ad X b k kd))) := by rw [wsX_at ca ad X hbv, fks_at hsh hc5]
  have hrec := va_recv hK hP (q := (μ'.1.cls, T, N)) hci he
  have hpre := C.pre (.ref b :: As)
  have hst : (As.reverse ++ .ref b :: st).map (vv ad) = (As.map (vv ad)).reverse ++ .ref (ad b) :: st.map (vv ad) := by rw [List.map_append, List.map_reverse]; rfl
  have hM := hc l D ca ad H.size
  have hq := hcl.2.2.2.1
  rcases hcl.1 with hlk | ⟨host, hlk⟩
  · have cw : CallW (rr d mc ms) s args μ.1.cls μ'.1.cls idx μ'.1 μ'.2.1 μ'.2.2.1 μ'.2.2.2 (wm μ') (rr d' mc' ms') mc' ms' As.length := ⟨callB_of As.length hts (wm_good hcl.2.2.1) rfl rfl rfl (hts _ hcl.2.1) (hts _ hlk) hq (rr_room hdd hcl.2.2.2.2), hts _ hin, hts _ hse⟩
    have hrun := va_runV (g := F0 m pc ls ((As.reverse ++ .ref b :: st).map (vv ad))) (As := As.map (vv ad)) (rest := st.map (vv ad)) ⟨hx, hb, hml, hown, hts⟩ hM cw ⟨hpre.1, hrec, hpre.2⟩ rfl (by rw [List.length_map]) hl.1 hst (hsum ad m ls _) hd ⟨hk, hn⟩ (below := below) (e := e) (locs := locs) (meth := meth)
    exact W_after C hl hrun hok kk
  · have cw : va_CN (rr d mc ms) s args μ.1.cls idx μ'.1 host μ'.2.1 μ'.2.2.1 μ'.2.2.2 (wm μ') (rr d' mc' ms') mc' ms' As.length ∧ (Cond.instanceMethod μ'.1).before args s = true ∧ (Cond.selects μ'.1.cls μ'.1 μ'.1).before args s = true := ⟨va_cnB As.length hts (wm_good hcl.2.2.1) rfl rfl rfl (hST.2.2.2.1 _ hlk) (hts _ hcl.2.1) hq (rr_room hdd hcl.2.2.2.2), hts _ hin, hts _ hse⟩
    have hrun := va_runVN (g := F0 m pc ls ((As.reverse ++ .ref b :: st).map (vv ad))) (As := As.map (vv ad)) (rest := st.map (vv ad)) ⟨hx, hb, hml, hown, hts⟩ hM cw ⟨hpre.1, hrec, hpre.2⟩ rfl (by rw [List.length_map]) hl.1 hst (hsum ad m ls _) hd ⟨hk, hn⟩ (below := below) (e := e) (locs := locs) (meth := meth)
    exact W_after C hl hrun hok kk

theorem r_callT {j : Nat} {As : List Value} (hc : Con sc μ' d' mc' ms' (.ref (1100 + j) :: As) X post') (hdd : d' + 1 ≤ d) (hcl : CL μ.1.cls idx μ' As.length) (hin : Cond.instanceMethod μ'.1 ∈ gtb) (hse : Cond.selects μ'.1.cls μ'.1 μ'.1 ∈ gtb) (hj : j < 16) (hS2 : μ'.1.cls = "java/lang/String") (hlk : Cond.methodLink μ.1.cls idx μ'.1 ∈ gtb) (hs : (st.map fun v => v.category).sum ≤ 8) (hk : k + mc' ≤ mc) (hn : n + ms' ≤ ms) (hd : decode μ.2.1 pc = .ok (.invokevirtual idx, 3)) (hok : ((post'.1 = true ∧ ((∀ r Y, post'.2 r Y → Y.1 = X.1) ∨ (lv.all (fun q => okr X.1 q.2) = true ∧ st.all (okr X.1) = true))) ∨ (post.1 = false ∧ lv.all (fun q => okw X.1 q.2) = true ∧ st.all (okw X.1) = true))) (kk : ∀ r Y, post'.2 r Y → RR sc μ d mc ms post (k + mc') (n + ms') (pc + 3) lv (r.toList ++ st) Y) : RR sc μ d mc ms post k n pc lv (As.reverse ++ .ref (1100 + j) :: st) X := by
  have hsum : ∀ (ad : Nat → Nat) (m : MethodId) (ls : Array Slot) (z : List Value), 2 * (F0 m pc ls z).monitorRoom + ((st.map (vv ad)).map fun v => v.category).sum ≤ 8 := by
    intro ad m ls z
    have e9 : ((st.map (vv ad)).map fun v => v.category) = st.map fun v => v.category := by
      rw [List.map_map]
      exact List.map_congr_left fun v _ => vv_cat ad v
    rw [e9]
    exact lv_room hs
  intro p l e s m args below meth c D ca A n0 ad0 ad H locs ls C hl
  obtain ⟨⟨hx, hb, hr, hml, hown, hts, hlocks, hnm, hA, hK, hST⟩, hnn, hP, hD, hS⟩ := id C
  have hrec : ∃ cell : Cell, H[ad (1100 + j)]? = some cell ∧ cell.vm.isStatics = false ∧ s.vm.findClass μ'.1.cls = some cell.cls := by rw [hS2]; exact vk_recv (adK := fun i => ad (1100 + i)) (i := j) hST.1.2.2.2.1 hj hS
  have hpre := C.pre (.ref (1100 + j) :: As)
  have hst : (As.reverse ++ .ref (1100 + j) :: st).map (vv ad) = (As.map (vv ad)).reverse ++ .ref (ad (1100 + j)) :: st.map (vv ad) := by rw [List.map_append, List.map_reverse]; rfl
  have hM := hc l D ca ad H.size
  have hq := hcl.2.2.2.1
  have cw : CallW (rr d mc ms) s args μ.1.cls μ'.1.cls idx μ'.1 μ'.2.1 μ'.2.2.1 μ'.2.2.2 (wm μ') (rr d' mc' ms') mc' ms' As.length := ⟨callB_of As.length hts (wm_good hcl.2.2.1) rfl rfl rfl (hts _ hcl.2.1) (hts _ hlk) hq (rr_room hdd hcl.2.2.2.2), hts _ hin, hts _ hse⟩
  have hrun := va_runV (g := F0 m pc ls ((As.reverse ++ .ref (1100 + j) :: st).map (vv ad))) (As := As.map (vv ad)) (rest := st.map (vv ad)) ⟨hx, hb, hml, hown, hts⟩ hM cw ⟨hpre.1, hrec, hpre.2⟩ rfl (by rw [List.length_map]) hl.1 hst (hsum ad m ls _) hd ⟨hk, hn⟩ (below := below) (e := e) (locs := locs) (meth := meth)
  exact W_after C hl hrun hok kk

theorem r_callS {As : List Value} (hc : Con sc μ' d' mc' ms' As X post') (hdd : d' + 1 ≤ d) (hcl : CL μ.1.cls idx μ' As.length) (hsta : Cond.static μ'.1 ∈ gtb) (hs : (st.map fun v => v.category).sum ≤ 8) (hk : k + mc' ≤ mc) (hn : n + ms' ≤ ms) (hd : decode μ.2.1 pc = .ok (.invokestatic idx, 3)) (hok : ((post'.1 = true ∧ ((∀ r Y, post'.2 r Y → Y.1 = X.1) ∨ (lv.all (fun q => okr X.1 q.2) = true ∧ st.all (okr X.1) = true))) ∨ (post.1 = false ∧ lv.all (fun q => okw X.1 q.2) = true ∧ st.all (okw X.1) = true))) (kk : ∀ r Y, post'.2 r Y → RR sc μ d mc ms post (k + mc') (n + ms') (pc + 3) lv (r.toList ++ st) Y) : RR sc μ d mc ms post k n pc lv (As.reverse ++ st) X := by
  have hsum : ∀ (ad : Nat → Nat) (m : MethodId) (ls : Array Slot) (z : List Value), 2 * (F0 m pc ls z).monitorRoom + ((st.map (vv ad)).map fun v => v.category).sum ≤ 8 := by
    intro ad m ls z
    have e9 : ((st.map (vv ad)).map fun v => v.category) = st.map fun v => v.category := by
      rw [List.map_map]
      exact List.map_congr_left fun v _ => vv_cat ad v
    rw [e9]
    exact lv_room hs
  intro p l e s m args below meth c D ca A n0 ad0 ad H locs ls C hl
  obtain ⟨⟨hx, hb, hr, hml, hown, hts, hlocks, hnm, hA, hK, hST⟩, hnn, hP, hD, hS⟩ := id C
  have hpre := C.pre As
  have hst : (As.reverse ++ st).map (vv ad) = (As.map (vv ad)).reverse ++ st.map (vv ad) := by rw [List.map_append, List.map_reverse]
  have hM := hc l D ca ad H.size
  have hq := hcl.2.2.2.1
  rcases hcl.1 with hlk | ⟨host, hlk⟩
  · have cw : CallB (rr d mc ms) s args μ.1.cls idx μ'.1 μ'.2.1 μ'.2.2.1 μ'.2.2.2 (wm μ') (rr d' mc' ms') mc' ms' As.length ∧ (Cond.static μ'.1).before args s = true := ⟨callB_of As.length hts (wm_good hcl.2.2.1) rfl rfl rfl (hts _ hcl.2.1) (hts _ hlk) hq (rr_room hdd hcl.2.2.2.2), hts _ hsta⟩
    have hrun := va_runS (g := F0 m pc ls ((As.reverse ++ st).map (vv ad))) (As := As.map (vv ad)) (rest := st.map (vv ad)) ⟨hx, hb, hml, hown, hts⟩ hM cw hpre rfl (by rw [List.length_map]) hl.1 hst (hsum ad m ls _) hd ⟨hk, hn⟩ (below := below) (e := e) (locs := locs) (meth := meth)
    exact W_after C hl hrun hok kk
  · have cw : va_CN (rr d mc ms) s args μ.1.cls idx μ'.1 host μ'.2.1 μ'.2.2.1 μ'.2.2.2 (wm μ') (rr d' mc' ms') mc' ms' As.length ∧ (Cond.static μ'.1).before args s = true ∧ True := ⟨va_cnB As.length hts (wm_good hcl.2.2.1) rfl rfl rfl (hST.2.2.2.1 _ hlk) (hts _ hcl.2.1) hq (rr_room hdd hcl.2.2.2.2), hts _ hsta, trivial⟩
    have hrun := va_runSN (g := F0 m pc ls ((As.reverse ++ st).map (vv ad))) (As := As.map (vv ad)) (rest := st.map (vv ad)) ⟨hx, hb, hml, hown, hts⟩ hM cw hpre rfl (by rw [List.length_map]) hl.1 hst (hsum ad m ls _) hd ⟨hk, hn⟩ (below := below) (e := e) (locs := locs) (meth := meth)
    exact W_after C hl hrun hok kk

theorem r_callI {b : Nat} {As : List Value} (hc : Con sc μ' d' mc' ms' (.ref b :: As) X post') (hdd : d' + 1 ≤ d) (hcl : CL μ.1.cls idx μ' As.length) (hin : Cond.instanceMethod μ'.1 ∈ gtb) (hni : μ'.1.name = "<init>") (hr0 : μ'.2.2.2 = none) (hs : (st.map fun v => v.category).sum ≤ 8) (hk : k + mc' ≤ mc) (hn : n + ms' ≤ ms) (hd : decode μ.2.1 pc = .ok (.invokespecial idx, 3)) (hok : ((post'.1 = true ∧ ((∀ r Y, post'.2 r Y → Y.1 = X.1) ∨ (lv.all (fun q => okr X.1 q.2) = true ∧ st.all (okr X.1) = true))) ∨ (post.1 = false ∧ lv.all (fun q => okw X.1 q.2) = true ∧ st.all (okw X.1) = true))) (kk : ∀ r Y, post'.2 r Y → RR sc μ d mc ms post (k + mc') (n + ms') (pc + 3) lv (r.toList ++ st) Y) : RR sc μ d mc ms post k n pc lv (As.reverse ++ .ref b :: st) X := by
  have hsum : ∀ (ad : Nat → Nat) (m : MethodId) (ls : Array Slot) (z : List Value), 2 * (F0 m pc ls z).monitorRoom + ((st.map (vv ad)).map fun v => v.category).sum ≤ 8 := by
    intro ad m ls z
    have e9 : ((st.map (vv ad)).map fun v => v.category) = st.map fun v => v.category := by
      rw [List.map_map]
      exact List.map_congr_left fun v _ => vv_cat ad v
    rw [e9]
    exact lv_room hs
  intro p l e s m args below meth c D ca A n0 ad0 ad H locs ls C hl
  obtain ⟨⟨hx, hb, hr, hml, hown, hts, hlocks, hnm, hA, hK, hST⟩, hnn, hP, hD, hS⟩ := id C
  have hpre := C.pre (.ref b :: As)
  have hst : (As.reverse ++ .ref b :: st).map (vv ad) = (As.map (vv ad)).reverse ++ .ref (ad b) :: st.map (vv ad) := by rw [List.map_append, List.map_reverse]; rfl
  have hM := hc l D ca ad H.size
  have hq := hcl.2.2.2.1
  have hwm : wm μ' = Cond.code μ'.1 μ'.2.1 μ'.2.2.1 none :: gtb := by unfold wm; rw [hr0]
  rcases hcl.1 with hlk | ⟨host, hlk⟩
  · have cw : CallB (rr d mc ms) s args μ.1.cls idx μ'.1 μ'.2.1 μ'.2.2.1 none (wm μ') (rr d' mc' ms') mc' ms' As.length ∧ μ'.1.name = "<init>" ∧ (Cond.instanceMethod μ'.1).before args s = true := ⟨callB_of As.length hts (wm_good hcl.2.2.1) hwm rfl rfl (hts _ hcl.2.1) (hts _ hlk) hq (rr_room hdd hcl.2.2.2.2), hni, hts _ hin⟩
    have hrun := va_runI (g := F0 m pc ls ((As.reverse ++ .ref b :: st).map (vv ad))) (As := As.map (vv ad)) (rest := st.map (vv ad)) ⟨hx, hb, hml, hown, hts⟩ hM cw hpre rfl (by rw [List.length_map]) hl.1 hst (hsum ad m ls _) hd ⟨hk, hn⟩ (below := below) (e := e) (locs := locs) (meth := meth)
    exact W_after C hl hrun hok kk
  · have cw : va_CN (rr d mc ms) s args μ.1.cls idx μ'.1 host μ'.2.1 μ'.2.2.1 none (wm μ') (rr d' mc' ms') mc' ms' As.length ∧ μ'.1.name = "<init>" ∧ (Cond.instanceMethod μ'.1).before args s = true := ⟨va_cnB As.length hts (wm_good hcl.2.2.1) hwm rfl rfl (hST.2.2.2.1 _ hlk) (hts _ hcl.2.1) hq (rr_room hdd hcl.2.2.2.2), hni, hts _ hin⟩
    have hrun := va_runIN (g := F0 m pc ls ((As.reverse ++ .ref b :: st).map (vv ad))) (As := As.map (vv ad)) (rest := st.map (vv ad)) ⟨hx, hb, hml, hown, hts⟩ hM cw hpre rfl (by rw [List.length_map]) hl.1 hst (hsum ad m ls _) hd ⟨hk, hn⟩ (below := below) (e := e) (locs := locs) (meth := meth)
    exact W_after C hl hrun hok kk

theorem r_objI {b : Nat} (hlk : Cond.methodLink μ.1.cls idx Lib.objectInit ∈ gtb) (hin : Cond.instanceMethod Lib.objectInit ∈ gtb) (hco : Cond.code Lib.objectInit ⟨#[0xb1]⟩ 1 none ∈ gtb) (hs : (st.map fun v => v.category).sum ≤ 8) (hdd : 1 ≤ d) (hd : decode μ.2.1 pc = .ok (.invokespecial idx, 3)) (kk : RR sc μ d mc ms post k n (pc + 3) lv st X) : RR sc μ d mc ms post k n pc lv (.ref b :: st) X := by
  have hsum : ∀ (ad : Nat → Nat) (m : MethodId) (ls : Array Slot) (z : List Value), 2 * (F0 m pc ls z).monitorRoom + ((st.map (vv ad)).map fun v => v.category).sum ≤ 8 := by
    intro ad m ls z
    have e9 : ((st.map (vv ad)).map fun v => v.category) = st.map fun v => v.category := by
      rw [List.map_map]
      exact List.map_congr_left fun v _ => vv_cat ad v
    rw [e9]
    exact lv_room hs
  intro p l e s m args below meth c D ca A n0 ad0 ad H locs ls C hl
  obtain ⟨⟨hx, hb, hr, hml, hown, hts, hlocks, hnm, hA, hK, hST⟩, hnn, hP, hD, hS⟩ := id C
  refine W.objInit hx hb hown (hts _ hlk) (hts _ hin) (hts _ hco) (g := F0 m pc ls ((Value.ref b :: st).map (vv ad))) rfl (by rw [hml]; exact hl.1) rfl hd hdd ?_ (kk p l e s m args below meth c D ca A n0 ad0 ad H locs ls C hl)
  have h9 := hsum ad m ls ((Value.ref b :: st).map (vv ad))
  show _ + 12 ≤ 64 * d
  omega

end Calls
