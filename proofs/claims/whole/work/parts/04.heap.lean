theorem nF_apart : ∀ q ∈ nF, q.2.2.1 ≠ q.1 := by decide +kernel
/-- a field by its place in the pool: its class' number, its slot, its kind, type, whether final -/
def FL (own : String) (idx ci f kd : Nat) (ty : FieldType) (fin pu : Bool) : Prop := ∃ (C : String) (T : u_T) (N : Nat) (ty0 : Nat → FieldType), (vwCl[ci]? = some (C, T, N) ∧ (∀ w ∈ u_ws C T N, w ∈ gtb) ∧ f < N ∧ (fks ci)[f]? = some kd ∧ ci < 50 ∧ (Cond.fieldLink own idx (T f).1 (T f).2.1 (T f).2.2.1 ∈ gtb ∨ ∃ host, (own, idx, (T f).1, (T f).2.1, (T f).2.2.1, host) ∈ nF)) ∧
  (T f).2.2.2 = fin ∧ parseFieldDescriptor (T f).2.2.1 = some ty ∧ (∀ k, k < N → parseFieldDescriptor (T k).2.2.1 = some (ty0 k)) ∧ (∀ a, a < N → ∀ b, b < N → a ≠ b → (T a).2.1 ≠ (T b).2.1) ∧ (pu = true → fin = true → (T f).1 = own)
section Heaps
variable {sc : Sc} {μ : Mu} {d mc ms : Nat} {post : Po} {k n pc : Nat} {lv : List (Nat × Value)} {st : List Value} {X : Hp}
theorem r_getI {a ci idx f : Nat} {ty : FieldType} {fin pu : Bool} (hF : FL μ.1.cls idx ci f 0 ty fin pu) (hsh : X.2.1 a = (ci, 0)) (ha : a < X.1) (hd : decode μ.2.1 pc = .ok (.getfield idx, 3)) (kk : RR sc μ d mc ms post k n (pc + 3) lv (.int (X.2.2.1 a f) :: st) X) : RR sc μ d mc ms post k n pc lv (.ref a :: st) X := by
  intro p l e s m args below meth c D ca A n0 ad0 ad H locs ls C hl
  obtain ⟨⟨hx, hb, hr, hml, hown, hts, hlocks, hnm, hA, hK, hST⟩, hnn, hP, hD, hS⟩ := id C
  obtain ⟨C', T, N, ty0, ⟨hc, hin, hf, hkd, h50, hlk⟩, -⟩ := hF
  have he : (wsX ca ad X)[a]? = some (ad a, .inr (ci, (fks ci).mapIdx (fun k kd => fv ad X a k kd))) := by rw [wsX_at ca ad X ha, fks_at hsh h50]
  have hv : ((fks ci).mapIdx (fun k kd => fv ad X a k kd))[f]? = some (.int (X.2.2.1 a f)) := by rw [fs_at hkd]; rfl
  rcases hlk with h1 | ⟨host, h1⟩
  · exact va_get hx hb hts hin hown hK hP a he hc f hf (hts _ h1) (fun _ z => z) hv hd (kk p l e s m args below meth c D ca A n0 ad0 ad H locs ls C hl)
  · exact va_getN hx hb hts hin hown hK hP a he hc f hf ((hST.2.2.1 _ h1).use rfl) (fun _ z => z) hv hd (kk p l e s m args below meth c D ca A n0 ad0 ad H locs ls C hl)

theorem r_getL {a ci idx f : Nat} {ty : FieldType} {fin pu : Bool} (hF : FL μ.1.cls idx ci f 1 ty fin pu) (hsh : X.2.1 a = (ci, 0)) (ha : a < X.1) (hd : decode μ.2.1 pc = .ok (.getfield idx, 3)) (kk : RR sc μ d mc ms post k n (pc + 3) lv (.long (X.2.2.2.1 a f) :: st) X) : RR sc μ d mc ms post k n pc lv (.ref a :: st) X := by
  intro p l e s m args below meth c D ca A n0 ad0 ad H locs ls C hl
  obtain ⟨⟨hx, hb, hr, hml, hown, hts, hlocks, hnm, hA, hK, hST⟩, hnn, hP, hD, hS⟩ := id C
  obtain ⟨C', T, N, ty0, ⟨hc, hin, hf, hkd, h50, hlk⟩, -⟩ := hF
  have he : (wsX ca ad X)[a]? = some (ad a, .inr (ci, (fks ci).mapIdx (fun k kd => fv ad X a k kd))) := by rw [wsX_at ca ad X ha, fks_at hsh h50]
  have hv : ((fks ci).mapIdx (fun k kd => fv ad X a k kd))[f]? = some (.long (X.2.2.2.1 a f)) := by rw [fs_at hkd]; rfl
  rcases hlk with h1 | ⟨host, h1⟩
  · exact va_get hx hb hts hin hown hK hP a he hc f hf (hts _ h1) (fun _ z => z) hv hd (kk p l e s m args below meth c D ca A n0 ad0 ad H locs ls C hl)
  · exact va_getN hx hb hts hin hown hK hP a he hc f hf ((hST.2.2.1 _ h1).use rfl) (fun _ z => z) hv hd (kk p l e s m args below meth c D ca A n0 ad0 ad H locs ls C hl)

theorem r_getR {a b ci idx f : Nat} {ty : FieldType} {fin pu : Bool} (hF : FL μ.1.cls idx ci f 2 ty fin pu) (hsh : X.2.1 a = (ci, 0)) (ha : a < X.1) (hp : X.2.2.2.2 a f = some b) (hd : decode μ.2.1 pc = .ok (.getfield idx, 3)) (kk : RR sc μ d mc ms post k n (pc + 3) lv (.ref b :: st) X) : RR sc μ d mc ms post k n pc lv (.ref a :: st) X := by
  intro p l e s m args below meth c D ca A n0 ad0 ad H locs ls C hl
  obtain ⟨⟨hx, hb, hr, hml, hown, hts, hlocks, hnm, hA, hK, hST⟩, hnn, hP, hD, hS⟩ := id C
  obtain ⟨C', T, N, ty0, ⟨hc, hin, hf, hkd, h50, hlk⟩, -⟩ := hF
  have he : (wsX ca ad X)[a]? = some (ad a, .inr (ci, (fks ci).mapIdx (fun k kd => fv ad X a k kd))) := by rw [wsX_at ca ad X ha, fks_at hsh h50]
  have hv : ((fks ci).mapIdx (fun k kd => fv ad X a k kd))[f]? = some (.ref (ad b)) := by rw [fs_at hkd]; show some (va_rf ((X.2.2.2.2 a f).map ad)) = _; rw [hp]; rfl
  rcases hlk with h1 | ⟨host, h1⟩
  · exact va_get hx hb hts hin hown hK hP a he hc f hf (hts _ h1) (fun _ z => z) hv hd (kk p l e s m args below meth c D ca A n0 ad0 ad H locs ls C hl)
  · exact va_getN hx hb hts hin hown hK hP a he hc f hf ((hST.2.2.1 _ h1).use rfl) (fun _ z => z) hv hd (kk p l e s m args below meth c D ca A n0 ad0 ad H locs ls C hl)

theorem PV.putR {X : Hp} {a f x : Nat} (h : PV X) (hx : x < X.1) : PV (X.1, X.2.1, X.2.2.1, X.2.2.2.1, up X.2.2.2.2 a f (some x)) := by
  refine ⟨h.1, fun b g y hy => ?_⟩
  have hy : up X.2.2.2.2 a f (some x) b g = some y := hy
  by_cases hb : b = a
  · subst hb
    rw [up_s] at hy
    by_cases hg : g = f
    · subst hg
      rw [vu_s] at hy
      cases hy
      exact hx
    · rw [vu_n _ _ hg] at hy
      exact h.2 _ _ _ hy
  · rw [up_n _ _ _ hb] at hy
    exact h.2 _ _ _ hy
theorem Cx.to {sc : Sc} {μ : Mu} {fl : Bool} {p : Program} {s : State} {m : MethodId} {args : Array Value} {meth : Method} {c : Code} {D : va_G} {ca : Nat → ClassId} {A : Nat → Prop} {n0 : Nat} {ad0 ad : Nat → Nat} {X Y : Hp} {H H1 : Heap} {locs locs1 : List Loc} (C : Cx sc μ fl p s m args meth c D ca A n0 ad0 ad X H locs) (h1 : Y.1 = X.1) (hV : PV Y) (hP : va_P D vwCl (wsX ca ad Y) H1) (hD : va_D A (wsX ca ad Y)) (hS : va_S A s.heap H1 locs1) : Cx sc μ fl p s m args meth c D ca A n0 ad0 ad Y H1 locs1 := ⟨C.1, ⟨by rw [h1]; exact C.2.1.1, by rw [h1]; exact C.2.1.2.1, hV⟩, hP, hD, hS⟩
theorem en_I {ca : Nat → ClassId} {ad : Nat → Nat} {X : Hp} {a b : Nat} {g : Nat → Int32} (h : b ≠ a) : en ca ad (X.1, X.2.1, upr X.2.2.1 a g, X.2.2.2) b = en ca ad X b := by
  have h1 : upr X.2.2.1 a g b = X.2.2.1 b := upr_n _ _ h
  have h2 : ∀ k kd, fv ad (X.1, X.2.1, upr X.2.2.1 a g, X.2.2.2) b k kd = fv ad X b k kd := fun k kd => by
    unfold fv
    show (if kd = 0 then Value.int (upr X.2.2.1 a g b k) else _) = _
    rw [h1]
  unfold en
  simp only [h1, h2]
theorem en_L {ca : Nat → ClassId} {ad : Nat → Nat} {X : Hp} {a b : Nat} {g : Nat → Int64} (h : b ≠ a) : en ca ad (X.1, X.2.1, X.2.2.1, upr X.2.2.2.1 a g, X.2.2.2.2) b = en ca ad X b := by
  have h1 : upr X.2.2.2.1 a g b = X.2.2.2.1 b := upr_n _ _ h
  have h2 : ∀ k kd, fv ad (X.1, X.2.1, X.2.2.1, upr X.2.2.2.1 a g, X.2.2.2.2) b k kd = fv ad X b k kd := fun k kd => by
    unfold fv
    show (if kd = 0 then _ else if kd = 1 then Value.long (upr X.2.2.2.1 a g b k) else _) = _
    rw [h1]
  unfold en
  simp only [h1, h2]
theorem en_R {ca : Nat → ClassId} {ad : Nat → Nat} {X : Hp} {a b : Nat} {g : Nat → Option Nat} (h : b ≠ a) : en ca ad (X.1, X.2.1, X.2.2.1, X.2.2.2.1, upr X.2.2.2.2 a g) b = en ca ad X b := by
  have h1 : upr X.2.2.2.2 a g b = X.2.2.2.2 b := upr_n _ _ h
  have h2 : ∀ k kd, fv ad (X.1, X.2.1, X.2.2.1, X.2.2.2.1, upr X.2.2.2.2 a g) b k kd = fv ad X b k kd := fun k kd => by
    unfold fv
    show (if kd = 0 then _ else if kd = 1 then _ else va_rf ((upr X.2.2.2.2 a g b k).map ad)) = _
    rw [h1]
  unfold en
  simp only [h1, h2]
theorem r_putI {a ci idx f : Nat} {ty : FieldType} {fin : Bool} {x : Int32} (hF : FL μ.1.cls idx ci f 0 ty fin true) (hsh : X.2.1 a = (ci, 0)) (ha : a < X.1) (hi : fin = true → μ.1.name = "<init>") (hn : narrow ty (.int x) = .int x) (hfit : fits ty (.int x) = true) (hd : decode μ.2.1 pc = .ok (.putfield idx, 3)) (kk : RR sc μ d mc ms post k n (pc + 3) lv st (X.1, X.2.1, up X.2.2.1 a f x, X.2.2.2)) : RR sc μ d mc ms post k n pc lv (.int x :: .ref a :: st) X := by
  intro p l e s m args below meth c D ca A n0 ad0 ad H locs ls C hl
  obtain ⟨⟨hx, hb, hr, hml, hown, hts, hlocks, hnm, hA, hK, hST⟩, hnn, hP, hD, hS⟩ := id C
  obtain ⟨C', T, N, ty0, ⟨hc, hin, hf, hkd, h50, hlk⟩, hfin, hpd, hty, hnmT, hdecl⟩ := hF
  have he : (wsX ca ad X)[a]? = some (ad a, .inr (ci, (fks ci).mapIdx (fun k kd => fv ad X a k kd))) := by rw [wsX_at ca ad X ha, fks_at hsh h50]
  have hlen : f < ((fks ci).mapIdx (fun k kd => fv ad X a k kd)).length := by simpa using (List.getElem?_eq_some_iff.mp hkd).1
  have ef : fv ad (X.1, X.2.1, up X.2.2.1 a f x, X.2.2.2) a f 0 = .int x := by
    unfold fv
    simp [up, upr, va_up, va_rf]
  have eo : ∀ j jd, j ≠ f → fv ad (X.1, X.2.1, up X.2.2.1 a f x, X.2.2.2) a j jd = fv ad X a j jd := by
    intro j jd hj
    unfold fv
    simp [up, upr, va_up, hj]
  have hw : (wsX ca ad X).set a (ad a, .inr (ci, ((fks ci).mapIdx (fun k kd => fv ad X a k kd)).set f (.int x))) = wsX ca ad (X.1, X.2.1, up X.2.2.1 a f x, X.2.2.2) := by
    refine wsX_set ha rfl ?_ (fun b hb' => en_I hb')
    rw [fks_at (X := (X.1, X.2.1, up X.2.2.1 a f x, X.2.2.2)) (N := 0) hsh h50, ← ef, fs_set hkd eo]
  have go : ∀ (H1 : Heap) (locs1 : List Loc), va_P D vwCl ((wsX ca ad X).set a (ad a, .inr (ci, ((fks ci).mapIdx (fun k kd => fv ad X a k kd)).set f (.int x)))) H1 → va_D A ((wsX ca ad X).set a (ad a, .inr (ci, ((fks ci).mapIdx (fun k kd => fv ad X a k kd)).set f (.int x)))) → va_S A s.heap H1 locs1 → W p l e (rr d mc ms) s m args below meth c H1 locs1 k n (MQ below (QC D ca n0 ad0 A post) args s mc ms A) (F0 m (pc + 3) ls (st.map (vv ad))) := by
    intro H1 locs1 hP1 hD1 hS1
    rw [hw] at hP1 hD1
    exact kk p l e s m args below meth c D ca A n0 ad0 ad H1 locs1 ls (C.to rfl hnn.2.2 hP1 hD1 hS1) hl
  cases fin with
  | true =>
    rcases hlk with h1 | ⟨host, h1⟩
    · exact va_putF hx hb hts hin ty0 hty hnmT hown hK hP hD hS a he hc f hf (hts _ h1) (fun _ z => z) hfin (hnm.trans (hi rfl)) (hdecl rfl rfl) hpd hn hfit hlen hd go
    · exact absurd (hdecl rfl rfl) (nF_apart _ h1)
  | false =>
    rcases hlk with h1 | ⟨host, h1⟩
    · exact va_put hx hb hts hin ty0 hty hnmT hown hK hP hD hS a he hc f hf (hts _ h1) (fun _ z => z) hfin hpd hn hfit hlen hd go
    · exact va_putN hx hb hts hin ty0 hty hnmT hown hK hP hD hS a he hc f hf ((hST.2.2.1 _ h1).use rfl) (fun _ z => z) hfin hpd hn hfit hlen hd go

theorem r_putL {a ci idx f : Nat} {ty : FieldType} {fin : Bool} {x : Int64} (hF : FL μ.1.cls idx ci f 1 ty fin true) (hsh : X.2.1 a = (ci, 0)) (ha : a < X.1) (hi : fin = true → μ.1.name = "<init>") (hn : narrow ty (.long x) = .long x) (hfit : fits ty (.long x) = true) (hd : decode μ.2.1 pc = .ok (.putfield idx, 3)) (kk : RR sc μ d mc ms post k n (pc + 3) lv st (X.1, X.2.1, X.2.2.1, up X.2.2.2.1 a f x, X.2.2.2.2)) : RR sc μ d mc ms post k n pc lv (.long x :: .ref a :: st) X := by
  intro p l e s m args below meth c D ca A n0 ad0 ad H locs ls C hl
  obtain ⟨⟨hx, hb, hr, hml, hown, hts, hlocks, hnm, hA, hK, hST⟩, hnn, hP, hD, hS⟩ := id C
  obtain ⟨C', T, N, ty0, ⟨hc, hin, hf, hkd, h50, hlk⟩, hfin, hpd, hty, hnmT, hdecl⟩ := hF
  have he : (wsX ca ad X)[a]? = some (ad a, .inr (ci, (fks ci).mapIdx (fun k kd => fv ad X a k kd))) := by rw [wsX_at ca ad X ha, fks_at hsh h50]
  have hlen : f < ((fks ci).mapIdx (fun k kd => fv ad X a k kd)).length := by simpa using (List.getElem?_eq_some_iff.mp hkd).1
  have ef : fv ad (X.1, X.2.1, X.2.2.1, up X.2.2.2.1 a f x, X.2.2.2.2) a f 1 = .long x := by
    unfold fv
    simp [up, upr, va_up, va_rf]
  have eo : ∀ j jd, j ≠ f → fv ad (X.1, X.2.1, X.2.2.1, up X.2.2.2.1 a f x, X.2.2.2.2) a j jd = fv ad X a j jd := by
    intro j jd hj
    unfold fv
    simp [up, upr, va_up, hj]
  have hw : (wsX ca ad X).set a (ad a, .inr (ci, ((fks ci).mapIdx (fun k kd => fv ad X a k kd)).set f (.long x))) = wsX ca ad (X.1, X.2.1, X.2.2.1, up X.2.2.2.1 a f x, X.2.2.2.2) := by
    refine wsX_set ha rfl ?_ (fun b hb' => en_L hb')
    rw [fks_at (X := (X.1, X.2.1, X.2.2.1, up X.2.2.2.1 a f x, X.2.2.2.2)) (N := 0) hsh h50, ← ef, fs_set hkd eo]
  have go : ∀ (H1 : Heap) (locs1 : List Loc), va_P D vwCl ((wsX ca ad X).set a (ad a, .inr (ci, ((fks ci).mapIdx (fun k kd => fv ad X a k kd)).set f (.long x)))) H1 → va_D A ((wsX ca ad X).set a (ad a, .inr (ci, ((fks ci).mapIdx (fun k kd => fv ad X a k kd)).set f (.long x)))) → va_S A s.heap H1 locs1 → W p l e (rr d mc ms) s m args below meth c H1 locs1 k n (MQ below (QC D ca n0 ad0 A post) args s mc ms A) (F0 m (pc + 3) ls (st.map (vv ad))) := by
    intro H1 locs1 hP1 hD1 hS1
    rw [hw] at hP1 hD1
    exact kk p l e s m args below meth c D ca A n0 ad0 ad H1 locs1 ls (C.to rfl hnn.2.2 hP1 hD1 hS1) hl
  cases fin with
  | true =>
    rcases hlk with h1 | ⟨host, h1⟩
    · exact va_putF hx hb hts hin ty0 hty hnmT hown hK hP hD hS a he hc f hf (hts _ h1) (fun _ z => z) hfin (hnm.trans (hi rfl)) (hdecl rfl rfl) hpd hn hfit hlen hd go
    · exact absurd (hdecl rfl rfl) (nF_apart _ h1)
  | false =>
    rcases hlk with h1 | ⟨host, h1⟩
    · exact va_put hx hb hts hin ty0 hty hnmT hown hK hP hD hS a he hc f hf (hts _ h1) (fun _ z => z) hfin hpd hn hfit hlen hd go
    · exact va_putN hx hb hts hin ty0 hty hnmT hown hK hP hD hS a he hc f hf ((hST.2.2.1 _ h1).use rfl) (fun _ z => z) hfin hpd hn hfit hlen hd go

theorem r_putR {a ci idx f : Nat} {ty : FieldType} {fin : Bool} {x : Nat} (hF : FL μ.1.cls idx ci f 2 ty fin true) (hsh : X.2.1 a = (ci, 0)) (ha : a < X.1) (hi : fin = true → μ.1.name = "<init>") (hxv : x < X.1) (hn : ∀ q : Nat, narrow ty (.ref q) = .ref q) (hfit : ∀ q : Nat, fits ty (.ref q) = true) (hd : decode μ.2.1 pc = .ok (.putfield idx, 3)) (kk : RR sc μ d mc ms post k n (pc + 3) lv st (X.1, X.2.1, X.2.2.1, X.2.2.2.1, up X.2.2.2.2 a f (some x))) : RR sc μ d mc ms post k n pc lv (.ref x :: .ref a :: st) X := by
  intro p l e s m args below meth c D ca A n0 ad0 ad H locs ls C hl
  obtain ⟨⟨hx, hb, hr, hml, hown, hts, hlocks, hnm, hA, hK, hST⟩, hnn, hP, hD, hS⟩ := id C
  obtain ⟨C', T, N, ty0, ⟨hc, hin, hf, hkd, h50, hlk⟩, hfin, hpd, hty, hnmT, hdecl⟩ := hF
  have he : (wsX ca ad X)[a]? = some (ad a, .inr (ci, (fks ci).mapIdx (fun k kd => fv ad X a k kd))) := by rw [wsX_at ca ad X ha, fks_at hsh h50]
  have hlen : f < ((fks ci).mapIdx (fun k kd => fv ad X a k kd)).length := by simpa using (List.getElem?_eq_some_iff.mp hkd).1
  have ef : fv ad (X.1, X.2.1, X.2.2.1, X.2.2.2.1, up X.2.2.2.2 a f (some x)) a f 2 = .ref (ad x) := by
    unfold fv
    simp [up, upr, va_up, va_rf]
  have eo : ∀ j jd, j ≠ f → fv ad (X.1, X.2.1, X.2.2.1, X.2.2.2.1, up X.2.2.2.2 a f (some x)) a j jd = fv ad X a j jd := by
    intro j jd hj
    unfold fv
    simp [up, upr, va_up, hj]
  have hw : (wsX ca ad X).set a (ad a, .inr (ci, ((fks ci).mapIdx (fun k kd => fv ad X a k kd)).set f (.ref (ad x)))) = wsX ca ad (X.1, X.2.1, X.2.2.1, X.2.2.2.1, up X.2.2.2.2 a f (some x)) := by
    refine wsX_set ha rfl ?_ (fun b hb' => en_R hb')
    rw [fks_at (X := (X.1, X.2.1, X.2.2.1, X.2.2.2.1, up X.2.2.2.2 a f (some x))) (N := 0) hsh h50, ← ef, fs_set hkd eo]
  have go : ∀ (H1 : Heap) (locs1 : List Loc), va_P D vwCl ((wsX ca ad X).set a (ad a, .inr (ci, ((fks ci).mapIdx (fun k kd => fv ad X a k kd)).set f (.ref (ad x))))) H1 → va_D A ((wsX ca ad X).set a (ad a, .inr (ci, ((fks ci).mapIdx (fun k kd => fv ad X a k kd)).set f (.ref (ad x))))) → va_S A s.heap H1 locs1 → W p l e (rr d mc ms) s m args below meth c H1 locs1 k n (MQ below (QC D ca n0 ad0 A post) args s mc ms A) (F0 m (pc + 3) ls (st.map (vv ad))) := by
    intro H1 locs1 hP1 hD1 hS1
    rw [hw] at hP1 hD1
    exact kk p l e s m args below meth c D ca A n0 ad0 ad H1 locs1 ls (C.to rfl (PV.putR hnn.2.2 hxv) hP1 hD1 hS1) hl
  cases fin with
  | true =>
    rcases hlk with h1 | ⟨host, h1⟩
    · exact va_putF hx hb hts hin ty0 hty hnmT hown hK hP hD hS a he hc f hf (hts _ h1) (fun _ z => z) hfin (hnm.trans (hi rfl)) (hdecl rfl rfl) hpd (hn _) (hfit _) hlen hd go
    · exact absurd (hdecl rfl rfl) (nF_apart _ h1)
  | false =>
    rcases hlk with h1 | ⟨host, h1⟩
    · exact va_put hx hb hts hin ty0 hty hnmT hown hK hP hD hS a he hc f hf (hts _ h1) (fun _ z => z) hfin hpd (hn _) (hfit _) hlen hd go
    · exact va_putN hx hb hts hin ty0 hty hnmT hown hK hP hD hS a he hc f hf ((hST.2.2.1 _ h1).use rfl) (fun _ z => z) hfin hpd (hn _) (hfit _) hlen hd go

end Heaps
