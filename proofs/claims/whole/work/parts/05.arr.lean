theorem en_50 {ca : Nat → ClassId} {ad : Nat → Nat} {X : Hp} {a N : Nat} (h : X.2.1 a = (50, N)) : en ca ad X a = .inl (ca 0, N, .inl (X.2.2.1 a)) := by simp [en, h]
theorem en_51 {ca : Nat → ClassId} {ad : Nat → Nat} {X : Hp} {a N : Nat} (h : X.2.1 a = (51, N)) : en ca ad X a = .inl (ca 1, N, .inl (X.2.2.1 a)) := by simp [en, h]
theorem en_52 {ca : Nat → ClassId} {ad : Nat → Nat} {X : Hp} {a N : Nat} (h : X.2.1 a = (52, N)) : en ca ad X a = .inl (ca 2, N, .inl (X.2.2.1 a)) := by simp [en, h]
theorem en_53 {ca : Nat → ClassId} {ad : Nat → Nat} {X : Hp} {a N : Nat} (h : X.2.1 a = (53, N)) : en ca ad X a = .inl (ca 3, N, .inr (.inl (X.2.2.2.1 a))) := by simp [en, h]
theorem en_54 {ca : Nat → ClassId} {ad : Nat → Nat} {X : Hp} {a N : Nat} (h : X.2.1 a = (54, N)) : en ca ad X a = .inl (ca 4, N, .inr (.inr (.inr (.inr (fun j => (X.2.2.2.2 a j).map ad))))) := by simp [en, h]
section Arrays
variable {sc : Sc} {μ : Mu} {d mc ms : Nat} {post : Po} {k n pc : Nat} {lv : List (Nat × Value)} {st : List Value} {X : Hp}
theorem r_iald {a N : Nat} {i : Int32} (hsh : X.2.1 a = (50, N)) (ha : a < X.1) (hin : vp_in i N) (hd : decode μ.2.1 pc = .ok (.iaload, 1)) (kk : RR sc μ d mc ms post k n (pc + 1) lv (.int (X.2.2.1 a i.toNatClampNeg) :: st) X) : RR sc μ d mc ms post k n pc lv (.int i :: .ref a :: st) X := by
  intro p l e s m args below meth c D ca A n0 ad0 ad H locs ls C hl
  obtain ⟨⟨hx, hb, hr, hml, hown, hts, hlocks, hnm, hA, hK, hST⟩, hnn, hP, hD, hS⟩ := id C
  have he : (wsX ca ad X)[a]? = some (ad a, .inl (ca 0, N, .inl (X.2.2.1 a))) := by rw [wsX_at ca ad X ha, en_50 hsh]
  exact va_iald hx hb hK hP a 0 he rfl hin hd (kk p l e s m args below meth c D ca A n0 ad0 ad H locs ls C hl)

theorem r_bald {a N : Nat} {i : Int32} (hsh : X.2.1 a = (51, N)) (ha : a < X.1) (hin : vp_in i N) (hd : decode μ.2.1 pc = .ok (.baload, 1)) (kk : RR sc μ d mc ms post k n (pc + 1) lv (.int (X.2.2.1 a i.toNatClampNeg) :: st) X) : RR sc μ d mc ms post k n pc lv (.int i :: .ref a :: st) X := by
  intro p l e s m args below meth c D ca A n0 ad0 ad H locs ls C hl
  obtain ⟨⟨hx, hb, hr, hml, hown, hts, hlocks, hnm, hA, hK, hST⟩, hnn, hP, hD, hS⟩ := id C
  have he : (wsX ca ad X)[a]? = some (ad a, .inl (ca 1, N, .inl (X.2.2.1 a))) := by rw [wsX_at ca ad X ha, en_51 hsh]
  exact va_bald hx hb hK hP a 1 he rfl hin hd (kk p l e s m args below meth c D ca A n0 ad0 ad H locs ls C hl)

theorem r_zald {a N : Nat} {i : Int32} (hsh : X.2.1 a = (52, N)) (ha : a < X.1) (hin : vp_in i N) (hd : decode μ.2.1 pc = .ok (.baload, 1)) (kk : RR sc μ d mc ms post k n (pc + 1) lv (.int (X.2.2.1 a i.toNatClampNeg) :: st) X) : RR sc μ d mc ms post k n pc lv (.int i :: .ref a :: st) X := by
  intro p l e s m args below meth c D ca A n0 ad0 ad H locs ls C hl
  obtain ⟨⟨hx, hb, hr, hml, hown, hts, hlocks, hnm, hA, hK, hST⟩, hnn, hP, hD, hS⟩ := id C
  have he : (wsX ca ad X)[a]? = some (ad a, .inl (ca 2, N, .inl (X.2.2.1 a))) := by rw [wsX_at ca ad X ha, en_52 hsh]
  exact va_zald hx hb hK hP a 2 he rfl hin hd (kk p l e s m args below meth c D ca A n0 ad0 ad H locs ls C hl)

theorem r_lald {a N : Nat} {i : Int32} (hsh : X.2.1 a = (53, N)) (ha : a < X.1) (hin : vp_in i N) (hd : decode μ.2.1 pc = .ok (.laload, 1)) (kk : RR sc μ d mc ms post k n (pc + 1) lv (.long (X.2.2.2.1 a i.toNatClampNeg) :: st) X) : RR sc μ d mc ms post k n pc lv (.int i :: .ref a :: st) X := by
  intro p l e s m args below meth c D ca A n0 ad0 ad H locs ls C hl
  obtain ⟨⟨hx, hb, hr, hml, hown, hts, hlocks, hnm, hA, hK, hST⟩, hnn, hP, hD, hS⟩ := id C
  have he : (wsX ca ad X)[a]? = some (ad a, .inl (ca 3, N, .inr (.inl (X.2.2.2.1 a)))) := by rw [wsX_at ca ad X ha, en_53 hsh]
  exact va_lald hx hb hK hP a 3 he rfl hin hd (kk p l e s m args below meth c D ca A n0 ad0 ad H locs ls C hl)

theorem r_aald {a b N : Nat} {i : Int32} (hsh : X.2.1 a = (54, N)) (ha : a < X.1) (hin : vp_in i N) (hp : X.2.2.2.2 a i.toNatClampNeg = some b) (hd : decode μ.2.1 pc = .ok (.aaload, 1)) (kk : RR sc μ d mc ms post k n (pc + 1) lv (.ref b :: st) X) : RR sc μ d mc ms post k n pc lv (.int i :: .ref a :: st) X := by
  intro p l e s m args below meth c D ca A n0 ad0 ad H locs ls C hl
  obtain ⟨⟨hx, hb, hr, hml, hown, hts, hlocks, hnm, hA, hK, hST⟩, hnn, hP, hD, hS⟩ := id C
  have he : (wsX ca ad X)[a]? = some (ad a, .inl (ca 4, N, .inr (.inr (.inr (.inr (fun j => (X.2.2.2.2 a j).map ad)))))) := by rw [wsX_at ca ad X ha, en_54 hsh]
  refine va_aldq hx hb hK hP a 4 he rfl hin hd ?_
  show W _ _ _ _ _ _ _ _ _ _ _ _ _ _ _ (F0 m (pc + 1) ls (va_rf ((X.2.2.2.2 a i.toNatClampNeg).map ad) :: st.map (vv ad)))
  rw [hp]
  exact kk p l e s m args below meth c D ca A n0 ad0 ad H locs ls C hl

theorem r_iast {a N : Nat} {i : Int32} {x : Int32} (hsh : X.2.1 a = (50, N)) (ha : a < X.1) (hin : vp_in i N) (hd : decode μ.2.1 pc = .ok (.iastore, 1)) (kk : RR sc μ d mc ms post k n (pc + 1) lv st (X.1, X.2.1, up X.2.2.1 a i.toNatClampNeg x, X.2.2.2)) : RR sc μ d mc ms post k n pc lv (.int x :: .int i :: .ref a :: st) X := by
  intro p l e s m args below meth c D ca A n0 ad0 ad H locs ls C hl
  obtain ⟨⟨hx, hb, hr, hml, hown, hts, hlocks, hnm, hA, hK, hST⟩, hnn, hP, hD, hS⟩ := id C
  have he : (wsX ca ad X)[a]? = some (ad a, .inl (ca 0, N, .inl (X.2.2.1 a))) := by rw [wsX_at ca ad X ha, en_50 hsh]
  refine va_iast hx hb hK hP hD hS a 0 he rfl hin hd (fun H1 locs1 hP1 hD1 hS1 => ?_)
  have hw : (wsX ca ad X).set a (ad a, .inl (ca 0, N, .inl (upd (X.2.2.1 a) i.toNatClampNeg x))) = wsX ca ad (X.1, X.2.1, up X.2.2.1 a i.toNatClampNeg x, X.2.2.2) := by
    refine wsX_set ha rfl ?_ (fun b hb' => en_I hb')
    rw [en_50 (X := (X.1, X.2.1, up X.2.2.1 a i.toNatClampNeg x, X.2.2.2)) (N := N) hsh]
    simp [up, upr]
    rfl
  rw [hw] at hP1 hD1
  exact kk p l e s m args below meth c D ca A n0 ad0 ad H1 locs1 ls (C.to rfl hnn.2.2 hP1 hD1 hS1) hl

theorem r_bast {a N : Nat} {i : Int32} {x : Int32} (hsh : X.2.1 a = (51, N)) (ha : a < X.1) (hin : vp_in i N) (hd : decode μ.2.1 pc = .ok (.bastore, 1)) (kk : RR sc μ d mc ms post k n (pc + 1) lv st (X.1, X.2.1, up X.2.2.1 a i.toNatClampNeg (vp_nar .byte x), X.2.2.2)) : RR sc μ d mc ms post k n pc lv (.int x :: .int i :: .ref a :: st) X := by
  intro p l e s m args below meth c D ca A n0 ad0 ad H locs ls C hl
  obtain ⟨⟨hx, hb, hr, hml, hown, hts, hlocks, hnm, hA, hK, hST⟩, hnn, hP, hD, hS⟩ := id C
  have he : (wsX ca ad X)[a]? = some (ad a, .inl (ca 1, N, .inl (X.2.2.1 a))) := by rw [wsX_at ca ad X ha, en_51 hsh]
  refine va_bast hx hb hK hP hD hS a 1 he rfl hin hd (fun H1 locs1 hP1 hD1 hS1 => ?_)
  have hw : (wsX ca ad X).set a (ad a, .inl (ca 1, N, .inl (upd (X.2.2.1 a) i.toNatClampNeg (vp_nar .byte x)))) = wsX ca ad (X.1, X.2.1, up X.2.2.1 a i.toNatClampNeg (vp_nar .byte x), X.2.2.2) := by
    refine wsX_set ha rfl ?_ (fun b hb' => en_I hb')
    rw [en_51 (X := (X.1, X.2.1, up X.2.2.1 a i.toNatClampNeg (vp_nar .byte x), X.2.2.2)) (N := N) hsh]
    simp [up, upr]
    rfl
  rw [hw] at hP1 hD1
  exact kk p l e s m args below meth c D ca A n0 ad0 ad H1 locs1 ls (C.to rfl hnn.2.2 hP1 hD1 hS1) hl

theorem r_zast {a N : Nat} {i : Int32} {x : Int32} (hsh : X.2.1 a = (52, N)) (ha : a < X.1) (hin : vp_in i N) (hd : decode μ.2.1 pc = .ok (.bastore, 1)) (kk : RR sc μ d mc ms post k n (pc + 1) lv st (X.1, X.2.1, up X.2.2.1 a i.toNatClampNeg (vp_nar .boolean x), X.2.2.2)) : RR sc μ d mc ms post k n pc lv (.int x :: .int i :: .ref a :: st) X := by
  intro p l e s m args below meth c D ca A n0 ad0 ad H locs ls C hl
  obtain ⟨⟨hx, hb, hr, hml, hown, hts, hlocks, hnm, hA, hK, hST⟩, hnn, hP, hD, hS⟩ := id C
  have he : (wsX ca ad X)[a]? = some (ad a, .inl (ca 2, N, .inl (X.2.2.1 a))) := by rw [wsX_at ca ad X ha, en_52 hsh]
  refine va_zast hx hb hK hP hD hS a 2 he rfl hin hd (fun H1 locs1 hP1 hD1 hS1 => ?_)
  have hw : (wsX ca ad X).set a (ad a, .inl (ca 2, N, .inl (upd (X.2.2.1 a) i.toNatClampNeg (vp_nar .boolean x)))) = wsX ca ad (X.1, X.2.1, up X.2.2.1 a i.toNatClampNeg (vp_nar .boolean x), X.2.2.2) := by
    refine wsX_set ha rfl ?_ (fun b hb' => en_I hb')
    rw [en_52 (X := (X.1, X.2.1, up X.2.2.1 a i.toNatClampNeg (vp_nar .boolean x), X.2.2.2)) (N := N) hsh]
    simp [up, upr]
    rfl
  rw [hw] at hP1 hD1
  exact kk p l e s m args below meth c D ca A n0 ad0 ad H1 locs1 ls (C.to rfl hnn.2.2 hP1 hD1 hS1) hl

theorem r_last {a N : Nat} {i : Int32} {x : Int64} (hsh : X.2.1 a = (53, N)) (ha : a < X.1) (hin : vp_in i N) (hd : decode μ.2.1 pc = .ok (.lastore, 1)) (kk : RR sc μ d mc ms post k n (pc + 1) lv st (X.1, X.2.1, X.2.2.1, up X.2.2.2.1 a i.toNatClampNeg x, X.2.2.2.2)) : RR sc μ d mc ms post k n pc lv (.long x :: .int i :: .ref a :: st) X := by
  intro p l e s m args below meth c D ca A n0 ad0 ad H locs ls C hl
  obtain ⟨⟨hx, hb, hr, hml, hown, hts, hlocks, hnm, hA, hK, hST⟩, hnn, hP, hD, hS⟩ := id C
  have he : (wsX ca ad X)[a]? = some (ad a, .inl (ca 3, N, .inr (.inl (X.2.2.2.1 a)))) := by rw [wsX_at ca ad X ha, en_53 hsh]
  refine va_last hx hb hK hP hD hS a 3 he rfl hin hd (fun H1 locs1 hP1 hD1 hS1 => ?_)
  have hw : (wsX ca ad X).set a (ad a, .inl (ca 3, N, .inr (.inl (vp_updL (X.2.2.2.1 a) i.toNatClampNeg x)))) = wsX ca ad (X.1, X.2.1, X.2.2.1, up X.2.2.2.1 a i.toNatClampNeg x, X.2.2.2.2) := by
    refine wsX_set ha rfl ?_ (fun b hb' => en_L hb')
    rw [en_53 (X := (X.1, X.2.1, X.2.2.1, up X.2.2.2.1 a i.toNatClampNeg x, X.2.2.2.2)) (N := N) hsh]
    simp [up, upr]
    rfl
  rw [hw] at hP1 hD1
  exact kk p l e s m args below meth c D ca A n0 ad0 ad H1 locs1 ls (C.to rfl hnn.2.2 hP1 hD1 hS1) hl

theorem r_aast {a b N ci M : Nat} {i : Int32} (hsh : X.2.1 a = (54, N)) (ha : a < X.1) (hb2 : X.2.1 b = (3, M)) (hbv : b < X.1) (hin : vp_in i N) (hd : decode μ.2.1 pc = .ok (.aastore, 1)) (kk : RR sc μ d mc ms post k n (pc + 1) lv st (X.1, X.2.1, X.2.2.1, X.2.2.2.1, up X.2.2.2.2 a i.toNatClampNeg (some b))) : RR sc μ d mc ms post k n pc lv (.ref b :: .int i :: .ref a :: st) X := by
  intro p l e s m args below meth c D ca A n0 ad0 ad H locs ls C hl
  obtain ⟨⟨hx, hb, hr, hml, hown, hts, hlocks, hnm, hA, hK, hST⟩, hnn, hP, hD, hS⟩ := id C
  have he : (wsX ca ad X)[a]? = some (ad a, .inl (ca 4, N, .inr (.inr (.inr (.inr (fun j => (X.2.2.2.2 a j).map ad)))))) := by rw [wsX_at ca ad X ha, en_54 hsh]
  have he2 : (wsX ca ad X)[b]? = some (ad b, .inr (3, (fks 3).mapIdx (fun k kd => fv ad X b k kd))) := by rw [wsX_at ca ad X hbv, fks_at hb2 (by decide)]
  refine va_astq hx hb hK hP hD hS a 4 b 3 (r := (RX3, TX3, 11)) he rfl he2 rfl hin hd (fun H1 locs1 hP1 hD1 hS1 => ?_)
  have hw : (wsX ca ad X).set a (ad a, .inl (ca 4, N, .inr (.inr (.inr (.inr (va_up (fun j => (X.2.2.2.2 a j).map ad) i.toNatClampNeg (some (ad b)))))))) = wsX ca ad (X.1, X.2.1, X.2.2.1, X.2.2.2.1, up X.2.2.2.2 a i.toNatClampNeg (some b)) := by
    refine wsX_set ha rfl ?_ (fun b hb' => en_R hb')
    rw [en_54 (X := (X.1, X.2.1, X.2.2.1, X.2.2.2.1, up X.2.2.2.2 a i.toNatClampNeg (some b))) (N := N) hsh]
    have : (fun j => (up X.2.2.2.2 a i.toNatClampNeg (some b) a j).map ad) = va_up (fun j => (X.2.2.2.2 a j).map ad) i.toNatClampNeg (some (ad b)) := by
      funext j
      rw [up_s]
      by_cases hj : j = i.toNatClampNeg
      · subst hj; rw [vu_s, vu_s]; rfl
      · rw [vu_n _ _ hj, vu_n _ _ hj]
    show Sum.inl (ca 4, N, Sum.inr (Sum.inr (Sum.inr (Sum.inr (fun j => (up X.2.2.2.2 a i.toNatClampNeg (some b) a j).map ad))))) = _
    rw [this]
  rw [hw] at hP1 hD1
  exact kk p l e s m args below meth c D ca A n0 ad0 ad H1 locs1 ls (C.to rfl (PV.putR hnn.2.2 hbv) hP1 hD1 hS1) hl

theorem r_alen50 {a N : Nat} (hsh : X.2.1 a = (50, N)) (ha : a < X.1) (hd : decode μ.2.1 pc = .ok (.arraylength, 1)) (kk : RR sc μ d mc ms post k n (pc + 1) lv (.int (Int32.ofNat N) :: st) X) : RR sc μ d mc ms post k n pc lv (.ref a :: st) X := by
  intro p l e s m args below meth c D ca A n0 ad0 ad H locs ls C hl
  obtain ⟨⟨hx, hb, hr, hml, hown, hts, hlocks, hnm, hA, hK, hST⟩, hnn, hP, hD, hS⟩ := id C
  have he : (wsX ca ad X)[a]? = some (ad a, .inl (ca 0, N, .inl (X.2.2.1 a))) := by rw [wsX_at ca ad X ha, en_50 hsh]
  exact va_alen hx hb hK hP a 0 he (ty := .int) rfl rfl hd (kk p l e s m args below meth c D ca A n0 ad0 ad H locs ls C hl)

theorem r_alen51 {a N : Nat} (hsh : X.2.1 a = (51, N)) (ha : a < X.1) (hd : decode μ.2.1 pc = .ok (.arraylength, 1)) (kk : RR sc μ d mc ms post k n (pc + 1) lv (.int (Int32.ofNat N) :: st) X) : RR sc μ d mc ms post k n pc lv (.ref a :: st) X := by
  intro p l e s m args below meth c D ca A n0 ad0 ad H locs ls C hl
  obtain ⟨⟨hx, hb, hr, hml, hown, hts, hlocks, hnm, hA, hK, hST⟩, hnn, hP, hD, hS⟩ := id C
  have he : (wsX ca ad X)[a]? = some (ad a, .inl (ca 1, N, .inl (X.2.2.1 a))) := by rw [wsX_at ca ad X ha, en_51 hsh]
  exact va_alen hx hb hK hP a 1 he (ty := .byte) rfl rfl hd (kk p l e s m args below meth c D ca A n0 ad0 ad H locs ls C hl)

theorem r_alen52 {a N : Nat} (hsh : X.2.1 a = (52, N)) (ha : a < X.1) (hd : decode μ.2.1 pc = .ok (.arraylength, 1)) (kk : RR sc μ d mc ms post k n (pc + 1) lv (.int (Int32.ofNat N) :: st) X) : RR sc μ d mc ms post k n pc lv (.ref a :: st) X := by
  intro p l e s m args below meth c D ca A n0 ad0 ad H locs ls C hl
  obtain ⟨⟨hx, hb, hr, hml, hown, hts, hlocks, hnm, hA, hK, hST⟩, hnn, hP, hD, hS⟩ := id C
  have he : (wsX ca ad X)[a]? = some (ad a, .inl (ca 2, N, .inl (X.2.2.1 a))) := by rw [wsX_at ca ad X ha, en_52 hsh]
  exact va_alen hx hb hK hP a 2 he (ty := .boolean) rfl rfl hd (kk p l e s m args below meth c D ca A n0 ad0 ad H locs ls C hl)

theorem r_alen53 {a N : Nat} (hsh : X.2.1 a = (53, N)) (ha : a < X.1) (hd : decode μ.2.1 pc = .ok (.arraylength, 1)) (kk : RR sc μ d mc ms post k n (pc + 1) lv (.int (Int32.ofNat N) :: st) X) : RR sc μ d mc ms post k n pc lv (.ref a :: st) X := by
  intro p l e s m args below meth c D ca A n0 ad0 ad H locs ls C hl
  obtain ⟨⟨hx, hb, hr, hml, hown, hts, hlocks, hnm, hA, hK, hST⟩, hnn, hP, hD, hS⟩ := id C
  have he : (wsX ca ad X)[a]? = some (ad a, .inl (ca 3, N, .inr (.inl (X.2.2.2.1 a)))) := by rw [wsX_at ca ad X ha, en_53 hsh]
  exact va_alen hx hb hK hP a 3 he (ty := .long) rfl rfl hd (kk p l e s m args below meth c D ca A n0 ad0 ad H locs ls C hl)

theorem r_alen54 {a N : Nat} (hsh : X.2.1 a = (54, N)) (ha : a < X.1) (hd : decode μ.2.1 pc = .ok (.arraylength, 1)) (kk : RR sc μ d mc ms post k n (pc + 1) lv (.int (Int32.ofNat N) :: st) X) : RR sc μ d mc ms post k n pc lv (.ref a :: st) X := by
  intro p l e s m args below meth c D ca A n0 ad0 ad H locs ls C hl
  obtain ⟨⟨hx, hb, hr, hml, hown, hts, hlocks, hnm, hA, hK, hST⟩, hnn, hP, hD, hS⟩ := id C
  have he : (wsX ca ad X)[a]? = some (ad a, .inl (ca 4, N, .inr (.inr (.inr (.inr (fun j => (X.2.2.2.2 a j).map ad)))))) := by rw [wsX_at ca ad X ha, en_54 hsh]
  exact va_alen hx hb hK hP a 4 he (ty := .object RX3) rfl rfl hd (kk p l e s m args below meth c D ca A n0 ad0 ad H locs ls C hl)

theorem r_gets {C2 nm ds : String} {v : Value} {idx : Nat} (hq : (C2, nm, ds, v) ∈ oS) (hlk : Cond.fieldLink μ.1.cls idx C2 nm ds ∈ gtb) (hd : decode μ.2.1 pc = .ok (.getstatic idx, 3)) (kk : RR sc μ d mc ms post k n (pc + 3) lv (v :: st) X) : RR sc μ d mc ms post k n pc lv st X := by
  intro p l e s m args below meth c D ca A n0 ad0 ad H locs ls C hl
  obtain ⟨⟨hx, hb, hr, hml, hown, hts, hlocks, hnm, hA, hK, hST⟩, hnn, hP, hD, hS⟩ := id C
  exact va_gets hx hb (hST.1.2.2.1 _ hq) hS hown (hts _ hlk) (fun _ z => z) hd (kk p l e s m args below meth c D ca A n0 ad0 ad H locs ls C hl)

theorem r_getsQ {C2 : String} {idx : Nat} (hlk : Cond.fieldLink μ.1.cls idx RJ3 "SIOOBE_FORMATTER" "Ljava/util/function/BiFunction;" ∈ gtb) (hd : decode μ.2.1 pc = .ok (.getstatic idx, 3)) (k1 : RR sc μ d mc ms post k n (pc + 3) lv (.null :: st) X) (k2 : RR sc μ d mc ms post k n (pc + 3) lv (.ref 1400 :: st) X) : RR sc μ d mc ms post k n pc lv st X := by
  intro p l e s m args below meth c D ca A n0 ad0 ad H locs ls C hl
  obtain ⟨⟨hx, hb, hr, hml, hown, hts, hlocks, hnm, hA, hK, hST⟩, hnn, hP, hD, hS⟩ := id C
  rcases hST.1.2.2.2.2 with h | h
  · exact va_gets hx hb h hS hown (hts _ hlk) (fun _ z => z) hd (k1 p l e s m args below meth c D ca A n0 ad0 ad H locs ls C hl)
  · exact va_gets hx hb h hS hown (hts _ hlk) (fun _ z => z) hd (k2 p l e s m args below meth c D ca A n0 ad0 ad H locs ls C hl)

theorem r_tld {a : Nat} {t : List Int32} {i : Int32} (hq : (a, t) ∈ oT) (hin : vp_in i t.length) (hd : decode μ.2.1 pc = .ok (.iaload, 1)) (kk : RR sc μ d mc ms post k n (pc + 1) lv (.int (t.getD i.toNatClampNeg 0) :: st) X) : RR sc μ d mc ms post k n pc lv (.int i :: .ref a :: st) X := by
  intro p l e s m args below meth c D ca A n0 ad0 ad H locs ls C hl
  obtain ⟨⟨hx, hb, hr, hml, hown, hts, hlocks, hnm, hA, hK, hST⟩, hnn, hP, hD, hS⟩ := id C
  exact va_ti hx hb (hST.1.1 _ hq) hS hin rfl hd (kk p l e s m args below meth c D ca A n0 ad0 ad H locs ls C hl)

theorem r_tlen {a : Nat} {t : List Int32} (hq : (a, t) ∈ oT) (hd : decode μ.2.1 pc = .ok (.arraylength, 1)) (kk : RR sc μ d mc ms post k n (pc + 1) lv (.int (Int32.ofNat t.length) :: st) X) : RR sc μ d mc ms post k n pc lv (.ref a :: st) X := by
  intro p l e s m args below meth c D ca A n0 ad0 ad H locs ls C hl
  obtain ⟨⟨hx, hb, hr, hml, hown, hts, hlocks, hnm, hA, hK, hST⟩, hnn, hP, hD, hS⟩ := id C
  exact va_tlen hx hb (hST.1.1 _ hq) hS rfl hd (kk p l e s m args below meth c D ca A n0 ad0 ad H locs ls C hl)

theorem r_sld {i : Int32} (hin : vp_in i sc.1) (hd : decode μ.2.1 pc = .ok (.iaload, 1)) (kk : RR sc μ d mc ms post k n (pc + 1) lv (.int (sc.2 i.toNatClampNeg) :: st) X) : RR sc μ d mc ms post k n pc lv (.int i :: .ref 1300 :: st) X := by
  intro p l e s m args below meth c D ca A n0 ad0 ad H locs ls C hl
  obtain ⟨⟨hx, hb, hr, hml, hown, hts, hlocks, hnm, hA, hK, hST⟩, hnn, hP, hD, hS⟩ := id C
  exact va_ti hx hb hST.1.2.1 hS hin rfl hd (kk p l e s m args below meth c D ca A n0 ad0 ad H locs ls C hl)

theorem r_slen (hd : decode μ.2.1 pc = .ok (.arraylength, 1)) (kk : RR sc μ d mc ms post k n (pc + 1) lv (.int (Int32.ofNat sc.1) :: st) X) : RR sc μ d mc ms post k n pc lv (.ref 1300 :: st) X := by
  intro p l e s m args below meth c D ca A n0 ad0 ad H locs ls C hl
  obtain ⟨⟨hx, hb, hr, hml, hown, hts, hlocks, hnm, hA, hK, hST⟩, hnn, hP, hD, hS⟩ := id C
  exact va_tlen hx hb hST.1.2.1 hS rfl hd (kk p l e s m args below meth c D ca A n0 ad0 ad H locs ls C hl)

theorem r_ldc {idx : Nat} {v : Int32} (hc : Cond.constant μ.1.cls idx v ∈ gtb) (hd : decode μ.2.1 pc = .ok (.ldc idx, 2)) (kk : RR sc μ d mc ms post k n (pc + 2) lv (.int v :: st) X) : RR sc μ d mc ms post k n pc lv st X := by
  intro p l e s m args below meth c D ca A n0 ad0 ad H locs ls C hl
  obtain ⟨⟨hx, hb, hr, hml, hown, hts, hlocks, hnm, hA, hK, hST⟩, hnn, hP, hD, hS⟩ := id C
  exact lv_ldc hx hb hown (hts _ hc) hd (kk p l e s m args below meth c D ca A n0 ad0 ad H locs ls C hl)

theorem r_ldcw {idx : Nat} {v : Int32} (hc : Cond.constant μ.1.cls idx v ∈ gtb) (hd : decode μ.2.1 pc = .ok (.ldc_w idx, 3)) (kk : RR sc μ d mc ms post k n (pc + 3) lv (.int v :: st) X) : RR sc μ d mc ms post k n pc lv st X := by
  intro p l e s m args below meth c D ca A n0 ad0 ad H locs ls C hl
  obtain ⟨⟨hx, hb, hr, hml, hown, hts, hlocks, hnm, hA, hK, hST⟩, hnn, hP, hD, hS⟩ := id C
  exact lv_ldcw hx hb hown (hts _ hc) hd (kk p l e s m args below meth c D ca A n0 ad0 ad H locs ls C hl)

theorem r_ldc2 {idx : Nat} {v : Int64} (hc : Cond.constantLong μ.1.cls idx v ∈ gtb) (hd : decode μ.2.1 pc = .ok (.ldc2_w idx, 3)) (kk : RR sc μ d mc ms post k n (pc + 3) lv (.long v :: st) X) : RR sc μ d mc ms post k n pc lv st X := by
  intro p l e s m args below meth c D ca A n0 ad0 ad H locs ls C hl
  obtain ⟨⟨hx, hb, hr, hml, hown, hts, hlocks, hnm, hA, hK, hST⟩, hnn, hP, hD, hS⟩ := id C
  exact lv_ldc2 hx hb hown (hts _ hc) hd (kk p l e s m args below meth c D ca A n0 ad0 ad H locs ls C hl)

theorem r_sval {i idx : Nat} (hi : i < 16) (hlk : Cond.fieldLink μ.1.cls idx "java/lang/String" "value" "[B" ∈ gtb) (hd : decode μ.2.1 pc = .ok (.getfield idx, 3)) (kk : RR sc μ d mc ms post k n (pc + 3) lv (.ref (1200 + i) :: st) X) : RR sc μ d mc ms post k n pc lv (.ref (1100 + i) :: st) X := by
  intro p l e s m args below meth c D ca A n0 ad0 ad H locs ls C hl
  obtain ⟨⟨hx, hb, hr, hml, hown, hts, hlocks, hnm, hA, hK, hST⟩, hnn, hP, hD, hS⟩ := id C
  exact vk_getf hx hb (hST.1.2.2.2.1.1 i hi).2.2.1 hS hown (hts _ hlk) (fun _ z => z) hd (kk p l e s m args below meth c D ca A n0 ad0 ad H locs ls C hl)

theorem r_scod {i idx : Nat} (hi : i < 16) (hlk : Cond.fieldLink μ.1.cls idx "java/lang/String" "coder" "B" ∈ gtb) (hd : decode μ.2.1 pc = .ok (.getfield idx, 3)) (kk : RR sc μ d mc ms post k n (pc + 3) lv (.int 0 :: st) X) : RR sc μ d mc ms post k n pc lv (.ref (1100 + i) :: st) X := by
  intro p l e s m args below meth c D ca A n0 ad0 ad H locs ls C hl
  obtain ⟨⟨hx, hb, hr, hml, hown, hts, hlocks, hnm, hA, hK, hST⟩, hnn, hP, hD, hS⟩ := id C
  exact vk_getf hx hb (hST.1.2.2.2.1.1 i hi).2.1 hS hown (hts _ hlk) (fun _ z => z) hd (kk p l e s m args below meth c D ca A n0 ad0 ad H locs ls C hl)

theorem r_sbld {j : Nat} {i : Int32} (hj : j < 16) (hin : vp_in i (oL.getD j 0)) (hd : decode μ.2.1 pc = .ok (.baload, 1)) (kk : RR sc μ d mc ms post k n (pc + 1) lv (.int ((oB.getD j []).getD i.toNatClampNeg 0) :: st) X) : RR sc μ d mc ms post k n pc lv (.int i :: .ref (1200 + j) :: st) X := by
  intro p l e s m args below meth c D ca A n0 ad0 ad H locs ls C hl
  obtain ⟨⟨hx, hb, hr, hml, hown, hts, hlocks, hnm, hA, hK, hST⟩, hnn, hP, hD, hS⟩ := id C
  exact va_tb hx hb (hST.1.2.2.2.1.1 j hj).2.2.2 hS hin rfl hd (kk p l e s m args below meth c D ca A n0 ad0 ad H locs ls C hl)

theorem r_sblen {j : Nat} (hj : j < 16) (hd : decode μ.2.1 pc = .ok (.arraylength, 1)) (kk : RR sc μ d mc ms post k n (pc + 1) lv (.int (Int32.ofNat (oL.getD j 0)) :: st) X) : RR sc μ d mc ms post k n pc lv (.ref (1200 + j) :: st) X := by
  intro p l e s m args below meth c D ca A n0 ad0 ad H locs ls C hl
  obtain ⟨⟨hx, hb, hr, hml, hown, hts, hlocks, hnm, hA, hK, hST⟩, hnn, hP, hD, hS⟩ := id C
  exact va_tlen hx hb (hST.1.2.2.2.1.1 j hj).2.2.2 hS rfl hd (kk p l e s m args below meth c D ca A n0 ad0 ad H locs ls C hl)

theorem r_iret {v : Int32} {ty : FieldType} (hr2 : μ.2.2.2 = some ty) (hn2 : narrow ty (.int v) = .int v) (hk : k ≤ mc) (hn : n ≤ ms) (hd : decode μ.2.1 pc = .ok (.ireturn, 1)) (h : post.2 (some (.int v)) X) : RR sc μ d mc ms post k n pc lv [.int v] X := by
  intro p l e s m args below meth c D ca A n0 ad0 ad H locs ls C hl
  obtain ⟨⟨hx, hb, hr, hml, hown, hts, hlocks, hnm, hA, hK, hST⟩, hnn, hP, hD, hS⟩ := id C
  refine W.widen (k := mc) (n := ms) hk hn ?_
  exact W.zret hx hb (hr.trans hr2) hn2 (fun t ht hW => ⟨⟨_, X, ad, rfl, h, hnn, by rw [ht]; exact hP, va_K.moved hW.alike hK, hD⟩, hS.F ht⟩) hS.2.2 hd

theorem r_lret {v : Int64} (hr2 : μ.2.2.2 = some .long) (hk : k ≤ mc) (hn : n ≤ ms) (hd : decode μ.2.1 pc = .ok (.lreturn, 1)) (h : post.2 (some (.long v)) X) : RR sc μ d mc ms post k n pc lv [.long v] X := by
  intro p l e s m args below meth c D ca A n0 ad0 ad H locs ls C hl
  obtain ⟨⟨hx, hb, hr, hml, hown, hts, hlocks, hnm, hA, hK, hST⟩, hnn, hP, hD, hS⟩ := id C
  refine W.widen (k := mc) (n := ms) hk hn ?_
  exact W.lret hx hb (hr.trans hr2) (fun t ht hW => ⟨⟨_, X, ad, rfl, h, hnn, by rw [ht]; exact hP, va_K.moved hW.alike hK, hD⟩, hS.F ht⟩) hS.2.2 hd

theorem r_vret (hr2 : μ.2.2.2 = none) (hk : k ≤ mc) (hn : n ≤ ms) (hd : decode μ.2.1 pc = .ok (.return_, 1)) (h : post.2 none X) : RR sc μ d mc ms post k n pc lv [] X := by
  intro p l e s m args below meth c D ca A n0 ad0 ad H locs ls C hl
  obtain ⟨⟨hx, hb, hr, hml, hown, hts, hlocks, hnm, hA, hK, hST⟩, hnn, hP, hD, hS⟩ := id C
  refine W.widen (k := mc) (n := ms) hk hn ?_
  exact W.vret hx hb (hr.trans hr2) (fun t ht hW => ⟨⟨_, X, ad, rfl, h, hnn, by rw [ht]; exact hP, va_K.moved hW.alike hK, hD⟩, hS.F ht⟩) hS.2.2 hd

end Arrays
