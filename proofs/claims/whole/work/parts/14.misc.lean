theorem oR_0 : ∃ tx, (RX8, 38, tx, 1100 + 0) ∈ oR := ⟨_, List.mem_of_getElem? (i := 0) rfl⟩
theorem oR_1 : ∃ tx, (RX12, 71, tx, 1100 + 1) ∈ oR := ⟨_, List.mem_of_getElem? (i := 1) rfl⟩
theorem oR_2 : ∃ tx, (RX12, 77, tx, 1100 + 2) ∈ oR := ⟨_, List.mem_of_getElem? (i := 2) rfl⟩
theorem oR_3 : ∃ tx, (RX12, 79, tx, 1100 + 3) ∈ oR := ⟨_, List.mem_of_getElem? (i := 3) rfl⟩
theorem oR_4 : ∃ tx, (RX12, 81, tx, 1100 + 4) ∈ oR := ⟨_, List.mem_of_getElem? (i := 4) rfl⟩
theorem oR_5 : ∃ tx, (RX12, 83, tx, 1100 + 5) ∈ oR := ⟨_, List.mem_of_getElem? (i := 5) rfl⟩
theorem oR_6 : ∃ tx, (RX12, 85, tx, 1100 + 6) ∈ oR := ⟨_, List.mem_of_getElem? (i := 6) rfl⟩
theorem oR_7 : ∃ tx, (RX12, 87, tx, 1100 + 7) ∈ oR := ⟨_, List.mem_of_getElem? (i := 7) rfl⟩
theorem oR_8 : ∃ tx, (RX12, 89, tx, 1100 + 8) ∈ oR := ⟨_, List.mem_of_getElem? (i := 8) rfl⟩
theorem oR_9 : ∃ tx, (RX12, 91, tx, 1100 + 9) ∈ oR := ⟨_, List.mem_of_getElem? (i := 9) rfl⟩
theorem oR_10 : ∃ tx, (RX12, 93, tx, 1100 + 10) ∈ oR := ⟨_, List.mem_of_getElem? (i := 10) rfl⟩
theorem oR_11 : ∃ tx, (RX12, 180, tx, 1100 + 11) ∈ oR := ⟨_, List.mem_of_getElem? (i := 11) rfl⟩
theorem oR_12 : ∃ tx, (RX12, 186, tx, 1100 + 12) ∈ oR := ⟨_, List.mem_of_getElem? (i := 12) rfl⟩
theorem oR_13 : ∃ tx, (RX12, 191, tx, 1100 + 13) ∈ oR := ⟨_, List.mem_of_getElem? (i := 13) rfl⟩
theorem oR_14 : ∃ tx, (RX12, 196, tx, 1100 + 14) ∈ oR := ⟨_, List.mem_of_getElem? (i := 14) rfl⟩
theorem oR_15 : ∃ tx, (RX12, 200, tx, 1100 + 15) ∈ oR := ⟨_, List.mem_of_getElem? (i := 15) rfl⟩
section Misc
variable {sc : Sc} {μ : Mu} {d mc ms : Nat} {post : Po} {k n pc : Nat} {lv : List (Nat × Value)} {st : List Value} {X : Hp} {I : Is} {L : Ls} {tg : Nat}
theorem r_ldcS {i idx : Nat} (hq : ∃ tx, (μ.1.cls, idx, tx, 1100 + i) ∈ oR) (hd : decode μ.2.1 pc = .ok (.ldc idx, 2)) (kk : RR sc μ d mc ms post k n (pc + 2) lv (.ref (1100 + i) :: st) X) : RR sc μ d mc ms post k n pc lv st X := by
  intro p l e s m args below meth c D ca A n0 ad0 ad H locs ls C hl
  obtain ⟨⟨hx, hb, hr, hml, hown, hts, hlocks, hnm, hA, hK, hST⟩, hnn, hP, hD, hS⟩ := id C
  obtain ⟨tx, hq⟩ := hq
  exact va_ldcS hx hb hown (hST.2.1 _ hq) hd (kk p l e s m args below meth c D ca A n0 ad0 ad H locs ls C hl)

theorem PWf_put (tg x : Nat) : up (PWf tg) 33 3 (some x) = PWf x := by
  funext a f
  by_cases ha : a = 33
  · subst ha
    rw [up_s]
    by_cases hf : f = 3
    · subst hf
      rw [vu_s]
      rfl
    · rw [vu_n _ _ hf]
      simp [PWf, hf]
  · rw [up_n _ _ _ ha]
    simp [PWf, ha]
theorem w_putT {idx x : Nat} {ty : FieldType} (hF : FL μ.1.cls idx 8 3 2 ty false true) (hxv : x < NW) (hn : ∀ q : Nat, narrow ty (.ref q) = .ref q) (hfit : ∀ q : Nat, fits ty (.ref q) = true) (hd : decode μ.2.1 pc = .ok (.putfield idx, 3)) (kk : RR sc μ d mc ms post k n (pc + 3) lv st (XW I L x)) : RR sc μ d mc ms post k n pc lv (.ref x :: .ref 33 :: st) (XW I L tg) := by
  refine r_putR hF rfl (SHW_lt (show SHW 33 = (8, 0) from rfl) (by omega)) (fun h => absurd h Bool.false_ne_true) hxv hn hfit hd ?_
  show RR sc μ d mc ms post k n (pc + 3) lv st (NW, SHW, I, L, up (PWf tg) 33 3 (some x))
  rw [PWf_put]
  exact kk
/-- the two camps' cells change their names -/
def swp (a : Nat) : Nat := if 3 ≤ a ∧ a < 18 then a + 15 else if 18 ≤ a ∧ a < 33 then a - 15 else a
theorem swp_swp (a : Nat) : swp (swp a) = a := by
  unfold swp
  (repeat' split) <;> omega
theorem swp_lt {a : Nat} : swp a < NW ↔ a < NW := by
  unfold swp NW
  (repeat' split) <;> omega
theorem swp_out {a : Nat} (h : a < 3 ∨ 33 ≤ a) : swp a = a := by
  unfold swp
  rw [if_neg (by omega), if_neg (by omega)]
theorem SHW_swp (a : Nat) : SHW (swp a) = SHW a := by
  by_cases h : a < 3 ∨ 33 ≤ a
  · rw [swp_out h]
  · have : ∀ a, a < 33 → SHW (swp a) = SHW a := by decide +kernel
    exact this a (by omega)
def sw2 (P : Nat → Nat → Option Nat) : Nat → Nat → Option Nat := fun a f => (P (swp a) f).map swp
theorem en_sw {ca : Nat → ClassId} {ad : Nat → Nat} {I : Is} {L : Ls} {P : Nat → Nat → Option Nat} (a : Nat) : en ca (fun b => ad (swp b)) (NW, SHW, fun b => I (swp b), fun b => L (swp b), sw2 P) a = en ca ad (NW, SHW, I, L, P) (swp a) := by
  have hm : ∀ q : Option Nat, (q.map swp).map (fun b => ad (swp b)) = q.map ad := by
    intro q
    cases q with
    | none => rfl
    | some b => exact congrArg some (congrArg ad (swp_swp b))
  have hf : ∀ k kd, fv (fun b => ad (swp b)) (NW, SHW, fun b => I (swp b), fun b => L (swp b), sw2 P) a k kd = fv ad (NW, SHW, I, L, P) (swp a) k kd := by
    intro k kd
    unfold fv
    show (if kd = 0 then _ else if kd = 1 then _ else va_rf (((P (swp a) k).map swp).map (fun b => ad (swp b)))) = _
    rw [hm]
  have hs : SHW a = SHW (swp a) := (SHW_swp a).symm
  unfold en
  simp only [hf, hs]
  show (if _ then _ else if _ then _ else if _ then Sum.inl (ca 4, (SHW (swp a)).2, Sum.inr (Sum.inr (Sum.inr (Sum.inr (fun j => ((P (swp a) j).map swp).map (fun b => ad (swp b))))))) else _) = _
  simp only [hm]
theorem wsX_sw {ca : Nat → ClassId} {ad : Nat → Nat} {I : Is} {L : Ls} {P : Nat → Nat → Option Nat} {k : Nat} {q : Nat × va_E} (h : (wsX ca (fun b => ad (swp b)) (NW, SHW, fun b => I (swp b), fun b => L (swp b), sw2 P))[k]? = some q) : k < NW ∧ (wsX ca ad (NW, SHW, I, L, P))[swp k]? = some q := by
  have hk : k < NW := by
    have := (List.getElem?_eq_some_iff.mp h).1
    simpa [wsX] using this
  refine ⟨hk, ?_⟩
  rw [wsX_at ca _ (NW, SHW, fun b => I (swp b), fun b => L (swp b), sw2 P) hk] at h
  rw [wsX_at ca ad (NW, SHW, I, L, P) (swp_lt.mpr hk), ← h, en_sw]
/-- after the camps have changed their places, they change their names: a row for those who hold none of them -/
theorem r_ren {P : Nat → Nat → Option Nat} (hP0 : ∀ a f b, P a f = some b → b < NW) (hfl : post.1 = false) (hlv : lv.all (fun q => okw NW q.2) = true) (hst : st.all (okw NW) = true) (kk : RR sc μ d mc ms post k n pc lv st (NW, SHW, fun b => I (swp b), fun b => L (swp b), sw2 P)) : RR sc μ d mc ms post k n pc lv st (NW, SHW, I, L, P) := by
  intro p l e s m args below meth c D ca A n0 ad0 ad H locs ls C hl
  obtain ⟨⟨hx, hb, hr, hml, hown, hts, hlocks, hnm, hA, hK, hST⟩, hnn, hP, hD, hS⟩ := id C
  have had : ∀ a, a < 3 ∨ 33 ≤ a → a < NW ∨ NW ≤ a → (fun b => ad (swp b)) a = ad a := fun a h _ => congrArg ad (swp_out h)
  have C2 : Cx sc μ post.1 p s m args meth c D ca A n0 ad0 (fun b => ad (swp b)) (NW, SHW, fun b => I (swp b), fun b => L (swp b), sw2 P) H locs := by
    refine ⟨⟨hx, hb, hr, hml, hown, hts, hlocks, hnm, hA, hK, hST.ad (fun a ha => congrArg ad (swp_out (by omega)))⟩, ⟨hnn.1, fun a hg ha => ?_, hnn.2.2.1, fun a f b hb' => ?_⟩, fun k9 q h9 => ?_, ⟨fun i j x y hi hj hxy => ?_, fun k9 q h9 => ?_⟩, hS⟩
    · rcases hg with h | h
      · rw [hfl] at h; cases h
      · show ad (swp a) = ad0 a
        rw [swp_out h]
        exact hnn.2.1 a (Or.inr h) ha
    · have hb' : (P (swp a) f).map swp = some b := hb'
      cases hq : P (swp a) f with
      | none => rw [hq] at hb'; cases hb'
      | some b0 =>
        rw [hq] at hb'
        cases hb'
        exact swp_lt.mpr (hP0 _ _ _ hq)
    · exact hP _ _ (wsX_sw h9).2
    · have e := hD.1 _ _ x y (wsX_sw hi).2 (wsX_sw hj).2 hxy
      rw [← swp_swp i, e, swp_swp]
    · exact hD.2 _ _ (wsX_sw h9).2
  have K := kk p l e s m args below meth c D ca A n0 ad0 (fun b => ad (swp b)) H locs ls C2 (by rw [okw_lv hnn.2.2.1 hlv had]; exact hl)
  rw [okw_st hnn.2.2.1 hst had] at K
  exact K

end Misc
set_option maxRecDepth 100000 in
theorem lmX0_91 : Cond.methodLink RX0 91 yJ9_max_7cf53 ∈ gtb := tg4 (i := 21) rfl rfl
set_option maxRecDepth 100000 in
theorem lmX0_97 : Cond.methodLink RX0 97 yJ9_abs_0f7a4 ∈ gtb := tg4 (i := 85) rfl rfl
set_option maxRecDepth 100000 in
theorem lmX0_111 : Cond.methodLink RX0 111 yJ9_min_7cf53 ∈ gtb := tg5 (i := 176) rfl rfl
set_option maxRecDepth 100000 in
theorem lmX3_84 : Cond.methodLink RX3 84 yJ9_min_7cf53 ∈ gtb := tg4 (i := 40) rfl rfl
set_option maxRecDepth 100000 in
theorem lmX4_31 : Cond.methodLink RX4 31 yJ9_min_7cf53 ∈ gtb := tg4 (i := 117) rfl rfl
set_option maxRecDepth 100000 in
theorem lmX7_74 : Cond.methodLink RX7 74 yJ9_min_7cf53 ∈ gtb := tg5 (i := 105) rfl rfl
set_option maxRecDepth 100000 in
theorem lmX7_82 : Cond.methodLink RX7 82 yJ9_max_7cf53 ∈ gtb := tg5 (i := 120) rfl rfl
set_option maxRecDepth 100000 in
theorem lmX8_40 : Cond.methodLink RX8 40 yJ0_length_8abf5 ∈ gtb := tg1 (i := 159) rfl rfl
set_option maxRecDepth 100000 in
theorem lmX8_46 : Cond.methodLink RX8 46 yJ0_charAt_5068e ∈ gtb := tg1 (i := 169) rfl rfl
set_option maxRecDepth 100000 in
theorem lmX12_40 : Cond.methodLink RX12 40 yJ0_length_8abf5 ∈ gtb := tg7 (i := 40) rfl rfl
set_option maxRecDepth 100000 in
theorem lmX12_45 : Cond.methodLink RX12 45 yJ0_charAt_5068e ∈ gtb := tg7 (i := 41) rfl rfl
set_option maxRecDepth 100000 in
theorem lmX12_419 : Cond.methodLink RX12 419 yJ9_max_7cf53 ∈ gtb := tg7 (i := 153) rfl rfl
set_option maxRecDepth 100000 in
theorem lmX12_433 : Cond.methodLink RX12 433 yJ9_min_7cf53 ∈ gtb := tg7 (i := 163) rfl rfl
set_option maxRecDepth 100000 in
theorem lmX12_441 : Cond.methodLink RX12 441 yJ9_abs_0f7a4 ∈ gtb := tg7 (i := 194) rfl rfl
set_option maxRecDepth 100000 in
theorem lmJ0_335 : Cond.methodLink RJ0 335 yJ0_coder_7d493 ∈ gtb := tg1 (i := 163) rfl rfl
set_option maxRecDepth 100000 in
theorem lmJ0_492 : Cond.methodLink RJ0 492 yJ0_isLatin1_aae02 ∈ gtb := tg1 (i := 173) rfl rfl
set_option maxRecDepth 100000 in
theorem lmJ1_9 : Cond.methodLink RJ1 9 yJ0_checkIndex_df160 ∈ gtb := tg1 (i := 180) rfl rfl
set_option maxRecDepth 100000 in
theorem lmJ2_414 : Cond.methodLink RJ2 414 yJ0_checkIndex_df160 ∈ gtb := tg1 (i := 197) rfl rfl
theorem vu_eq {α : Type} (f : Nat → α) (k : Nat) (v : α) (j : Nat) : va_up f k v j = if j = k then v else f j := rfl
theorem up_eq {α : Type} (I : Nat → Nat → α) (a k : Nat) (v : α) (b : Nat) : up I a k v b = if b = a then va_up (I a) k v else I b := rfl
theorem upr_eq {α : Type} (I : Nat → Nat → α) (a : Nat) (f : Nat → α) (b : Nat) : upr I a f b = if b = a then f else I b := rfl
theorem up_up {α : Type} (I : Nat → Nat → α) (a k : Nat) (v w : α) : up (up I a k v) a k w = up I a k w := by
  funext b j
  by_cases h : b = a
  · subst h
    rw [up_s, up_s, up_s]
    by_cases h2 : j = k
    · subst h2; rw [vu_s, vu_s]
    · rw [vu_n _ _ h2, vu_n _ _ h2, vu_n _ _ h2]
  · rw [up_n _ _ _ h, up_n _ _ _ h, up_n _ _ _ h]
/-- numbers as they are -/
theorem i_lt {a b : Int32} : a < b ↔ a.toInt < b.toInt := Int32.lt_iff_toInt_lt
theorem i_le {a b : Int32} : a ≤ b ↔ a.toInt ≤ b.toInt := Int32.le_iff_toInt_le
theorem i_eq {a b : Int32} : a = b ↔ a.toInt = b.toInt := Int32.toInt_inj.symm
theorem i_bm {x : Int} (h1 : -2147483648 ≤ x) (h2 : x < 2147483648) : x.bmod 4294967296 = x := by
  rw [Int.bmod_eq_of_le] <;> omega
theorem i_add {a b : Int32} (h1 : -2147483648 ≤ a.toInt + b.toInt) (h2 : a.toInt + b.toInt < 2147483648) : (a + b).toInt = a.toInt + b.toInt := by
  rw [Int32.toInt_add]; exact i_bm h1 h2
theorem i_sub {a b : Int32} (h1 : -2147483648 ≤ a.toInt - b.toInt) (h2 : a.toInt - b.toInt < 2147483648) : (a - b).toInt = a.toInt - b.toInt := by
  rw [Int32.toInt_sub]; exact i_bm h1 h2
theorem i_mul {a b : Int32} (h1 : -2147483648 ≤ a.toInt * b.toInt) (h2 : a.toInt * b.toInt < 2147483648) : (a * b).toInt = a.toInt * b.toInt := by
  rw [Int32.toInt_mul]; exact i_bm h1 h2
theorem i_rng (a : Int32) : -2147483648 ≤ a.toInt ∧ a.toInt < 2147483648 := ⟨Int32.le_toInt a, Int32.toInt_lt a⟩
theorem i_cl {a : Int32} (h : 0 ≤ a.toInt) : (a.toNatClampNeg : Int) = a.toInt := by
  show ((a.toInt.toNat : Nat) : Int) = a.toInt
  omega
theorem i_nI {a : Int32} (h : 0 ≤ a.toInt) : a = nI a.toNatClampNeg := by
  rw [i_eq, nI_toInt, i_cl h]
  have := (i_rng a).2
  have := i_cl h
  omega
def iMax (a b : Int32) : Int32 := if a < b then b else a
def iMin (a b : Int32) : Int32 := if b < a then b else a
def iAbs (a : Int32) : Int32 := if 0 ≤ a then a else 0 - a
/-- a truth as the machine has it -/
def bI (c : Prop) [Decidable c] : Int32 := if c then 1 else 0
theorem bI_t {c : Prop} [Decidable c] (h : c) : bI c = 1 := if_pos h
theorem bI_f {c : Prop} [Decidable c] (h : ¬ c) : bI c = 0 := if_neg h
theorem bI_n (c : Prop) [Decidable c] : narrow .boolean (.int (bI c)) = .int (bI c) := by unfold bI; split <;> rfl
theorem bI_0 {c : Prop} [Decidable c] : bI c = 0 ↔ ¬ c := by unfold bI; split <;> simp_all
theorem bI_1 {c : Prop} [Decidable c] : ¬ bI c = 0 ↔ c := by rw [bI_0]; exact Decidable.not_not

theorem mcmax : Cond.code Lib.Math.max.name Lib.Math.max.code 2 (some .int) ∈ gtb := mkJ9_max_7cf53
theorem mcmin : Cond.code Lib.Math.min.name Lib.Math.min.code 2 (some .int) ∈ gtb := mkJ9_min_7cf53
theorem mcabs : Cond.code Lib.Math.abs.name Lib.Math.abs.code 1 (some .int) ∈ gtb := mkJ9_abs_0f7a4
section MathRows
variable {sc : Sc} {μ : Mu} {d mc ms : Nat} {post : Po} {k n pc : Nat} {lv : List (Nat × Value)} {st : List Value} {X : Hp}
theorem r_mmax {x y : Int32} {idx : Nat} (hlk : Cond.methodLink μ.1.cls idx yJ9_max_7cf53 ∈ gtb) (hs : (st.map fun v => v.category).sum ≤ 8) (hdd : 1 ≤ d) (hk : k ≤ mc) (hn : n ≤ ms) (hd : decode μ.2.1 pc = .ok (.invokestatic idx, 3)) (kk : RR sc μ d mc ms post k n (pc + 3) lv (.int (iMax x y) :: st) X) : RR sc μ d mc ms post k n pc lv (.int y :: .int x :: st) X := by
  intro p l e s m args below meth c D ca A n0 ad0 ad H locs ls C hl
  obtain ⟨⟨hx, hb, hr, hml, hown, hts, hlocks, hnm, hA, hK, hST⟩, hnn, hP, hD, hS⟩ := id C
  have e8 : ((st.map (vv ad)).map fun v => v.category) = st.map fun v => v.category := by
    rw [List.map_map]
    exact List.map_congr_left fun v _ => vv_cat ad v
  have e7 : ((st.map (vv ad)).map fun v => v.category).sum + 13 ≤ (rr d mc ms).locals := by
    rw [e8]
    show _ ≤ 64 * d
    omega
  exact va_mmax hx hb (by rw [hml]; exact hl.1.symm) hown (hts _ hlk) (hts _ mtJ9_max_7cf53) (hts _ iniRJ9) (hts _ mcmax) hdd e7 hk hn hd (kk p l e s m args below meth c D ca A n0 ad0 ad H locs ls C hl)

theorem r_mmin {x y : Int32} {idx : Nat} (hlk : Cond.methodLink μ.1.cls idx yJ9_min_7cf53 ∈ gtb) (hs : (st.map fun v => v.category).sum ≤ 8) (hdd : 1 ≤ d) (hk : k ≤ mc) (hn : n ≤ ms) (hd : decode μ.2.1 pc = .ok (.invokestatic idx, 3)) (kk : RR sc μ d mc ms post k n (pc + 3) lv (.int (iMin x y) :: st) X) : RR sc μ d mc ms post k n pc lv (.int y :: .int x :: st) X := by
  intro p l e s m args below meth c D ca A n0 ad0 ad H locs ls C hl
  obtain ⟨⟨hx, hb, hr, hml, hown, hts, hlocks, hnm, hA, hK, hST⟩, hnn, hP, hD, hS⟩ := id C
  have e8 : ((st.map (vv ad)).map fun v => v.category) = st.map fun v => v.category := by
    rw [List.map_map]
    exact List.map_congr_left fun v _ => vv_cat ad v
  have e7 : ((st.map (vv ad)).map fun v => v.category).sum + 13 ≤ (rr d mc ms).locals := by
    rw [e8]
    show _ ≤ 64 * d
    omega
  exact va_mmin hx hb (by rw [hml]; exact hl.1.symm) hown (hts _ hlk) (hts _ mtJ9_min_7cf53) (hts _ iniRJ9) (hts _ mcmin) hdd e7 hk hn hd (kk p l e s m args below meth c D ca A n0 ad0 ad H locs ls C hl)

theorem r_mabs {x : Int32} {idx : Nat} (hlk : Cond.methodLink μ.1.cls idx yJ9_abs_0f7a4 ∈ gtb) (hs : (st.map fun v => v.category).sum ≤ 8) (hdd : 1 ≤ d) (hk : k ≤ mc) (hn : n ≤ ms) (hd : decode μ.2.1 pc = .ok (.invokestatic idx, 3)) (kk : RR sc μ d mc ms post k n (pc + 3) lv (.int (iAbs x) :: st) X) : RR sc μ d mc ms post k n pc lv (.int x :: st) X := by
  intro p l e s m args below meth c D ca A n0 ad0 ad H locs ls C hl
  obtain ⟨⟨hx, hb, hr, hml, hown, hts, hlocks, hnm, hA, hK, hST⟩, hnn, hP, hD, hS⟩ := id C
  have e8 : ((st.map (vv ad)).map fun v => v.category) = st.map fun v => v.category := by
    rw [List.map_map]
    exact List.map_congr_left fun v _ => vv_cat ad v
  have e7 : ((st.map (vv ad)).map fun v => v.category).sum + 13 ≤ (rr d mc ms).locals := by
    rw [e8]
    show _ ≤ 64 * d
    omega
  exact va_mabs hx hb (by rw [hml]; exact hl.1.symm) hown (hts _ hlk) (hts _ mtJ9_abs_0f7a4) (hts _ iniRJ9) (hts _ mcabs) hdd e7 hk hn hd (kk p l e s m args below meth c D ca A n0 ad0 ad H locs ls C hl)

end MathRows
