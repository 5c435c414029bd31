theorem vv_cat (ad : Nat → Nat) (v : Value) : (vv ad v).category = v.category := by cases v <;> rfl
theorem lvv_at {ad : Nat → Nat} {lv : List (Nat × Value)} {j i : Nat} {v : Value} (h : lv[j]? = some (i, v)) : (lvv ad lv)[j]? = some (i, vv ad v) := by
  unfold lvv
  rw [List.getElem?_map, h]
  rfl
theorem lvv_f1 (ad : Nat → Nat) (lv : List (Nat × Value)) (i : Nat) (v : Value) : (i, vv ad v) :: (lvv ad lv).filter (fun q => !(q.1 == i) && !(q.1 + 1 == i && q.2.category == 2)) = lvv ad ((i, v) :: lv.filter (fun q => !(q.1 == i) && !(q.1 + 1 == i && q.2.category == 2))) := by
  unfold lvv
  rw [List.filter_map, List.map_cons]
  congr 3
  funext q
  simp [vv_cat]
theorem lvv_f2 (ad : Nat → Nat) (lv : List (Nat × Value)) (i : Nat) (v : Value) : (i, vv ad v) :: (lvv ad lv).filter (fun q => !(q.1 == i) && (!(q.1 == i + 1) && !(q.1 + 1 == i && q.2.category == 2))) = lvv ad ((i, v) :: lv.filter (fun q => !(q.1 == i) && (!(q.1 == i + 1) && !(q.1 + 1 == i && q.2.category == 2)))) := by
  unfold lvv
  rw [List.filter_map, List.map_cons]
  congr 3
  funext q
  simp [vv_cat]
theorem lvv_pick (ad : Nat → Nat) (lv : List (Nat × Value)) (ks : List Nat) : lv_pick (lvv ad lv) ks = lvv ad (lv_pick lv ks) := by
  unfold lv_pick lvv
  rw [List.map_filterMap]
  congr 1
  funext q
  rw [List.getElem?_map]
section Rows
variable {sc : Sc} {μ : Mu} {d mc ms : Nat} {post : Po} {k n pc : Nat} {lv : List (Nat × Value)} {st : List Value} {X : Hp}
theorem r_iconst {c : Int} {v : Int32} (hv : Int32.ofInt c = v) (hd : decode μ.2.1 pc = .ok (.iconst c, 1)) (kk : RR sc μ d mc ms post k n (pc + 1) lv (.int v :: st) X) : RR sc μ d mc ms post k n pc lv (st) X := by
  intro p l e s m args below meth c D ca A n0 ad0 ad H locs ls C hl
  exact lv_iconst C.1.1 C.1.2.1 hd hv (kk p l e s m args below meth c D ca A n0 ad0 ad H locs ls C hl)

theorem r_bipush {c : Int} {v : Int32} (hv : (Int8.ofInt c).toInt32 = v) (hd : decode μ.2.1 pc = .ok (.bipush c, 2)) (kk : RR sc μ d mc ms post k n (pc + 2) lv (.int v :: st) X) : RR sc μ d mc ms post k n pc lv (st) X := by
  intro p l e s m args below meth c D ca A n0 ad0 ad H locs ls C hl
  exact lv_bipush C.1.1 C.1.2.1 hd hv (kk p l e s m args below meth c D ca A n0 ad0 ad H locs ls C hl)

theorem r_sipush {c : Int} {v : Int32} (hv : (Int16.ofInt c).toInt32 = v) (hd : decode μ.2.1 pc = .ok (.sipush c, 3)) (kk : RR sc μ d mc ms post k n (pc + 3) lv (.int v :: st) X) : RR sc μ d mc ms post k n pc lv (st) X := by
  intro p l e s m args below meth c D ca A n0 ad0 ad H locs ls C hl
  exact lv_sipush C.1.1 C.1.2.1 hd hv (kk p l e s m args below meth c D ca A n0 ad0 ad H locs ls C hl)

theorem r_lconst {c : Fin 2} {v : Int64} (hv : Int64.ofNat (c : Nat) = v) (hd : decode μ.2.1 pc = .ok (.lconst c, 1)) (kk : RR sc μ d mc ms post k n (pc + 1) lv (.long v :: st) X) : RR sc μ d mc ms post k n pc lv (st) X := by
  intro p l e s m args below meth c D ca A n0 ad0 ad H locs ls C hl
  exact lv_lconst C.1.1 C.1.2.1 hd hv (kk p l e s m args below meth c D ca A n0 ad0 ad H locs ls C hl)

theorem r_iadd {x y : Int32}  (hd : decode μ.2.1 pc = .ok (.iadd, 1)) (kk : RR sc μ d mc ms post k n (pc + 1) lv (.int (x + y) :: st) X) : RR sc μ d mc ms post k n pc lv (.int y :: .int x :: st) X := by
  intro p l e s m args below meth c D ca A n0 ad0 ad H locs ls C hl
  exact lv_iadd C.1.1 C.1.2.1 hd (kk p l e s m args below meth c D ca A n0 ad0 ad H locs ls C hl)

theorem r_ladd {x y : Int64}  (hd : decode μ.2.1 pc = .ok (.ladd, 1)) (kk : RR sc μ d mc ms post k n (pc + 1) lv (.long (x + y) :: st) X) : RR sc μ d mc ms post k n pc lv (.long y :: .long x :: st) X := by
  intro p l e s m args below meth c D ca A n0 ad0 ad H locs ls C hl
  exact lv_ladd C.1.1 C.1.2.1 hd (kk p l e s m args below meth c D ca A n0 ad0 ad H locs ls C hl)

theorem r_isub {x y : Int32}  (hd : decode μ.2.1 pc = .ok (.isub, 1)) (kk : RR sc μ d mc ms post k n (pc + 1) lv (.int (x - y) :: st) X) : RR sc μ d mc ms post k n pc lv (.int y :: .int x :: st) X := by
  intro p l e s m args below meth c D ca A n0 ad0 ad H locs ls C hl
  exact lv_isub C.1.1 C.1.2.1 hd (kk p l e s m args below meth c D ca A n0 ad0 ad H locs ls C hl)

theorem r_lsub {x y : Int64}  (hd : decode μ.2.1 pc = .ok (.lsub, 1)) (kk : RR sc μ d mc ms post k n (pc + 1) lv (.long (x - y) :: st) X) : RR sc μ d mc ms post k n pc lv (.long y :: .long x :: st) X := by
  intro p l e s m args below meth c D ca A n0 ad0 ad H locs ls C hl
  exact lv_lsub C.1.1 C.1.2.1 hd (kk p l e s m args below meth c D ca A n0 ad0 ad H locs ls C hl)

theorem r_imul {x y : Int32}  (hd : decode μ.2.1 pc = .ok (.imul, 1)) (kk : RR sc μ d mc ms post k n (pc + 1) lv (.int (x * y) :: st) X) : RR sc μ d mc ms post k n pc lv (.int y :: .int x :: st) X := by
  intro p l e s m args below meth c D ca A n0 ad0 ad H locs ls C hl
  exact lv_imul C.1.1 C.1.2.1 hd (kk p l e s m args below meth c D ca A n0 ad0 ad H locs ls C hl)

theorem r_lmul {x y : Int64}  (hd : decode μ.2.1 pc = .ok (.lmul, 1)) (kk : RR sc μ d mc ms post k n (pc + 1) lv (.long (x * y) :: st) X) : RR sc μ d mc ms post k n pc lv (.long y :: .long x :: st) X := by
  intro p l e s m args below meth c D ca A n0 ad0 ad H locs ls C hl
  exact lv_lmul C.1.1 C.1.2.1 hd (kk p l e s m args below meth c D ca A n0 ad0 ad H locs ls C hl)

theorem r_iand {x y : Int32}  (hd : decode μ.2.1 pc = .ok (.iand, 1)) (kk : RR sc μ d mc ms post k n (pc + 1) lv (.int (x &&& y) :: st) X) : RR sc μ d mc ms post k n pc lv (.int y :: .int x :: st) X := by
  intro p l e s m args below meth c D ca A n0 ad0 ad H locs ls C hl
  exact lv_iand C.1.1 C.1.2.1 hd (kk p l e s m args below meth c D ca A n0 ad0 ad H locs ls C hl)

theorem r_land {x y : Int64}  (hd : decode μ.2.1 pc = .ok (.land, 1)) (kk : RR sc μ d mc ms post k n (pc + 1) lv (.long (x &&& y) :: st) X) : RR sc μ d mc ms post k n pc lv (.long y :: .long x :: st) X := by
  intro p l e s m args below meth c D ca A n0 ad0 ad H locs ls C hl
  exact lv_land C.1.1 C.1.2.1 hd (kk p l e s m args below meth c D ca A n0 ad0 ad H locs ls C hl)

theorem r_ior {x y : Int32}  (hd : decode μ.2.1 pc = .ok (.ior, 1)) (kk : RR sc μ d mc ms post k n (pc + 1) lv (.int (x ||| y) :: st) X) : RR sc μ d mc ms post k n pc lv (.int y :: .int x :: st) X := by
  intro p l e s m args below meth c D ca A n0 ad0 ad H locs ls C hl
  exact lv_ior C.1.1 C.1.2.1 hd (kk p l e s m args below meth c D ca A n0 ad0 ad H locs ls C hl)

theorem r_lor {x y : Int64}  (hd : decode μ.2.1 pc = .ok (.lor, 1)) (kk : RR sc μ d mc ms post k n (pc + 1) lv (.long (x ||| y) :: st) X) : RR sc μ d mc ms post k n pc lv (.long y :: .long x :: st) X := by
  intro p l e s m args below meth c D ca A n0 ad0 ad H locs ls C hl
  exact lv_lor C.1.1 C.1.2.1 hd (kk p l e s m args below meth c D ca A n0 ad0 ad H locs ls C hl)

theorem r_ixor {x y : Int32}  (hd : decode μ.2.1 pc = .ok (.ixor, 1)) (kk : RR sc μ d mc ms post k n (pc + 1) lv (.int (x ^^^ y) :: st) X) : RR sc μ d mc ms post k n pc lv (.int y :: .int x :: st) X := by
  intro p l e s m args below meth c D ca A n0 ad0 ad H locs ls C hl
  exact lv_ixor C.1.1 C.1.2.1 hd (kk p l e s m args below meth c D ca A n0 ad0 ad H locs ls C hl)

theorem r_lxor {x y : Int64}  (hd : decode μ.2.1 pc = .ok (.lxor, 1)) (kk : RR sc μ d mc ms post k n (pc + 1) lv (.long (x ^^^ y) :: st) X) : RR sc μ d mc ms post k n pc lv (.long y :: .long x :: st) X := by
  intro p l e s m args below meth c D ca A n0 ad0 ad H locs ls C hl
  exact lv_lxor C.1.1 C.1.2.1 hd (kk p l e s m args below meth c D ca A n0 ad0 ad H locs ls C hl)

theorem r_idiv {x y : Int32} (h0 : ¬ y = 0) (hd : decode μ.2.1 pc = .ok (.idiv, 1)) (kk : RR sc μ d mc ms post k n (pc + 1) lv (.int (x / y) :: st) X) : RR sc μ d mc ms post k n pc lv (.int y :: .int x :: st) X := by
  intro p l e s m args below meth c D ca A n0 ad0 ad H locs ls C hl
  exact lv_idiv C.1.1 C.1.2.1 hd h0 (kk p l e s m args below meth c D ca A n0 ad0 ad H locs ls C hl)

theorem r_irem {x y : Int32} (h0 : ¬ y = 0) (hd : decode μ.2.1 pc = .ok (.irem, 1)) (kk : RR sc μ d mc ms post k n (pc + 1) lv (.int (x - x / y * y) :: st) X) : RR sc μ d mc ms post k n pc lv (.int y :: .int x :: st) X := by
  intro p l e s m args below meth c D ca A n0 ad0 ad H locs ls C hl
  exact lv_irem C.1.1 C.1.2.1 hd h0 (kk p l e s m args below meth c D ca A n0 ad0 ad H locs ls C hl)

theorem r_ldiv {x y : Int64} (h0 : ¬ y = 0) (hd : decode μ.2.1 pc = .ok (.ldiv, 1)) (kk : RR sc μ d mc ms post k n (pc + 1) lv (.long (x / y) :: st) X) : RR sc μ d mc ms post k n pc lv (.long y :: .long x :: st) X := by
  intro p l e s m args below meth c D ca A n0 ad0 ad H locs ls C hl
  exact lv_ldiv C.1.1 C.1.2.1 hd h0 (kk p l e s m args below meth c D ca A n0 ad0 ad H locs ls C hl)

theorem r_lrem {x y : Int64} (h0 : ¬ y = 0) (hd : decode μ.2.1 pc = .ok (.lrem, 1)) (kk : RR sc μ d mc ms post k n (pc + 1) lv (.long (x - x / y * y) :: st) X) : RR sc μ d mc ms post k n pc lv (.long y :: .long x :: st) X := by
  intro p l e s m args below meth c D ca A n0 ad0 ad H locs ls C hl
  exact lv_lrem C.1.1 C.1.2.1 hd h0 (kk p l e s m args below meth c D ca A n0 ad0 ad H locs ls C hl)

theorem r_ineg {x : Int32}  (hd : decode μ.2.1 pc = .ok (.ineg, 1)) (kk : RR sc μ d mc ms post k n (pc + 1) lv (.int (-x) :: st) X) : RR sc μ d mc ms post k n pc lv (.int x :: st) X := by
  intro p l e s m args below meth c D ca A n0 ad0 ad H locs ls C hl
  exact lv_ineg C.1.1 C.1.2.1 hd (kk p l e s m args below meth c D ca A n0 ad0 ad H locs ls C hl)

theorem r_ishl {x y : Int32}  (hd : decode μ.2.1 pc = .ok (.ishl, 1)) (kk : RR sc μ d mc ms post k n (pc + 1) lv (.int (x <<< (y &&& 31)) :: st) X) : RR sc μ d mc ms post k n pc lv (.int y :: .int x :: st) X := by
  intro p l e s m args below meth c D ca A n0 ad0 ad H locs ls C hl
  exact lv_ishl C.1.1 C.1.2.1 hd (kk p l e s m args below meth c D ca A n0 ad0 ad H locs ls C hl)

theorem r_ishr {x y : Int32}  (hd : decode μ.2.1 pc = .ok (.ishr, 1)) (kk : RR sc μ d mc ms post k n (pc + 1) lv (.int (x >>> (y &&& 31)) :: st) X) : RR sc μ d mc ms post k n pc lv (.int y :: .int x :: st) X := by
  intro p l e s m args below meth c D ca A n0 ad0 ad H locs ls C hl
  exact lv_ishr C.1.1 C.1.2.1 hd (kk p l e s m args below meth c D ca A n0 ad0 ad H locs ls C hl)

theorem r_iushr {x y : Int32}  (hd : decode μ.2.1 pc = .ok (.iushr, 1)) (kk : RR sc μ d mc ms post k n (pc + 1) lv (.int (x.toUInt32 >>> (y.toUInt32 &&& Int32.toUInt32 31)).toInt32 :: st) X) : RR sc μ d mc ms post k n pc lv (.int y :: .int x :: st) X := by
  intro p l e s m args below meth c D ca A n0 ad0 ad H locs ls C hl
  exact lv_iushr C.1.1 C.1.2.1 hd rfl (kk p l e s m args below meth c D ca A n0 ad0 ad H locs ls C hl)

theorem r_lshl {x : Int64} {y : Int32}  (hd : decode μ.2.1 pc = .ok (.lshl, 1)) (kk : RR sc μ d mc ms post k n (pc + 1) lv (.long (x <<< (y.toInt64 &&& 63)) :: st) X) : RR sc μ d mc ms post k n pc lv (.int y :: .long x :: st) X := by
  intro p l e s m args below meth c D ca A n0 ad0 ad H locs ls C hl
  exact lv_lshl C.1.1 C.1.2.1 hd rfl (kk p l e s m args below meth c D ca A n0 ad0 ad H locs ls C hl)

theorem r_i2l {x : Int32}  (hd : decode μ.2.1 pc = .ok (.i2l, 1)) (kk : RR sc μ d mc ms post k n (pc + 1) lv (.long x.toInt64 :: st) X) : RR sc μ d mc ms post k n pc lv (.int x :: st) X := by
  intro p l e s m args below meth c D ca A n0 ad0 ad H locs ls C hl
  exact lv_i2l C.1.1 C.1.2.1 hd rfl (kk p l e s m args below meth c D ca A n0 ad0 ad H locs ls C hl)

theorem r_l2i {x : Int64}  (hd : decode μ.2.1 pc = .ok (.l2i, 1)) (kk : RR sc μ d mc ms post k n (pc + 1) lv (.int x.toInt32 :: st) X) : RR sc μ d mc ms post k n pc lv (.long x :: st) X := by
  intro p l e s m args below meth c D ca A n0 ad0 ad H locs ls C hl
  exact lv_l2i C.1.1 C.1.2.1 hd rfl (kk p l e s m args below meth c D ca A n0 ad0 ad H locs ls C hl)

theorem r_i2b {x : Int32}  (hd : decode μ.2.1 pc = .ok (.i2b, 1)) (kk : RR sc μ d mc ms post k n (pc + 1) lv (.int x.toInt8.toInt32 :: st) X) : RR sc μ d mc ms post k n pc lv (.int x :: st) X := by
  intro p l e s m args below meth c D ca A n0 ad0 ad H locs ls C hl
  exact lv_i2b C.1.1 C.1.2.1 hd rfl (kk p l e s m args below meth c D ca A n0 ad0 ad H locs ls C hl)

theorem r_i2c {x : Int32}  (hd : decode μ.2.1 pc = .ok (.i2c, 1)) (kk : RR sc μ d mc ms post k n (pc + 1) lv (.int (x.toUInt32 % 65536).toInt32 :: st) X) : RR sc μ d mc ms post k n pc lv (.int x :: st) X := by
  intro p l e s m args below meth c D ca A n0 ad0 ad H locs ls C hl
  exact lv_i2c C.1.1 C.1.2.1 hd rfl (kk p l e s m args below meth c D ca A n0 ad0 ad H locs ls C hl)

theorem r_lcmp {x y : Int64}  (hd : decode μ.2.1 pc = .ok (.lcmp, 1)) (kk : RR sc μ d mc ms post k n (pc + 1) lv (.int (lg_cmp x y) :: st) X) : RR sc μ d mc ms post k n pc lv (.long y :: .long x :: st) X := by
  intro p l e s m args below meth c D ca A n0 ad0 ad H locs ls C hl
  exact W.lcmp C.1.1 C.1.2.1 hd (kk p l e s m args below meth c D ca A n0 ad0 ad H locs ls C hl)

theorem r_dup {va : Value} (hc : va.category = 1) (hd : decode μ.2.1 pc = .ok (.dup, 1)) (kk : RR sc μ d mc ms post k n (pc + 1) lv (va :: va :: st) X) : RR sc μ d mc ms post k n pc lv (va :: st) X := by
  intro p l e s m args below meth c D ca A n0 ad0 ad H locs ls C hl
  exact lv_dup C.1.1 C.1.2.1 hd (by rw [vv_cat]; exact hc) (kk p l e s m args below meth c D ca A n0 ad0 ad H locs ls C hl)

theorem r_pop {va : Value} (hc : va.category = 1) (hd : decode μ.2.1 pc = .ok (.pop, 1)) (kk : RR sc μ d mc ms post k n (pc + 1) lv (st) X) : RR sc μ d mc ms post k n pc lv (va :: st) X := by
  intro p l e s m args below meth c D ca A n0 ad0 ad H locs ls C hl
  exact lv_pop C.1.1 C.1.2.1 hd (by rw [vv_cat]; exact hc) (kk p l e s m args below meth c D ca A n0 ad0 ad H locs ls C hl)

theorem r_dup2 {va vb : Value} (hc : va.category = 1) (hc2 : vb.category = 1) (hd : decode μ.2.1 pc = .ok (.dup2, 1)) (kk : RR sc μ d mc ms post k n (pc + 1) lv (va :: vb :: va :: vb :: st) X) : RR sc μ d mc ms post k n pc lv (va :: vb :: st) X := by
  intro p l e s m args below meth c D ca A n0 ad0 ad H locs ls C hl
  exact lv_dup2_11 C.1.1 C.1.2.1 hd (by rw [vv_cat]; exact hc) (by rw [vv_cat]; exact hc2) (kk p l e s m args below meth c D ca A n0 ad0 ad H locs ls C hl)

theorem r_dup_x1 {va vb : Value} (hc : va.category = 1) (hc2 : vb.category = 1) (hd : decode μ.2.1 pc = .ok (.dup_x1, 1)) (kk : RR sc μ d mc ms post k n (pc + 1) lv (va :: vb :: va :: st) X) : RR sc μ d mc ms post k n pc lv (va :: vb :: st) X := by
  intro p l e s m args below meth c D ca A n0 ad0 ad H locs ls C hl
  exact lv_dup_x1 C.1.1 C.1.2.1 hd (by rw [vv_cat]; exact hc) (by rw [vv_cat]; exact hc2) (kk p l e s m args below meth c D ca A n0 ad0 ad H locs ls C hl)

theorem r_iload_n {q : Fin 4} {i j : Nat} {x : Int32} (hi : (q : Nat) = i) (hj : lv[j]? = some (i, .int x)) (hd : decode μ.2.1 pc = .ok (.iload_n q, 1)) (kk : RR sc μ d mc ms post k n (pc + 1) lv (.int x :: st) X) : RR sc μ d mc ms post k n pc lv (st) X := by
  intro p l e s m args below meth c D ca A n0 ad0 ad H locs ls C hl
  exact lv_iload_n C.1.1 C.1.2.1 hd hi (lv_at hl j (lvv_at hj)) (kk p l e s m args below meth c D ca A n0 ad0 ad H locs ls C hl)

theorem r_iload {i j : Nat} {x : Int32} (hj : lv[j]? = some (i, .int x)) (hd : decode μ.2.1 pc = .ok (.iload i, 2)) (kk : RR sc μ d mc ms post k n (pc + 2) lv (.int x :: st) X) : RR sc μ d mc ms post k n pc lv (st) X := by
  intro p l e s m args below meth c D ca A n0 ad0 ad H locs ls C hl
  exact lv_iload C.1.1 C.1.2.1 hd (lv_at hl j (lvv_at hj)) (kk p l e s m args below meth c D ca A n0 ad0 ad H locs ls C hl)

theorem r_lload_n {q : Fin 4} {i j : Nat} {x : Int64} (hi : (q : Nat) = i) (hj : lv[j]? = some (i, .long x)) (hd : decode μ.2.1 pc = .ok (.lload_n q, 1)) (kk : RR sc μ d mc ms post k n (pc + 1) lv (.long x :: st) X) : RR sc μ d mc ms post k n pc lv (st) X := by
  intro p l e s m args below meth c D ca A n0 ad0 ad H locs ls C hl
  exact lv_lload_n C.1.1 C.1.2.1 hd hi (lv_at hl j (lvv_at hj)) (kk p l e s m args below meth c D ca A n0 ad0 ad H locs ls C hl)

theorem r_lload {i j : Nat} {x : Int64} (hj : lv[j]? = some (i, .long x)) (hd : decode μ.2.1 pc = .ok (.lload i, 2)) (kk : RR sc μ d mc ms post k n (pc + 2) lv (.long x :: st) X) : RR sc μ d mc ms post k n pc lv (st) X := by
  intro p l e s m args below meth c D ca A n0 ad0 ad H locs ls C hl
  exact lv_lload C.1.1 C.1.2.1 hd (lv_at hl j (lvv_at hj)) (kk p l e s m args below meth c D ca A n0 ad0 ad H locs ls C hl)

theorem r_aload_n {q : Fin 4} {i j : Nat} {x : Nat} (hi : (q : Nat) = i) (hj : lv[j]? = some (i, .ref x)) (hd : decode μ.2.1 pc = .ok (.aload_n q, 1)) (kk : RR sc μ d mc ms post k n (pc + 1) lv (.ref x :: st) X) : RR sc μ d mc ms post k n pc lv (st) X := by
  intro p l e s m args below meth c D ca A n0 ad0 ad H locs ls C hl
  exact lv_aload_n C.1.1 C.1.2.1 hd hi (lv_at hl j (lvv_at hj)) (kk p l e s m args below meth c D ca A n0 ad0 ad H locs ls C hl)

theorem r_aload {i j : Nat} {x : Nat} (hj : lv[j]? = some (i, .ref x)) (hd : decode μ.2.1 pc = .ok (.aload i, 2)) (kk : RR sc μ d mc ms post k n (pc + 2) lv (.ref x :: st) X) : RR sc μ d mc ms post k n pc lv (st) X := by
  intro p l e s m args below meth c D ca A n0 ad0 ad H locs ls C hl
  exact lv_aload C.1.1 C.1.2.1 hd (lv_at hl j (lvv_at hj)) (kk p l e s m args below meth c D ca A n0 ad0 ad H locs ls C hl)

theorem r_if_eq {x : Int32} {off : Int} {tgt : Nat} (hd : decode μ.2.1 pc = .ok (.ifCond .eq off, 3)) (ht : (pc : Int) + off = (tgt : Int)) (kt : x = 0 → RR sc μ d mc ms post k n tgt lv st X) (kf : ¬ x = 0 → RR sc μ d mc ms post k n (pc + 3) lv st X) : RR sc μ d mc ms post k n pc lv (.int x :: st) X := by
  intro p l e s m args below meth c D ca A n0 ad0 ad H locs ls C hl
  exact lv_if_eq C.1.1 C.1.2.1 hd ht (fun z => kt z p l e s m args below meth c D ca A n0 ad0 ad H locs ls C hl) (fun z => kf z p l e s m args below meth c D ca A n0 ad0 ad H locs ls C hl)

theorem r_icmp_eq {x y : Int32} {off : Int} {tgt : Nat} (hd : decode μ.2.1 pc = .ok (.if_icmp .eq off, 3)) (ht : (pc : Int) + off = (tgt : Int)) (kt : x = y → RR sc μ d mc ms post k n tgt lv st X) (kf : ¬ x = y → RR sc μ d mc ms post k n (pc + 3) lv st X) : RR sc μ d mc ms post k n pc lv (.int y :: .int x :: st) X := by
  intro p l e s m args below meth c D ca A n0 ad0 ad H locs ls C hl
  exact lv_icmp_eq C.1.1 C.1.2.1 hd ht (fun z => kt z p l e s m args below meth c D ca A n0 ad0 ad H locs ls C hl) (fun z => kf z p l e s m args below meth c D ca A n0 ad0 ad H locs ls C hl)

theorem r_if_ne {x : Int32} {off : Int} {tgt : Nat} (hd : decode μ.2.1 pc = .ok (.ifCond .ne off, 3)) (ht : (pc : Int) + off = (tgt : Int)) (kt : ¬ x = 0 → RR sc μ d mc ms post k n tgt lv st X) (kf : x = 0 → RR sc μ d mc ms post k n (pc + 3) lv st X) : RR sc μ d mc ms post k n pc lv (.int x :: st) X := by
  intro p l e s m args below meth c D ca A n0 ad0 ad H locs ls C hl
  exact lv_if_ne C.1.1 C.1.2.1 hd ht (fun z => kt z p l e s m args below meth c D ca A n0 ad0 ad H locs ls C hl) (fun z => kf z p l e s m args below meth c D ca A n0 ad0 ad H locs ls C hl)

theorem r_icmp_ne {x y : Int32} {off : Int} {tgt : Nat} (hd : decode μ.2.1 pc = .ok (.if_icmp .ne off, 3)) (ht : (pc : Int) + off = (tgt : Int)) (kt : ¬ x = y → RR sc μ d mc ms post k n tgt lv st X) (kf : x = y → RR sc μ d mc ms post k n (pc + 3) lv st X) : RR sc μ d mc ms post k n pc lv (.int y :: .int x :: st) X := by
  intro p l e s m args below meth c D ca A n0 ad0 ad H locs ls C hl
  exact lv_icmp_ne C.1.1 C.1.2.1 hd ht (fun z => kt z p l e s m args below meth c D ca A n0 ad0 ad H locs ls C hl) (fun z => kf z p l e s m args below meth c D ca A n0 ad0 ad H locs ls C hl)

theorem r_if_lt {x : Int32} {off : Int} {tgt : Nat} (hd : decode μ.2.1 pc = .ok (.ifCond .lt off, 3)) (ht : (pc : Int) + off = (tgt : Int)) (kt : x < 0 → RR sc μ d mc ms post k n tgt lv st X) (kf : ¬ x < 0 → RR sc μ d mc ms post k n (pc + 3) lv st X) : RR sc μ d mc ms post k n pc lv (.int x :: st) X := by
  intro p l e s m args below meth c D ca A n0 ad0 ad H locs ls C hl
  exact lv_if_lt C.1.1 C.1.2.1 hd ht (fun z => kt z p l e s m args below meth c D ca A n0 ad0 ad H locs ls C hl) (fun z => kf z p l e s m args below meth c D ca A n0 ad0 ad H locs ls C hl)

theorem r_icmp_lt {x y : Int32} {off : Int} {tgt : Nat} (hd : decode μ.2.1 pc = .ok (.if_icmp .lt off, 3)) (ht : (pc : Int) + off = (tgt : Int)) (kt : x < y → RR sc μ d mc ms post k n tgt lv st X) (kf : ¬ x < y → RR sc μ d mc ms post k n (pc + 3) lv st X) : RR sc μ d mc ms post k n pc lv (.int y :: .int x :: st) X := by
  intro p l e s m args below meth c D ca A n0 ad0 ad H locs ls C hl
  exact lv_icmp_lt C.1.1 C.1.2.1 hd ht (fun z => kt z p l e s m args below meth c D ca A n0 ad0 ad H locs ls C hl) (fun z => kf z p l e s m args below meth c D ca A n0 ad0 ad H locs ls C hl)

theorem r_if_ge {x : Int32} {off : Int} {tgt : Nat} (hd : decode μ.2.1 pc = .ok (.ifCond .ge off, 3)) (ht : (pc : Int) + off = (tgt : Int)) (kt : 0 ≤ x → RR sc μ d mc ms post k n tgt lv st X) (kf : ¬ 0 ≤ x → RR sc μ d mc ms post k n (pc + 3) lv st X) : RR sc μ d mc ms post k n pc lv (.int x :: st) X := by
  intro p l e s m args below meth c D ca A n0 ad0 ad H locs ls C hl
  exact lv_if_ge C.1.1 C.1.2.1 hd ht (fun z => kt z p l e s m args below meth c D ca A n0 ad0 ad H locs ls C hl) (fun z => kf z p l e s m args below meth c D ca A n0 ad0 ad H locs ls C hl)

theorem r_icmp_ge {x y : Int32} {off : Int} {tgt : Nat} (hd : decode μ.2.1 pc = .ok (.if_icmp .ge off, 3)) (ht : (pc : Int) + off = (tgt : Int)) (kt : y ≤ x → RR sc μ d mc ms post k n tgt lv st X) (kf : ¬ y ≤ x → RR sc μ d mc ms post k n (pc + 3) lv st X) : RR sc μ d mc ms post k n pc lv (.int y :: .int x :: st) X := by
  intro p l e s m args below meth c D ca A n0 ad0 ad H locs ls C hl
  exact lv_icmp_ge C.1.1 C.1.2.1 hd ht (fun z => kt z p l e s m args below meth c D ca A n0 ad0 ad H locs ls C hl) (fun z => kf z p l e s m args below meth c D ca A n0 ad0 ad H locs ls C hl)

theorem r_if_gt {x : Int32} {off : Int} {tgt : Nat} (hd : decode μ.2.1 pc = .ok (.ifCond .gt off, 3)) (ht : (pc : Int) + off = (tgt : Int)) (kt : 0 < x → RR sc μ d mc ms post k n tgt lv st X) (kf : ¬ 0 < x → RR sc μ d mc ms post k n (pc + 3) lv st X) : RR sc μ d mc ms post k n pc lv (.int x :: st) X := by
  intro p l e s m args below meth c D ca A n0 ad0 ad H locs ls C hl
  exact lv_if_gt C.1.1 C.1.2.1 hd ht (fun z => kt z p l e s m args below meth c D ca A n0 ad0 ad H locs ls C hl) (fun z => kf z p l e s m args below meth c D ca A n0 ad0 ad H locs ls C hl)

theorem r_icmp_gt {x y : Int32} {off : Int} {tgt : Nat} (hd : decode μ.2.1 pc = .ok (.if_icmp .gt off, 3)) (ht : (pc : Int) + off = (tgt : Int)) (kt : y < x → RR sc μ d mc ms post k n tgt lv st X) (kf : ¬ y < x → RR sc μ d mc ms post k n (pc + 3) lv st X) : RR sc μ d mc ms post k n pc lv (.int y :: .int x :: st) X := by
  intro p l e s m args below meth c D ca A n0 ad0 ad H locs ls C hl
  exact lv_icmp_gt C.1.1 C.1.2.1 hd ht (fun z => kt z p l e s m args below meth c D ca A n0 ad0 ad H locs ls C hl) (fun z => kf z p l e s m args below meth c D ca A n0 ad0 ad H locs ls C hl)

theorem r_if_le {x : Int32} {off : Int} {tgt : Nat} (hd : decode μ.2.1 pc = .ok (.ifCond .le off, 3)) (ht : (pc : Int) + off = (tgt : Int)) (kt : x ≤ 0 → RR sc μ d mc ms post k n tgt lv st X) (kf : ¬ x ≤ 0 → RR sc μ d mc ms post k n (pc + 3) lv st X) : RR sc μ d mc ms post k n pc lv (.int x :: st) X := by
  intro p l e s m args below meth c D ca A n0 ad0 ad H locs ls C hl
  exact lv_if_le C.1.1 C.1.2.1 hd ht (fun z => kt z p l e s m args below meth c D ca A n0 ad0 ad H locs ls C hl) (fun z => kf z p l e s m args below meth c D ca A n0 ad0 ad H locs ls C hl)

theorem r_icmp_le {x y : Int32} {off : Int} {tgt : Nat} (hd : decode μ.2.1 pc = .ok (.if_icmp .le off, 3)) (ht : (pc : Int) + off = (tgt : Int)) (kt : x ≤ y → RR sc μ d mc ms post k n tgt lv st X) (kf : ¬ x ≤ y → RR sc μ d mc ms post k n (pc + 3) lv st X) : RR sc μ d mc ms post k n pc lv (.int y :: .int x :: st) X := by
  intro p l e s m args below meth c D ca A n0 ad0 ad H locs ls C hl
  exact lv_icmp_le C.1.1 C.1.2.1 hd ht (fun z => kt z p l e s m args below meth c D ca A n0 ad0 ad H locs ls C hl) (fun z => kf z p l e s m args below meth c D ca A n0 ad0 ad H locs ls C hl)

theorem r_goto {off : Int} {tgt : Nat} (hd : decode μ.2.1 pc = .ok (.goto off, 3)) (ht : (pc : Int) + off = (tgt : Int)) (kk : RR sc μ d mc ms post k n tgt lv st X) : RR sc μ d mc ms post k n pc lv st X := by
  intro p l e s m args below meth c D ca A n0 ad0 ad H locs ls C hl
  exact lv_goto C.1.1 C.1.2.1 hd ht (kk p l e s m args below meth c D ca A n0 ad0 ad H locs ls C hl)

theorem r_tabIn {x : Int32} {dflt lo hi : Int} {offs : Array Int} {len : Nat} {off : Int} {tgt : Nat} (hd : decode μ.2.1 pc = .ok (.tableswitch dflt lo hi offs, len)) (h1 : ¬ x.toInt < lo) (h2 : ¬ hi < x.toInt) (ho : offs[(x.toInt - lo).toNat]? = some off) (ht : (pc : Int) + off = (tgt : Int)) (kk : RR sc μ d mc ms post k n tgt lv st X) : RR sc μ d mc ms post k n pc lv (.int x :: st) X := by
  intro p l e s m args below meth c D ca A n0 ad0 ad H locs ls C hl
  exact lv_tableIn C.1.1 C.1.2.1 hd h1 h2 ho ht (kk p l e s m args below meth c D ca A n0 ad0 ad H locs ls C hl)

theorem r_tabOut {x : Int32} {dflt lo hi : Int} {offs : Array Int} {len tgt : Nat} (hd : decode μ.2.1 pc = .ok (.tableswitch dflt lo hi offs, len)) (h : x.toInt < lo ∨ hi < x.toInt) (ht : (pc : Int) + dflt = (tgt : Int)) (kk : RR sc μ d mc ms post k n tgt lv st X) : RR sc μ d mc ms post k n pc lv (.int x :: st) X := by
  intro p l e s m args below meth c D ca A n0 ad0 ad H locs ls C hl
  exact lv_tableOut C.1.1 C.1.2.1 hd h ht (kk p l e s m args below meth c D ca A n0 ad0 ad H locs ls C hl)

theorem r_lookup {x : Int32} {dflt : Int} {ps : Array (Int × Int)} {len : Nat} {off : Int} {tgt : Nat} (hd : decode μ.2.1 pc = .ok (.lookupswitch dflt ps, len)) (hp : (ps.toList.zip (ps.toList.drop 1)).all (fun (a, next) => a.1 < next.1) = true) (ho : Op.lookupswitch.offset ps.toList dflt x.toInt = off) (ht : (pc : Int) + off = (tgt : Int)) (kk : RR sc μ d mc ms post k n tgt lv st X) : RR sc μ d mc ms post k n pc lv (.int x :: st) X := by
  intro p l e s m args below meth c D ca A n0 ad0 ad H locs ls C hl
  exact lv_lookup C.1.1 C.1.2.1 hd hp ho ht (kk p l e s m args below meth c D ca A n0 ad0 ad H locs ls C hl)

theorem r_istore_n {q : Fin 4} {i : Nat} {x : Int32} {lv' : Int32 → List (Nat × Value)} (hd : decode μ.2.1 pc = .ok (.istore_n q, 1)) (hi : (q : Nat) = i) (hn : i < μ.2.2.1) (hl' : ∀ z, (i, Value.int z) :: lv.filter (fun q => !(q.1 == i) && !(q.1 + 1 == i && q.2.category == 2)) = lv' z) (kk : ∀ z, z = x → RR sc μ d mc ms post k n (pc + 1) (lv' z) st X) : RR sc μ d mc ms post k n pc lv (.int x :: st) X := by
  intro p l e s m args below meth c D ca A n0 ad0 ad H locs ls C hl
  exact lv_istore_n C.1.1 C.1.2.1 hd hi hl hn (lvv_f1 ad lv i (.int x)) (fun ls2 hl2 => kk x rfl p l e s m args below meth c D ca A n0 ad0 ad H locs ls2 C (by rw [← hl' x]; exact hl2))

theorem r_istore {i : Nat} {x : Int32} {lv' : Int32 → List (Nat × Value)} (hd : decode μ.2.1 pc = .ok (.istore i, 2)) (hn : i < μ.2.2.1) (hl' : ∀ z, (i, Value.int z) :: lv.filter (fun q => !(q.1 == i) && !(q.1 + 1 == i && q.2.category == 2)) = lv' z) (kk : ∀ z, z = x → RR sc μ d mc ms post k n (pc + 2) (lv' z) st X) : RR sc μ d mc ms post k n pc lv (.int x :: st) X := by
  intro p l e s m args below meth c D ca A n0 ad0 ad H locs ls C hl
  exact lv_istore C.1.1 C.1.2.1 hd hl hn (lvv_f1 ad lv i (.int x)) (fun ls2 hl2 => kk x rfl p l e s m args below meth c D ca A n0 ad0 ad H locs ls2 C (by rw [← hl' x]; exact hl2))

theorem r_astore_n {q : Fin 4} {i : Nat} {x : Nat} {lv' : Nat → List (Nat × Value)} (hd : decode μ.2.1 pc = .ok (.astore_n q, 1)) (hi : (q : Nat) = i) (hn : i < μ.2.2.1) (hl' : ∀ z, (i, Value.ref z) :: lv.filter (fun q => !(q.1 == i) && !(q.1 + 1 == i && q.2.category == 2)) = lv' z) (kk : ∀ z, z = x → RR sc μ d mc ms post k n (pc + 1) (lv' z) st X) : RR sc μ d mc ms post k n pc lv (.ref x :: st) X := by
  intro p l e s m args below meth c D ca A n0 ad0 ad H locs ls C hl
  exact lv_astore_n C.1.1 C.1.2.1 hd hi hl hn (lvv_f1 ad lv i (.ref x)) (fun ls2 hl2 => kk x rfl p l e s m args below meth c D ca A n0 ad0 ad H locs ls2 C (by rw [← hl' x]; exact hl2))

theorem r_astore {i : Nat} {x : Nat} {lv' : Nat → List (Nat × Value)} (hd : decode μ.2.1 pc = .ok (.astore i, 2)) (hn : i < μ.2.2.1) (hl' : ∀ z, (i, Value.ref z) :: lv.filter (fun q => !(q.1 == i) && !(q.1 + 1 == i && q.2.category == 2)) = lv' z) (kk : ∀ z, z = x → RR sc μ d mc ms post k n (pc + 2) (lv' z) st X) : RR sc μ d mc ms post k n pc lv (.ref x :: st) X := by
  intro p l e s m args below meth c D ca A n0 ad0 ad H locs ls C hl
  exact lv_astore C.1.1 C.1.2.1 hd hl hn (lvv_f1 ad lv i (.ref x)) (fun ls2 hl2 => kk x rfl p l e s m args below meth c D ca A n0 ad0 ad H locs ls2 C (by rw [← hl' x]; exact hl2))

theorem r_lstore_n {q : Fin 4} {i : Nat} {x : Int64} {lv' : Int64 → List (Nat × Value)} (hd : decode μ.2.1 pc = .ok (.lstore_n q, 1)) (hi : (q : Nat) = i) (hn : i + 1 < μ.2.2.1) (hl' : ∀ z, (i, Value.long z) :: lv.filter (fun q => !(q.1 == i) && (!(q.1 == i + 1) && !(q.1 + 1 == i && q.2.category == 2))) = lv' z) (kk : ∀ z, z = x → RR sc μ d mc ms post k n (pc + 1) (lv' z) st X) : RR sc μ d mc ms post k n pc lv (.long x :: st) X := by
  intro p l e s m args below meth c D ca A n0 ad0 ad H locs ls C hl
  exact lv_lstore_n C.1.1 C.1.2.1 hd hi hl hn (lvv_f2 ad lv i (.long x)) (fun ls2 hl2 => kk x rfl p l e s m args below meth c D ca A n0 ad0 ad H locs ls2 C (by rw [← hl' x]; exact hl2))

theorem r_lstore {i : Nat} {x : Int64} {lv' : Int64 → List (Nat × Value)} (hd : decode μ.2.1 pc = .ok (.lstore i, 2)) (hn : i + 1 < μ.2.2.1) (hl' : ∀ z, (i, Value.long z) :: lv.filter (fun q => !(q.1 == i) && (!(q.1 == i + 1) && !(q.1 + 1 == i && q.2.category == 2))) = lv' z) (kk : ∀ z, z = x → RR sc μ d mc ms post k n (pc + 2) (lv' z) st X) : RR sc μ d mc ms post k n pc lv (.long x :: st) X := by
  intro p l e s m args below meth c D ca A n0 ad0 ad H locs ls C hl
  exact lv_lstore C.1.1 C.1.2.1 hd hl hn (lvv_f2 ad lv i (.long x)) (fun ls2 hl2 => kk x rfl p l e s m args below meth c D ca A n0 ad0 ad H locs ls2 C (by rw [← hl' x]; exact hl2))

theorem r_iinc {i j : Nat} {cst : Int} {x : Int32} {lv' : Int32 → List (Nat × Value)} (hd : decode μ.2.1 pc = .ok (.iinc i cst, 3)) (hj : lv[j]? = some (i, .int x)) (hn : i < μ.2.2.1) (hl' : ∀ z, (i, Value.int z) :: lv.filter (fun q => !(q.1 == i) && !(q.1 + 1 == i && q.2.category == 2)) = lv' z) (kk : ∀ z, z = x + Int32.ofInt cst → RR sc μ d mc ms post k n (pc + 3) (lv' z) st X) : RR sc μ d mc ms post k n pc lv st X := by
  intro p l e s m args below meth c D ca A n0 ad0 ad H locs ls C hl
  exact lv_iinc C.1.1 C.1.2.1 hd hl (k := j) (lvv_at hj) rfl hn (lvv_f1 ad lv i (.int (x + Int32.ofInt cst))) (fun ls2 hl2 => kk _ rfl p l e s m args below meth c D ca A n0 ad0 ad H locs ls2 C (by rw [← hl' _]; exact hl2))

theorem r_lvs (lv2 : List (Nat × Value)) (ks : List Nat) (h : lv_pick lv ks = lv2) (kk : RR sc μ d mc ms post k n pc lv2 st X) : RR sc μ d mc ms post k n pc lv st X := by
  intro p l e s m args below meth c D ca A n0 ad0 ad H locs ls C hl
  exact kk p l e s m args below meth c D ca A n0 ad0 ad H locs ls C (lv_sub hl ks (by rw [← h]; exact lvv_pick _ _ _))

end Rows
