/-! THE ABSTRACT WORLD: how many cells; of each its kind (a class' number, or 50 int, 51 byte, 52 boolean, 53 long, 54 rows of Digging) and length; its ints; its longs; its references -/
abbrev Hp : Type := Nat × (Nat → Nat × Nat) × (Nat → Nat → Int32) × (Nat → Nat → Int64) × (Nat → Nat → Option Nat)
/-- the script: its length, its ints -/
abbrev Sc : Type := Nat × (Nat → Int32)
/-- a method: name, bytes, locals, what it returns -/
abbrev Mu : Type := MethodName × ByteArray × Nat × Option FieldType
def vv (ad : Nat → Nat) : Value → Value
  | .ref a => .ref (ad a)
  | v => v
def fkl : List (List Nat) := [[2, 2, 2, 2, 2, 2, 2, 2, 2, 2, 2, 2, 2, 2, 0, 0, 0, 0], [1], [2, 2, 2, 2], [2, 2, 2, 2, 2, 2, 2, 2, 0, 0, 0], [2, 2, 2], [2, 0, 0], [2, 2, 0, 0], [2, 2, 2, 2, 2, 2, 2, 0, 0, 0], [2, 2, 2, 2, 0, 0, 0, 0, 0, 1, 0, 0, 0, 1, 0, 0], [2, 2, 2, 2, 2, 2, 2, 2, 0, 0, 0, 0], [2, 0], [2, 2, 2, 2, 2, 2, 2, 2, 2, 2, 2, 2], [2, 0, 0, 0, 0, 0, 0, 0, 0, 0, 0, 0, 0, 0, 0, 0, 0, 0, 0, 0, 0, 0, 0, 2, 2, 2, 2, 2, 2, 2, 2, 2, 2, 2, 2, 2, 2, 2, 2, 2, 2, 2, 2, 2, 2, 2, 0, 1, 0, 0, 2, 2, 2, 2, 2, 2, 2, 2, 2, 2, 2, 2, 2, 2, 2, 0, 2, 2, 0, 0, 0, 0, 0, 2, 2, 2, 2, 2, 2, 2, 0, 0, 0, 0, 0, 2, 2, 2, 2, 2, 2, 0, 0, 2]]
def fks (ci : Nat) : List Nat := fkl.getD ci []
def fv (ad : Nat → Nat) (X : Hp) (a k kd : Nat) : Value := if kd = 0 then .int (X.2.2.1 a k) else if kd = 1 then .long (X.2.2.2.1 a k) else va_rf ((X.2.2.2.2 a k).map ad)
def en (ca : Nat → ClassId) (ad : Nat → Nat) (X : Hp) (a : Nat) : va_E :=
  if (X.2.1 a).1 < 50 then .inr ((X.2.1 a).1, (fks (X.2.1 a).1).mapIdx (fun k kd => fv ad X a k kd))
  else if (X.2.1 a).1 = 53 then .inl (ca 3, (X.2.1 a).2, .inr (.inl (X.2.2.2.1 a)))
  else if (X.2.1 a).1 = 54 then .inl (ca 4, (X.2.1 a).2, .inr (.inr (.inr (.inr (fun j => (X.2.2.2.2 a j).map ad)))))
  else .inl (ca ((X.2.1 a).1 - 50), (X.2.1 a).2, .inl (X.2.2.1 a))
def wsX (ca : Nat → ClassId) (ad : Nat → Nat) (X : Hp) : va_W := (List.range X.1).map (fun a => (ad a, en ca ad X a))
def tyl (ca : Nat → ClassId) : List (ClassId × FieldType) := [(ca 0, .int), (ca 1, .byte), (ca 2, .boolean), (ca 3, .long), (ca 4, .object RX3)]
/-- a whole row anew; a place of a row anew -/
def upr {α : Type} (I : Nat → Nat → α) (a : Nat) (f : Nat → α) : Nat → Nat → α := fun b => if b = a then f else I b
def up {α : Type} (I : Nat → Nat → α) (a k : Nat) (v : α) : Nat → Nat → α := upr I a (va_up (I a) k v)
theorem upr_s {α : Type} (I : Nat → Nat → α) (a : Nat) (f : Nat → α) : upr I a f a = f := if_pos rfl
theorem upr_n {α : Type} (I : Nat → Nat → α) {a b : Nat} (f : Nat → α) (h : b ≠ a) : upr I a f b = I b := if_neg h
theorem up_s {α : Type} (I : Nat → Nat → α) (a k : Nat) (v : α) : up I a k v a = va_up (I a) k v := if_pos rfl
theorem up_n {α : Type} (I : Nat → Nat → α) {a b : Nat} (k : Nat) (v : α) (h : b ≠ a) : up I a k v b = I b := if_neg h
theorem vu_s {α : Type} (f : Nat → α) (k : Nat) (v : α) : va_up f k v k = v := if_pos rfl
theorem vu_n {α : Type} (f : Nat → α) {k j : Nat} (v : α) (h : j ≠ k) : va_up f k v j = f j := if_neg h
theorem wsX_at (ca : Nat → ClassId) (ad : Nat → Nat) (X : Hp) {a : Nat} (h : a < X.1) : (wsX ca ad X)[a]? = some (ad a, en ca ad X a) := by
  unfold wsX
  rw [List.getElem?_map, List.getElem?_range h]
  rfl
theorem wsX_set {ca : Nat → ClassId} {ad : Nat → Nat} {X Y : Hp} {a : Nat} {e : va_E} (h : a < X.1) (h1 : Y.1 = X.1) (he : en ca ad Y a = e) (ho : ∀ b, b ≠ a → en ca ad Y b = en ca ad X b) : (wsX ca ad X).set a (ad a, e) = wsX ca ad Y := by
  refine List.ext_getElem? fun b => ?_
  by_cases hb : b < X.1
  · by_cases hab : b = a
    · subst hab
      rw [List.getElem?_set_self (by simpa [wsX] using h), wsX_at ca ad Y (by omega), he]
    · rw [List.getElem?_set_ne (Ne.symm hab), wsX_at ca ad X hb, wsX_at ca ad Y (by omega), ho b hab]
  · rw [List.getElem?_eq_none (by simpa [wsX] using hb), List.getElem?_eq_none (by simp [wsX]; omega)]
theorem fks_at {ca : Nat → ClassId} {ad : Nat → Nat} {X : Hp} {a ci N : Nat} (h : X.2.1 a = (ci, N)) (hc : ci < 50) : en ca ad X a = .inr (ci, (fks ci).mapIdx (fun k kd => fv ad X a k kd)) := by
  unfold en
  rw [h, if_pos hc]
theorem fs_at {ad : Nat → Nat} {X : Hp} {a ci k kd : Nat} (h : (fks ci)[k]? = some kd) : ((fks ci).mapIdx (fun k kd => fv ad X a k kd))[k]? = some (fv ad X a k kd) := by
  rw [List.getElem?_mapIdx, h]
  rfl
theorem fs_set {ad : Nat → Nat} {X Y : Hp} {a ci k kd : Nat} (h : (fks ci)[k]? = some kd) (ho : ∀ j jd, j ≠ k → fv ad Y a j jd = fv ad X a j jd) : ((fks ci).mapIdx (fun k kd => fv ad X a k kd)).set k (fv ad Y a k kd) = (fks ci).mapIdx (fun k kd => fv ad Y a k kd) := by
  have hk : k < (fks ci).length := (List.getElem?_eq_some_iff.mp h).1
  refine List.ext_getElem? fun j => ?_
  by_cases hj : j = k
  · subst hj
    rw [List.getElem?_set_self (by simpa using hk), fs_at h]
  · rw [List.getElem?_set_ne (Ne.symm hj), List.getElem?_mapIdx, List.getElem?_mapIdx]
    cases (fks ci)[j]? with
    | none => rfl
    | some jd => exact congrArg some (ho j jd hj).symm

/-! what is there before: tables, texts, links among nest mates -/
def tb0 : List Int32 := [0, 0, 0, 200, 100, 10, 6, 200, 2, 60, 5, 0, 8, 4]
def tb1 : List Int32 := [1, 1, 1, 2, 1, 0, 0, 0, 0, 0, 0, 0, 0, 0, 0]
def tb2 : List Int32 := [3, 3, 1, 1, 1, 2, 1, 1, 1, 1, 1, 1, 1, 1, 1]
def tb3 : List Int32 := [0, 1, 1, 0, 0, 0, 0, 0, 0, 0, 0, 10, 0, 1, 1, 0, 0, 10, 1, 0]
def tb4 : List Int32 := [400, 300, 40, 400, 999, 9999, 99, 60, 99, 20, 20, 400, 300, 99, 40, 700, 9, 200, 50, 50]
def tb5 : List Int32 := [10, 7, 0, -7, -10, -7, 0, 7]
def tb6 : List Int32 := [0, 7, 10, 7, 0, -7, -10, -7]
def tb7 : List Int32 := [0, 3, 6, 7, 8, 9, 11, 12, 13, 14, 15, 16, 17, 18, 19]
def oT : List (Nat × List Int32) := [(1000, tb0), (1001, tb1), (1002, tb2), (1003, tb3), (1004, tb4), (1005, tb5), (1006, tb6), (1007, tb7)]
def oS : List (String × String × String × Value) := [(RX0, "UNTOLD", "[I", .ref 1000), (RX8, "WORDS", "[I", .ref 1001), (RX8, "NUMBERS", "[I", .ref 1002), (RX8, "LEAST", "[I", .ref 1003), (RX8, "GREATEST", "[I", .ref 1004), (RX9, "ALONG", "[I", .ref 1005), (RX9, "TOWARD", "[I", .ref 1006), (RX8, "BOUNDS_FROM", "[I", .ref 1007), (RJ0, "COMPACT_STRINGS", "Z", .int 1)]
def sx0 : List Int32 := [104, 117, 116, 32, 32, 32, 32, 32, 103, 97, 114, 100, 101, 110, 32, 32, 99, 111, 117, 110, 116, 32, 32, 32, 114, 117, 110, 32, 32, 32, 32, 32, 108, 111, 111, 107, 32, 32, 32, 32, 98, 101, 100, 32, 32, 32, 32, 32, 119, 105, 100, 101, 32, 32, 32, 32, 119, 111, 111, 100, 32, 32, 32, 32, 115, 97, 110, 100, 32, 32, 32, 32, 119, 97, 108, 107, 32, 32, 32, 32, 114, 101, 97, 99, 104, 32, 32, 32, 98, 111, 97, 114, 100, 32, 32, 32, 97, 105, 114, 32, 32, 32, 32, 32, 112, 97, 99, 101, 32, 32, 32, 32, 102, 97, 108, 108, 32, 32, 32, 32]
def sx1 : List Int32 := [119, 105, 100, 101]
def sx2 : List Int32 := [119, 111, 111, 100]
def sx3 : List Int32 := [115, 97, 110, 100]
def sx4 : List Int32 := [119, 97, 108, 107]
def sx5 : List Int32 := [114, 101, 97, 99, 104]
def sx6 : List Int32 := [98, 111, 97, 114, 100]
def sx7 : List Int32 := [97, 105, 114]
def sx8 : List Int32 := [112, 97, 99, 101]
def sx9 : List Int32 := [102, 97, 108, 108]
def sx10 : List Int32 := [98, 101, 100]
def sx11 : List Int32 := [104, 117, 116]
def sx12 : List Int32 := [103, 97, 114, 100, 101, 110]
def sx13 : List Int32 := [99, 111, 117, 110, 116]
def sx14 : List Int32 := [114, 117, 110]
def sx15 : List Int32 := [108, 111, 111, 107]
def oR : List (String × Nat × String × Nat) := [(RX8, 38, "hut     garden  count   run     look    bed     wide    wood    sand    walk    reach   board   air     pace    fall    ", 1100), (RX12, 71, "wide", 1101), (RX12, 77, "wood", 1102), (RX12, 79, "sand", 1103), (RX12, 81, "walk", 1104), (RX12, 83, "reach", 1105), (RX12, 85, "board", 1106), (RX12, 87, "air", 1107), (RX12, 89, "pace", 1108), (RX12, 91, "fall", 1109), (RX12, 93, "bed", 1110), (RX12, 180, "hut", 1111), (RX12, 186, "garden", 1112), (RX12, 191, "count", 1113), (RX12, 196, "run", 1114), (RX12, 200, "look", 1115)]
def oL : List Nat := [120, 4, 4, 4, 4, 5, 5, 3, 4, 4, 3, 3, 6, 5, 3, 4]
def oB : List (List Int32) := [sx0, sx1, sx2, sx3, sx4, sx5, sx6, sx7, sx8, sx9, sx10, sx11, sx12, sx13, sx14, sx15]
def nF : List (String × Nat × String × String × String × String) := [(RX11, 88, RX10, "length", "I", RX11), (RX8, 106, RX10, "length", "I", RX11), (RX7, 47, RX10, "length", "I", RX11), (RX8, 153, RX0, "hutNames", "[J", RX11), (RX9, 71, RX0, "hutBack", "[I", RX11), (RX2, 68, RX0, "hutMen", "[I", RX11), (RX3, 114, RX0, "hutMen", "[I", RX11), (RX11, 210, RX0, "hutMen", "[I", RX11), (RX2, 36, RX0, "hutMinute", "[I", RX11), (RX8, 175, RX0, "hutMinute", "[I", RX11), (RX8, 160, RX0, "gardenNames", "[J", RX11), (RX3, 129, RX0, "gardenDay", "[I", RX11), (RX3, 103, RX0, "gardenAll", "[I", RX11), (RX8, 163, RX0, "lookNames", "[J", RX11), (RX5, 22, RX0, "lookNumber", "[I", RX11), (RX11, 136, RX0, "lookNumber", "[I", RX11), (RX2, 30, RX0, "huts", "I", RX11), (RX3, 111, RX0, "huts", "I", RX11), (RX8, 144, RX0, "huts", "I", RX11), (RX11, 340, RX0, "huts", "I", RX11), (RX3, 120, RX0, "gardens", "I", RX11), (RX8, 147, RX0, "gardens", "I", RX11), (RX11, 343, RX0, "gardens", "I", RX11), (RX5, 16, RX0, "looks", "I", RX11), (RX11, 133, RX0, "looks", "I", RX11), (RX8, 150, RX0, "looks", "I", RX11), (RX11, 113, RX0, "clauses", "I", RX11), (RX8, 194, RX0, "clauses", "I", RX11), (RX11, 116, RX8, "faultKind", "I", RX11), (RX11, 119, RX8, "faultPlace", "I", RX11), (RX6, 24, RX1, "seed", "J", RX11), (RX3, 59, RX1, "seed", "J", RX11), (RX11, 151, RX1, "seed", "J", RX11), (RX11, 181, RX3, "sand", "[I", RX11), (RX11, 191, RX3, "brought", "[I", RX11), (RX11, 147, RX3, "luck", "LTrouserSand$Chance;", RX11), (RX11, 157, RX3, "tunnels", "I", RX11), (RX11, 103, RX3, "inUse", "Z", RX11), (RX2, 53, RX4, "from", "[I", RX11), (RX3, 117, RX4, "from", "[I", RX11), (RX2, 58, RX4, "to", "[I", RX11), (RX3, 126, RX4, "to", "[I", RX11), (RX2, 71, RX4, "ways", "[I", RX11), (RX3, 123, RX4, "ways", "[I", RX11), (RX11, 213, RX2, "missing", "[I", RX11), (RX11, 229, RX5, "afterDays", "[I", RX11), (RX11, 239, RX5, "bestPart", "I", RX11), (RX11, 242, RX5, "bestKept", "I", RX11), (RX11, 255, RX9, "number", "I", RX11), (RX11, 334, RX9, "corrections", "I", RX11), (RX11, 245, RX9, "driftTenths", "I", RX11), (RX11, 304, RX7, "row", "[I", RX11), (RX11, 307, RX7, "rowOut", "[I", RX11), (RX11, 288, RX7, "people", "I", RX11), (RX11, 291, RX7, "rounds", "I", RX11), (RX11, 301, RX7, "rowLength", "I", RX11), (RX11, 322, RX6, "drawn", "[I", RX11), (RX11, 321, RX6, "length", "I", RX11)]
def nM : List (String × Nat × MethodName × String) := [(RX11, 9, ⟨RX10, "<init>", "()V"⟩, RX11), (RX11, 37, ⟨RX3, "<init>", "()V"⟩, RX11), (RX3, 35, ⟨RX1, "<init>", "()V"⟩, RX11), (RX11, 48, ⟨RX4, "<init>", "()V"⟩, RX11), (RX11, 55, ⟨RX2, "<init>", "()V"⟩, RX11), (RX11, 62, ⟨RX5, "<init>", "()V"⟩, RX11), (RX11, 69, ⟨RX9, "<init>", "()V"⟩, RX11), (RX11, 76, ⟨RX7, "<init>", "()V"⟩, RX11), (RX11, 83, ⟨RX6, "<init>", "()V"⟩, RX11), (RX6, 15, ⟨RX1, "<init>", "()V"⟩, RX11), (RX9, 49, ⟨RX11, "isStep", "(I)Z"⟩, RX11)]
def gtb : List Cond := lw_tbl.filter goodWord
theorem gt_in {c : Cond} (h : c ∈ lw_tbl) (g : goodWord c = true) : c ∈ gtb := List.mem_filter.mpr ⟨h, g⟩
/-- what is there before, from a state on: nothing in A -/
def ST (sc : Sc) (ad : Nat → Nat) (A : Nat → Prop) (U : State) (H : Heap) : Prop :=
  ((∀ q ∈ oT, va_T .int (ad q.1) q.2.length (fun k => .int (q.2.getD k 0)) A U H) ∧ va_T .int (ad 1300) sc.1 (fun k => .int (sc.2 k)) A U H ∧ (∀ q ∈ oS, va_Z q.1 q.2.1 q.2.2.1 (vv ad q.2.2.2) A U H) ∧ vk_S 16 oL oB (fun i => ad (1100 + i)) (fun i => ad (1200 + i)) A U H ∧ (va_Z RJ3 "SIOOBE_FORMATTER" "Ljava/util/function/BiFunction;" .null A U H ∨ va_Z RJ3 "SIOOBE_FORMATTER" "Ljava/util/function/BiFunction;" (.ref (ad 1400)) A U H)) ∧
  ((∀ q ∈ oR, vk_R q.1 q.2.1 q.2.2.1 (ad q.2.2.2) U) ∧ (∀ q ∈ nF, va_Nw (.fieldLinkNest q.1 q.2.1 q.2.2.1 q.2.2.2.1 q.2.2.2.2.1 q.2.2.2.2.2) U) ∧ (∀ q ∈ nM, va_Nw (.methodLinkNest q.1 q.2.1 q.2.2.1 q.2.2.2) U) ∧ va_AO RX3 U)
theorem ST.go {sc : Sc} {ad : Nat → Nat} {A B : Nat → Prop} {s U : State} {H0 H : Heap} (h : ST sc ad A s H0) (hW : s.WarmedH U.vm) (hq : ∀ a : Nat, a < H0.size → ¬ A a → H[a]? = H0[a]?) (hAB : ∀ q, B q → A q) : ST sc ad B U H := by
  obtain ⟨⟨h1, h2, h3, h4, h5⟩, h6, h7, h8, h9⟩ := h
  refine ⟨⟨fun q m => (((h1 q m).kept hq).narrow hAB).moved hW.alike, ((h2.kept hq).narrow hAB).moved hW.alike, fun q m => (((h3 q m).kept hq).narrow hAB).moved hW.alike, ((h4.kept hq).narrow hAB).moved hW.alike, ?_⟩, fun q m => (h6 q m).warm hW, fun q m => (h7 q m).warmF hW, fun q m => (h8 q m).warmM hW, h9.moved hW.alike⟩
  exact h5.elim (fun z => Or.inl (((z.kept hq).narrow hAB).moved hW.alike)) (fun z => Or.inr (((z.kept hq).narrow hAB).moved hW.alike))
theorem ST.same {sc : Sc} {ad : Nat → Nat} {A : Nat → Prop} {s U : State} {H : Heap} (h : ST sc ad A s H) (hv : U.vm = s.vm) : ST sc ad A U H := by
  obtain ⟨⟨h1, h2, h3, h4, h5⟩, h6, h7, h8, h9⟩ := h
  have ha : s.vm.Alike U.vm := by rw [hv]; exact Vm.Alike.refl s.vm
  refine ⟨⟨fun q m => (h1 q m).moved ha, h2.moved ha, fun q m => (h3 q m).moved ha, h4.moved ha, ?_⟩, fun q m => (h6 q m).same hv, fun q m => (h7 q m).same rfl hv.symm, fun q m => (h8 q m).same rfl hv.symm, h9.moved ha⟩
  exact h5.elim (fun z => Or.inl (z.moved ha)) (fun z => Or.inr (z.moved ha))
theorem vv_ad {ad ad' : Nat → Nat} {v : Value} (h : ∀ a, v = .ref a → ad' a = ad a) : vv ad' v = vv ad v := by
  cases v <;> first | rfl | exact congrArg Value.ref (h _ rfl)
theorem ST.ad {sc : Sc} {ad ad' : Nat → Nat} {A : Nat → Prop} {s : State} {H : Heap} (h : ST sc ad A s H) (ha : ∀ a, 1000 ≤ a → ad' a = ad a) : ST sc ad' A s H := by
  obtain ⟨⟨h1, h2, h3, h4, h5⟩, h6, h7, h8, h9⟩ := h
  have b1 : ∀ q ∈ oT, 1000 ≤ q.1 := by decide +kernel
  have b3 : ∀ q ∈ oS, ∀ a, q.2.2.2 = Value.ref a → 1000 ≤ a := by
    intro q hq a
    simp only [oS, List.mem_cons, List.not_mem_nil, or_false] at hq
    rcases hq with rfl | rfl | rfl | rfl | rfl | rfl | rfl | rfl | rfl <;> (intro z; cases z; try exact Nat.le_of_ble_eq_true rfl)
  have b6 : ∀ q ∈ oR, 1000 ≤ q.2.2.2 := by decide +kernel
  refine ⟨⟨fun q m => by rw [ha q.1 (b1 q m)]; exact h1 q m, by rw [ha 1300 (by omega)]; exact h2, fun q m => by rw [vv_ad (fun a z => ha a (b3 q m a z))]; exact h3 q m, ?_, by rw [ha 1400 (by omega)]; exact h5⟩, fun q m => by rw [ha _ (b6 q m)]; exact h6 q m, h7, h8, h9⟩
  have e1 : (fun i => ad' (1100 + i)) = (fun i => ad (1100 + i)) := funext fun i => ha _ (by omega)
  have e2 : (fun i => ad' (1200 + i)) = (fun i => ad (1200 + i)) := funext fun i => ha _ (by omega)
  rw [e1, e2]
  exact h4
/-- what a method's end says; false: the two camps' cells may have changed their names -/
abbrev Po : Type := Bool × (Option Value → Hp → Prop)
def ag (fl : Bool) (a : Nat) : Prop := fl = true ∨ a < 3 ∨ 33 ≤ a
/-- a world whose references lie in it -/
def PV (X : Hp) : Prop := X.1 ≤ 1000 ∧ ∀ a f b, X.2.2.2.2 a f = some b → b < X.1
/-- THE JUDGEMENT: the method μ, at pc, with these locals, stack and world, comes to its end with 'post', from every state of the machine that holds them -/
def QC (D : va_G) (ca : Nat → ClassId) (n0 : Nat) (ad0 : Nat → Nat) (A : Nat → Prop) (post : Po) : Array Value → State → Outcome → State → Prop := fun _ st oc t =>
  (∃ (r : Option Value) (X : Hp) (ad : Nat → Nat), oc = .returned (r.map (vv ad)) ∧ post.2 r X ∧ (n0 ≤ X.1 ∧ (∀ a, ag post.1 a → a < n0 ∨ X.1 ≤ a → ad a = ad0 a) ∧ PV X) ∧ va_P D vwCl (wsX ca ad X) t.heap ∧ va_K D vwCl (tyl ca) t ∧ va_D A (wsX ca ad X)) ∧ va_F A st t
def rr (d mc ms : Nat) : Room := { frames := d, cells := mc, slots := ms, locals := 64 * d }
def Cx (sc : Sc) (μ : Mu) (fl : Bool) (p : Program) (s : State) (m : MethodId) (args : Array Value) (meth : Method) (c : Code) (D : va_G) (ca : Nat → ClassId) (A : Nat → Prop) (n0 : Nat) (ad0 ad : Nat → Nat) (X : Hp) (H : Heap) (locs : List Loc) : Prop :=
  (p.tables.exec = Jvm.exec ∧ c.code = μ.2.1 ∧ meth.sig.returnType = μ.2.2.2 ∧ c.maxLocals = μ.2.2.1 ∧ s.vm.findClass μ.1.cls = some m.cls ∧ (∀ w ∈ gtb, w.before args s = true) ∧ meth.locks = false ∧ meth.name = μ.1.name ∧ (∀ q, s.heap.size ≤ q → A q) ∧ va_K D vwCl (tyl ca) s ∧ ST sc ad A s s.heap) ∧
  (n0 ≤ X.1 ∧ (∀ a, ag fl a → a < n0 ∨ X.1 ≤ a → ad a = ad0 a) ∧ PV X) ∧ va_P D vwCl (wsX ca ad X) H ∧ va_D A (wsX ca ad X) ∧ va_S A s.heap H locs
def lvv (ad : Nat → Nat) (lv : List (Nat × Value)) : List (Nat × Value) := lv.map (fun q => (q.1, vv ad q.2))
def RR (sc : Sc) (μ : Mu) (d mc ms : Nat) (post : Po) (k n pc : Nat) (lv : List (Nat × Value)) (st : List Value) (X : Hp) : Prop :=
  ∀ (p : Program) (l : Launch) (e : Env) (s : State) (m : MethodId) (args : Array Value) (below : List Frame) (meth : Method) (c : Code) (D : va_G) (ca : Nat → ClassId) (A : Nat → Prop) (n0 : Nat) (ad0 ad : Nat → Nat) (H : Heap) (locs : List Loc) (ls : Array Slot),
    Cx sc μ post.1 p s m args meth c D ca A n0 ad0 ad X H locs → lv_has ls μ.2.2.1 (lvv ad lv) → W p l e (rr d mc ms) s m args below meth c H locs k n (MQ below (QC D ca n0 ad0 A post) args s mc ms A) (F0 m pc ls (st.map (vv ad)))
def wm (μ : Mu) : List Cond := Cond.code μ.1 μ.2.1 μ.2.2.1 μ.2.2.2 :: gtb
/-- A CONTRACT: called with these arguments in this world, μ returns with 'post' -/
def Con (sc : Sc) (μ : Mu) (d mc ms : Nat) (av : List Value) (X : Hp) (post : Po) : Prop :=
  ∀ (l : Launch) (D : va_G) (ca : Nat → ClassId) (ad : Nat → Nat) (sz : Nat), Met l μ.1 (wm μ) (rr d mc ms) (va_Pc (av.map (vv ad)) (fun U => U.heap.size = sz ∧ va_P D vwCl (wsX ca ad X) U.heap ∧ va_K D vwCl (tyl ca) U ∧ va_D (fun _ => True) (wsX ca ad X) ∧ PV X ∧ ST sc ad (va_A (wsX ca ad X) sz) U U.heap)) (QC D ca X.1 ad (va_A (wsX ca ad X) sz) post) mc ms (va_A (wsX ca ad X) sz)

