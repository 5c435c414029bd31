/-! both sides coupled -/
section
variable {sc : Sc} {I J : Is} {L K : Ls} {tg : Nat}
/-- a contract, weakened -/
def Run (sc : Sc) (μ : Mu) (d : Nat) (av : List Value) (X : Hp) (Φ : Int32 → Is → Ls → Nat → Prop) : Prop := ∃ post : Po, Con sc μ d 0 0 av X post ∧ ∀ r Y, post.2 r Y → ∃ v J K tq, r = some (.int v) ∧ Y = XW J K tq ∧ Φ v J K tq
theorem Run_r {μ : Mu} {d : Nat} {av : List Value} {X : Hp} {v : Int32} {tq : Nat} {Φ : Int32 → Is → Ls → Nat → Prop} (h : Con sc μ d 0 0 av X (rI v (XW J K tq))) (g : Φ v J K tq) : Run sc μ d av X Φ := ⟨_, h, fun r Y z => ⟨v, J, K, tq, z.1, z.2, g⟩⟩
theorem Run_s {μ : Mu} {d : Nat} {av : List Value} {X : Hp} {v : Int32} {tq : Nat} {Φ : Int32 → Is → Ls → Nat → Prop} (h : Con sc μ d 0 0 av X (sI v (XW J K tq))) (g : Φ v J K tq) : Run sc μ d av X Φ := ⟨_, h, fun r Y z => ⟨v, J, K, tq, z.1, z.2, g⟩⟩
theorem Run_g {μ : Mu} {d : Nat} {av : List Value} {X : Hp} {Φ Ψ : Int32 → Is → Ls → Nat → Prop} (h : Con sc μ d 0 0 av X (gI Ψ)) (g : ∀ v J K tq, Ψ v J K tq → Φ v J K tq) : Run sc μ d av X Φ := ⟨_, h, fun r Y z => by
  obtain ⟨v, J, K, tq, z1, z2, z3⟩ := z
  exact ⟨v, J, K, tq, z1, z2, g _ _ _ _ z3⟩⟩
/-- the TAPE -/
def iT (I : Is) : Prop := (∃ N, N ≤ 900 ∧ I 1 1 = nI N ∧ I 95 1 = nI N) ∧ I 2 = mtp I ∧ ∀ j, -128 ≤ (I 96 j).toInt ∧ (I 96 j).toInt ≤ 127
def iF (I : Is) : Prop := I 33 4 = I 95 8 ∧ I 33 5 = I 95 9
def iC (I : Is) : Prop := cmR (fun k => I (3 + k)) I
/-- a digging's bounds; b: its place -/
def dgB (n : Nat) (I : Is) (b : Nat) : Prop := (∃ T, T ≤ 3 ∧ I b 8 = nI T ∧ ∀ t, t < T → 0 ≤ (I (b + 1) t).toInt ∧ (I (b + 1) t).toInt < (I 3 14).toInt ∧ 0 ≤ (I (b + 2) t).toInt ∧ (I (b + 2) t).toInt ≤ 2000 * n ∧ 0 ≤ (I (b + 3) t).toInt ∧ (I (b + 3) t).toInt ≤ 9) ∧ (0 ≤ (I b 9).toInt ∧ (I b 9).toInt ≤ (bAll I).toInt) ∧ (∀ h, h < 5 → 0 ≤ (I (b + 6) h).toInt ∧ (I (b + 6) h).toInt ≤ 200000 * n) ∧ (∀ g, g < 4 → 0 ≤ (I (b + 7) g).toInt ∧ (g < nN (I 3 15) → (I (b + 7) g).toInt ≤ (I 15 g).toInt))
/-- the digging of both -/
def dgE (I : Is) (L : Ls) : Prop := I 36 8 = I 95 48 ∧ I 36 9 = I 95 49 ∧ (∀ t, t < 3 → I 37 t = I 120 t ∧ I 38 t = I 121 t ∧ I 39 t = I 122 t ∧ I 40 t = I 123 t ∧ I 41 t = I 124 t) ∧ (∀ h, h < 5 → I 42 h = I 125 h) ∧ (∀ g, g < 4 → I 43 g = I 126 g) ∧ L 44 0 = L 95 47
/-- a slot of both -/
def slE (n : Nat) (I : Is) (L : Ls) (b s : Nat) : Prop := (I b 10 = 0 ↔ I 129 s = 0) ∧ (¬ I b 10 = 0 → dgB n I b ∧ I b 8 = I 127 (26 * s + 25) ∧ I b 9 = I 127 (26 * s + 24) ∧ (∀ t, t < 3 → I (b + 1) t = I 127 (26 * s + (5 * t + 0)) ∧ I (b + 2) t = I 127 (26 * s + (5 * t + 1)) ∧ I (b + 3) t = I 127 (26 * s + (5 * t + 2)) ∧ I (b + 4) t = I 127 (26 * s + (5 * t + 3)) ∧ I (b + 5) t = I 127 (26 * s + (5 * t + 4))) ∧ (∀ h, h < 5 → I (b + 6) h = I 127 (26 * s + (15 + h))) ∧ (∀ g, g < 4 → I (b + 7) g = I 127 (26 * s + (20 + g))) ∧ L (b + 8) 0 = L 128 s)
def iD (n : Nat) (I : Is) (L : Ls) : Prop := dgB n I 36 ∧ dgE I L ∧ slE n I L 46 0 ∧ slE n I L 55 1
/-- those who are gone -/
def iG (I : Is) : Prop := (∀ h, h < nN (I 3 14) → I 69 h = I 130 h ∧ 0 ≤ (I 69 h).toInt ∧ (I 69 h).toInt ≤ (I 9 h).toInt) ∧ ∀ h, nN (I 3 14) ≤ h → h < 5 → I 69 h = 0
/-- STRINGS -/
def iR (I : Is) : Prop := ∃ n c, n ≤ 16 ∧ c ≤ 20 ∧ I 75 8 = nI n ∧ I 95 69 = nI n ∧ I 75 9 = nI c ∧ I 95 70 = nI c ∧ I 75 10 = I 95 71 ∧ 0 ≤ (I 75 10).toInt ∧ I 75 11 = I 95 72 ∧ (∀ k, k < n → I 76 k = I 140 k ∧ I 77 k = I 137 k ∧ I 78 k = I 138 k ∧ I 79 k = I 139 k ∧ 0 ≤ (I 78 k).toInt ∧ (I 78 k).toInt ≤ 7 ∧ I 80 k = ctR (I 141) (nI k) c ∧ (I 76 k).toInt ≤ (I 75 10).toInt ∧ ∀ j, j < k → (I 76 j).toInt ≤ (I 76 k).toInt) ∧ (∀ i, i < c → I 81 i = I 143 i ∧ I 82 i = I 141 i ∧ I 83 i = I 142 i ∧ ∃ k, k < n ∧ I 141 i = nI k)
/-- the NIGHT -/
def iN (I : Is) : Prop := ∃ P R q, P ≤ 8 ∧ R ≤ 5 ∧ q ≤ 8 ∧ I 84 7 = nI P ∧ I 95 83 = nI P ∧ I 84 8 = nI R ∧ I 95 84 = nI R ∧ I 84 9 = nI q ∧ I 95 91 = nI q ∧ (∀ p, p < P → I 85 p = I 144 p) ∧ (∀ r, r < R → I 86 r = I 145 r ∧ I 87 r = I 146 r) ∧ ntOk I P ∧ ∀ i, i < q → I 88 i = I 148 i ∧ I 89 i = I 149 i
/-- a LIST -/
def iL (I : Is) : Prop := ∃ m, m ≤ 30 ∧ I 92 3 = nI m ∧ I 95 92 = nI m ∧ ∀ i, i < m → I 93 i = I 150 i
def Inv (n : Nat) (I : Is) (L : Ls) : Prop := iT I ∧ iF I ∧ iC I ∧ iD n I L ∧ iG I ∧ iR I ∧ iN I ∧ iL I ∧ kwT L
/-- one call on both sides -/
def Bth (sc : Sc) (μ μ' : Mu) (d d' : Nat) (as : List Value) (n : Nat) (I : Is) (L : Ls) (tg : Nat) : Prop := Run sc μ d (.ref 0 :: as) (XW I L tg) (fun v J K tq => Run sc μ' d' (.ref 95 :: as) (XW J K tq) (fun v' J' K' _ => v' = v ∧ Inv (n + 1) J' K'))
/-- rows that a piece looks at -/
theorem iT_c (h : iT I) (e : J 1 1 = I 1 1) (e95 : J 95 1 = I 95 1) (e2 : J 2 = I 2) (e96 : J 96 = I 96) : iT J := by
  unfold iT mtp at *
  rw [e, e95, e2, e96]
  exact h
theorem iF_c (h : iF I) (e : ∀ k, k = 4 ∨ k = 5 → J 33 k = I 33 k) (e95 : ∀ k, k = 8 ∨ k = 9 → J 95 k = I 95 k) : iF J := by
  unfold iF at *
  rw [e 4 (by omega), e 5 (by omega), e95 8 (by omega), e95 9 (by omega)]
  exact h
theorem cmR_c {R R' : Nat → Nat → Int32} (h : cmR R I) (r : ∀ k, k < 15 → R' k = R k) (e95 : ∀ k, 10 ≤ k ∧ k ≤ 15 → J 95 k = I 95 k) (e97 : J 97 = I 97) (e : ∀ a, 102 ≤ a ∧ a ≤ 110 → J a = I a) : cmR R' J := by
  unfold cmR at *
  rw [r 0 (by omega), r 1 (by omega), r 4 (by omega), r 5 (by omega), r 6 (by omega), r 7 (by omega), r 8 (by omega), r 10 (by omega), r 11 (by omega), r 12 (by omega), r 14 (by omega), e95 10 (by omega), e95 11 (by omega), e95 12 (by omega), e95 13 (by omega), e95 14 (by omega), e95 15 (by omega), e97, e 102 (by omega), e 103 (by omega), e 104 (by omega), e 105 (by omega), e 106 (by omega), e 107 (by omega), e 108 (by omega), e 109 (by omega), e 110 (by omega)]
  exact h
theorem iC_c (h : iC I) (r : ∀ a, 3 ≤ a ∧ a ≤ 17 → J a = I a) (e95 : ∀ k, 10 ≤ k ∧ k ≤ 15 → J 95 k = I 95 k) (e97 : J 97 = I 97) (e : ∀ a, 102 ≤ a ∧ a ≤ 110 → J a = I a) : iC J := cmR_c h (fun k hk => r (3 + k) (by omega)) e95 e97 e
theorem bAll_c (r : ∀ a, 3 ≤ a ∧ a ≤ 17 → J a = I a) : bAll J = bAll I := by
  unfold bAll
  rw [r 9 (by omega), r 3 (by omega), r 4 (by omega)]
theorem dgB_c {n m b : Nat} (hnm : n ≤ m) (h : dgB n I b) (r : ∀ a, 3 ≤ a ∧ a ≤ 17 → J a = I a) (e : ∀ k, k = 8 ∨ k = 9 → J b k = I b k) (e1 : J (b + 1) = I (b + 1)) (e2 : J (b + 2) = I (b + 2)) (e3 : J (b + 3) = I (b + 3)) (e6 : J (b + 6) = I (b + 6)) (e7 : J (b + 7) = I (b + 7)) : dgB m J b := by
  obtain ⟨⟨T, h1, h2, h3⟩, h4, h5, h6⟩ := h
  refine ⟨⟨T, h1, by rw [e 8 (by omega)]; exact h2, fun t ht => ?_⟩, ?_, fun h hh => ?_, fun g hg => ?_⟩
  · rw [e1, e2, e3, r 3 (by omega)]; have := h3 t ht; omega
  · rw [e 9 (by omega), bAll_c r]; exact h4
  · rw [e6]; have := h5 h hh; omega
  · rw [e7, r 3 (by omega), r 15 (by omega)]; exact h6 g hg
theorem dgE_c (h : dgE I L) (r : ∀ a, 37 ≤ a ∧ a ≤ 43 → J a = I a) (e : ∀ k, k = 8 ∨ k = 9 → J 36 k = I 36 k) (e95 : ∀ k, k = 48 ∨ k = 49 → J 95 k = I 95 k) (q : ∀ a, 120 ≤ a ∧ a ≤ 126 → J a = I a) (l : K 44 0 = L 44 0) (l9 : K 95 47 = L 95 47) : dgE J K := by
  unfold dgE at *
  rw [e 8 (by omega), e 9 (by omega), e95 48 (by omega), e95 49 (by omega), r 37 (by omega), r 38 (by omega), r 39 (by omega), r 40 (by omega), r 41 (by omega), r 42 (by omega), r 43 (by omega), q 120 (by omega), q 121 (by omega), q 122 (by omega), q 123 (by omega), q 124 (by omega), q 125 (by omega), q 126 (by omega), l, l9]
  exact h
theorem slE_c {n m b s : Nat} (hnm : n ≤ m) (h : slE n I L b s) (r : ∀ a, 3 ≤ a ∧ a ≤ 17 → J a = I a) (e : ∀ k, J b k = I b k) (q : ∀ a, b + 1 ≤ a ∧ a ≤ b + 7 → J a = I a) (e7 : J 127 = I 127) (e9 : J 129 = I 129) (l : K (b + 8) 0 = L (b + 8) 0) (l9 : K 128 = L 128) : slE m J K b s := by
  obtain ⟨h1, h2⟩ := h
  unfold slE
  rw [e 8, e 9, e 10, e7, e9, q (b + 1) (by omega), q (b + 2) (by omega), q (b + 3) (by omega), q (b + 4) (by omega), q (b + 5) (by omega), q (b + 6) (by omega), q (b + 7) (by omega), l, l9]
  refine ⟨h1, fun z => ?_⟩
  obtain ⟨g1, g2⟩ := h2 z
  exact ⟨dgB_c hnm g1 r (fun k _ => e k) (q _ (by omega)) (q _ (by omega)) (q _ (by omega)) (q _ (by omega)) (q _ (by omega)), g2⟩
theorem iG_c (h : iG I) (r : ∀ a, 3 ≤ a ∧ a ≤ 17 → J a = I a) (e : J 69 = I 69) (e1 : J 130 = I 130) : iG J := by
  unfold iG at *
  rw [r 3 (by omega), r 9 (by omega), e, e1]
  exact h
theorem iR_c (h : iR I) (r : ∀ a, 75 ≤ a ∧ a ≤ 83 → J a = I a) (e95 : ∀ k, 69 ≤ k ∧ k ≤ 72 → J 95 k = I 95 k) (q : ∀ a, 137 ≤ a ∧ a ≤ 143 → J a = I a) : iR J := by
  unfold iR at *
  rw [r 75 (by omega), r 76 (by omega), r 77 (by omega), r 78 (by omega), r 79 (by omega), r 80 (by omega), r 81 (by omega), r 82 (by omega), r 83 (by omega), e95 69 (by omega), e95 70 (by omega), e95 71 (by omega), e95 72 (by omega), q 137 (by omega), q 138 (by omega), q 139 (by omega), q 140 (by omega), q 141 (by omega), q 142 (by omega), q 143 (by omega)]
  exact h
theorem iN_c (h : iN I) (e84 : ∀ k, 7 ≤ k ∧ k ≤ 9 → J 84 k = I 84 k) (r : ∀ a, 85 ≤ a ∧ a ≤ 89 → J a = I a) (e95 : ∀ k, k = 83 ∨ k = 84 ∨ k = 91 → J 95 k = I 95 k) (q : ∀ a, 144 ≤ a ∧ a ≤ 146 → J a = I a) (q8 : J 148 = I 148) (q9 : J 149 = I 149) : iN J := by
  unfold iN ntOk at *
  rw [e84 7 (by omega), e84 8 (by omega), e84 9 (by omega), r 85 (by omega), r 86 (by omega), r 87 (by omega), r 88 (by omega), r 89 (by omega), e95 83 (by omega), e95 84 (by omega), e95 91 (by omega), q 144 (by omega), q 145 (by omega), q 146 (by omega), q8, q9]
  exact h
theorem iL_c (h : iL I) (e : J 92 3 = I 92 3) (e1 : J 93 = I 93) (e95 : J 95 92 = I 95 92) (q : J 150 = I 150) : iL J := by
  unfold iL at *
  rw [e, e1, e95, q]
  exact h
/-- rows and fields that no piece looks at -/
def scr (a : Nat) : Prop := (18 ≤ a ∧ a ≤ 35) ∨ a = 0 ∨ a = 45 ∨ (64 ≤ a ∧ a ≤ 68) ∨ (70 ≤ a ∧ a ≤ 74) ∨ a = 90 ∨ a = 91 ∨ a = 94 ∨ a = 95 ∨ a = 98 ∨ (99 ≤ a ∧ a ≤ 101) ∨ (111 ≤ a ∧ a ≤ 119) ∨ a = 128 ∨ (131 ≤ a ∧ a ≤ 136) ∨ a = 147 ∨ 151 ≤ a
def scf (k : Nat) : Prop := (2 ≤ k ∧ k ≤ 7) ∨ (16 ≤ k ∧ k ≤ 47) ∨ (50 ≤ k ∧ k ≤ 68) ∨ (73 ≤ k ∧ k ≤ 82) ∨ (85 ≤ k ∧ k ≤ 90) ∨ 93 ≤ k
def keL (L K : Ls) : Prop := K 34 = L 34 ∧ K 44 0 = L 44 0 ∧ K 54 0 = L 54 0 ∧ K 63 0 = L 63 0 ∧ K 95 47 = L 95 47 ∧ K 128 = L 128
theorem keL_r : keL L L := ⟨rfl, rfl, rfl, rfl, rfl, rfl⟩
theorem kwT_c (h : kwT L) (e : K 34 = L 34) : kwT K := fun j hj => by rw [e]; exact h j hj
theorem Inv_c {n m : Nat} (hnm : n ≤ m) (h : Inv n I L) (hr : ∀ a, ¬ scr a → J a = I a) (h33 : ∀ k, k = 4 ∨ k = 5 → J 33 k = I 33 k) (h95 : ∀ k, ¬ scf k → J 95 k = I 95 k) (hl : keL L K) : Inv m J K := by
  obtain ⟨i1, i2, i3, ⟨i4, i5, i6, i7⟩, i8, i9, i10, i11, i12⟩ := h
  obtain ⟨l1, l2, l3, l4, l5, l6⟩ := hl
  have r : ∀ a, 3 ≤ a ∧ a ≤ 17 → J a = I a := fun a ha => hr a (by unfold scr; omega)
  have q : ∀ a, (36 ≤ a ∧ a ≤ 44) ∨ (46 ≤ a ∧ a ≤ 63) ∨ a = 69 ∨ (75 ≤ a ∧ a ≤ 89) ∨ a = 92 ∨ a = 93 ∨ a = 96 ∨ a = 97 ∨ (102 ≤ a ∧ a ≤ 110) ∨ (120 ≤ a ∧ a ≤ 127) ∨ a = 129 ∨ a = 130 ∨ (137 ≤ a ∧ a ≤ 146) ∨ (148 ≤ a ∧ a ≤ 150) ∨ a = 1 ∨ a = 2 → J a = I a := fun a ha => hr a (by unfold scr; omega)
  have f : ∀ k, k = 1 ∨ (8 ≤ k ∧ k ≤ 15) ∨ k = 48 ∨ k = 49 ∨ (69 ≤ k ∧ k ≤ 72) ∨ k = 83 ∨ k = 84 ∨ k = 91 ∨ k = 92 → J 95 k = I 95 k := fun k hk => h95 k (by unfold scf; omega)
  refine ⟨iT_c i1 (by rw [q 1 (by omega)]) (f 1 (by omega)) (q 2 (by omega)) (q 96 (by omega)), iF_c i2 h33 (fun k hk => f k (by omega)), iC_c i3 r (fun k hk => f k (by omega)) (q 97 (by omega)) (fun a ha => q a (by omega)), ⟨dgB_c hnm i4 r (fun k _ => by rw [q 36 (by omega)]) (q _ (by omega)) (q _ (by omega)) (q _ (by omega)) (q _ (by omega)) (q _ (by omega)), dgE_c i5 (fun a ha => q a (by omega)) (fun k _ => by rw [q 36 (by omega)]) (fun k hk => f k (by omega)) (fun a ha => q a (by omega)) l2 l5, slE_c hnm i6 r (fun k => by rw [q 46 (by omega)]) (fun a ha => q a (by omega)) (q _ (by omega)) (q _ (by omega)) l3 l6, slE_c hnm i7 r (fun k => by rw [q 55 (by omega)]) (fun a ha => q a (by omega)) (q _ (by omega)) (q _ (by omega)) l4 l6⟩, iG_c i8 r (q _ (by omega)) (q _ (by omega)), iR_c i9 (fun a ha => q a (by omega)) (fun k hk => f k (by omega)) (fun a ha => q a (by omega)), iN_c i10 (fun k _ => by rw [q 84 (by omega)]) (fun a ha => q a (by omega)) (fun k hk => f k (by omega)) (fun a ha => q a (by omega)) (q _ (by omega)) (q _ (by omega)), iL_c i11 (by rw [q 92 (by omega)]) (q _ (by omega)) (f _ (by omega)) (q _ (by omega)), kwT_c i12 l1⟩
theorem Inv_up {n : Nat} (h : Inv n I L) : Inv (n + 1) I L := Inv_c (Nat.le_succ n) h (fun _ _ => rfl) (fun _ _ => rfl) (fun _ _ => rfl) keL_r
/-- both refuse, or answer, and leave all as it is -/
theorem Bth_p {μ μ' : Mu} {d d' n : Nat} {as : List Value} {v v' : Int32} (h : Inv n I L) (h1 : Con sc μ d 0 0 (.ref 0 :: as) (XW I L tg) (rI v (XW I L tg))) (h2 : Con sc μ' d' 0 0 (.ref 95 :: as) (XW I L tg) (rI v' (XW I L tg))) (e : v' = v) : Bth sc μ μ' d d' as n I L tg := Run_r h1 (Run_r h2 ⟨e, Inv_up h⟩)
/-- what the camp says -/
theorem cm_H (h : iC I) : ∃ H, H ≤ 5 ∧ I 3 14 = nI H ∧ I 95 10 = nI H := by
  obtain ⟨H, G, K, ⟨a, _⟩, ⟨b, _⟩, ⟨c, _⟩, _⟩ := h
  exact ⟨H, a, b, c⟩
theorem cm_G (h : iC I) : ∃ H, H ≤ 4 ∧ I 3 15 = nI H ∧ I 95 11 = nI H := by
  obtain ⟨H, G, K, ⟨_, a, _⟩, ⟨_, b, _⟩, ⟨_, c, _⟩, _⟩ := h
  exact ⟨G, a, b, c⟩
theorem cm_K (h : iC I) : ∃ H, H ≤ 4 ∧ I 3 16 = nI H ∧ I 95 12 = nI H := by
  obtain ⟨H, G, K, ⟨_, _, a⟩, ⟨_, _, b⟩, ⟨_, _, c⟩, _⟩ := h
  exact ⟨K, a, b, c⟩
/-- fault -/
theorem st_fault {n : Nat} {w : Int32} (h : Inv n I L) : Bth sc mX11_fault mX12_fault 0 0 [.int w] n I L tg := by
  refine Bth_p h k_X11_fault k_X12_fault ?_
  rw [h.2.1.1, h.2.1.2]
/-- lies, had -/
theorem st_lies {n : Nat} {a : Int32} (h : Inv n I L) : Bth sc mX11_lies mX12_lies 1 2 [.int a] n I L tg := by
  obtain ⟨H, h5, e1, e2⟩ := cm_H h.2.2.1
  have i3 : (I 3 14).toInt = H := by rw [e1, nI_toInt (by omega)]
  have i9 : (I 95 10).toInt = H := by rw [e2, nI_toInt (by omega)]
  by_cases hc : 0 ≤ a.toInt ∧ a.toInt < (I 3 14).toInt
  · obtain ⟨x, hx⟩ : ∃ x : Nat, a.toInt = x := ⟨a.toInt.toNat, by omega⟩
    have xc : a.toNatClampNeg = x := by have := i_cl (a := a) hc.1; omega
    refine Bth_p h (k_X11_lies (by omega)) (k_X12_lies_y (x := x) (by omega) hx (by omega)) ?_
    rw [if_pos hc, xc]
    exact (h.2.2.2.1.2.1.2.2.2.1 x (by omega)).symm
  · refine Bth_p h (k_X11_lies (by omega)) (k_X12_lies_r (by omega)) ?_
    rw [if_neg hc]
theorem st_had {n : Nat} {a : Int32} (h : Inv n I L) : Bth sc mX11_had mX12_had 1 2 [.int a] n I L tg := by
  obtain ⟨H, h5, e1, e2⟩ := cm_G h.2.2.1
  have i3 : (I 3 15).toInt = H := by rw [e1, nI_toInt (by omega)]
  have i9 : (I 95 11).toInt = H := by rw [e2, nI_toInt (by omega)]
  by_cases hc : 0 ≤ a.toInt ∧ a.toInt < (I 3 15).toInt
  · obtain ⟨x, hx⟩ : ∃ x : Nat, a.toInt = x := ⟨a.toInt.toNat, by omega⟩
    have xc : a.toNatClampNeg = x := by have := i_cl (a := a) hc.1; omega
    refine Bth_p h (k_X11_had (by omega)) (k_X12_had_y (x := x) (by omega) hx (by omega)) ?_
    rw [if_pos hc, xc]
    exact (h.2.2.2.1.2.1.2.2.2.2.1 x (by omega)).symm
  · refine Bth_p h (k_X11_had (by omega)) (k_X12_had_r (by omega)) ?_
    rw [if_neg hc]
end
