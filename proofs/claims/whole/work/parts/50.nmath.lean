/-! the night, as it is: who is out when, who must begin when -/
section
variable {rf rt : Nat → Int32} {NR : Nat}
def mtr (rf rt : Nat → Int32) (nd t : Int) (r : Nat) : Prop := t < (rt r).toInt ∧ (rf r).toInt < t + nd
def vld (rf rt : Nat → Int32) (NR : Nat) (nd t : Int) : Prop := ∀ r, r < NR → ¬ mtr rf rt nd t r
def prO (rf rt : Nat → Int32) (NR : Nat) (nd m b : Int) : Prop := m ≤ b ∧ ∀ c, m ≤ c → vld rf rt NR nd c → b ≤ c
def isO (rf rt : Nat → Int32) (NR : Nat) (nd m b : Int) : Prop := prO rf rt NR nd m b ∧ vld rf rt NR nd b
def prB (rf rt : Nat → Int32) (NR : Nat) (nd m b : Int) : Prop := b ≤ m ∧ ∀ c, c ≤ m → vld rf rt NR nd c → c ≤ b
def isB (rf rt : Nat → Int32) (NR : Nat) (nd m b : Int) : Prop := prB rf rt NR nd m b ∧ vld rf rt NR nd b
theorem isO_one {nd m b c : Int} (h : isO rf rt NR nd m b) (g : isO rf rt NR nd m c) : b = c := by
  have h1 := h.1.2 c g.1.1 g.2
  have h2 := g.1.2 b h.1.1 h.2
  omega
theorem prO_step {nd m b : Int} {j : Nat} (h : prO rf rt NR nd m b) (hj : j < NR) (hm : mtr rf rt nd b j) : prO rf rt NR nd m (rt j).toInt := by
  obtain ⟨h1, h2⟩ := h
  obtain ⟨m1, m2⟩ := hm
  refine ⟨by omega, fun c hc hv => ?_⟩
  have := h2 c hc hv
  rcases Int.lt_or_le c (rt j).toInt with g | g
  · exact absurd ⟨g, by omega⟩ (hv j hj)
  · exact g
theorem prB_step {nd m b : Int} {j : Nat} (h : prB rf rt NR nd m b) (hj : j < NR) (hm : mtr rf rt nd b j) : prB rf rt NR nd m ((rf j).toInt - nd) := by
  obtain ⟨h1, h2⟩ := h
  obtain ⟨m1, m2⟩ := hm
  refine ⟨by omega, fun c hc hv => ?_⟩
  have := h2 c hc hv
  rcases Int.lt_or_le (rf j).toInt (c + nd) with g | g
  · exact absurd ⟨by omega, g⟩ (hv j hj)
  · omega
theorem adj {nd m u b e : Int} (hO : isO rf rt NR nd m b) (hB : isB rf rt NR nd (u - nd) e) : b + nd ≤ u ↔ m ≤ e := by
  constructor
  · intro h
    have := hB.1.2 b (by omega) hO.2
    have := hO.1.1
    omega
  · intro h
    have := hO.1.2 e h hB.2
    have := hB.1.1
    omega
def cwt (p : Nat → Bool) : Nat → Nat
  | 0 => 0
  | n + 1 => cwt p n + (p n).toNat
theorem cwt_le (p : Nat → Bool) : ∀ n, cwt p n ≤ n := by
  intro n
  induction n with
  | zero => exact Nat.le_refl _
  | succ n ih =>
    have := Bool.toNat_le (p n)
    show cwt p n + (p n).toNat ≤ n + 1
    omega
theorem cwt_mono {p q : Nat → Bool} : ∀ n, (∀ j, j < n → p j = true → q j = true) → cwt p n ≤ cwt q n := by
  intro n
  induction n with
  | zero => intro _; exact Nat.le_refl _
  | succ n ih =>
    intro h
    have h1 := ih (fun j hj => h j (by omega))
    show cwt p n + (p n).toNat ≤ cwt q n + (q n).toNat
    cases hp : p n with
    | false => simp; omega
    | true => rw [h n (by omega) hp]; simp; omega
theorem cwt_lt {p q : Nat → Bool} : ∀ n, (∀ j, j < n → p j = true → q j = true) → ∀ i, i < n → p i = false → q i = true → cwt p n < cwt q n := by
  intro n
  induction n with
  | zero => intro _ i hi; omega
  | succ n ih =>
    intro h i hi h1 h2
    show cwt p n + (p n).toNat < cwt q n + (q n).toNat
    by_cases e : i = n
    · subst e
      have := cwt_mono (p := p) (q := q) i (fun j hj => h j (by omega))
      rw [h1, h2]
      simp
      omega
    · have g := ih (fun j hj => h j (by omega)) i (by omega) h1 h2
      cases hp : p n with
      | false => simp; omega
      | true => rw [h n (by omega) hp]; simp; omega
theorem cwt_0 {p : Nat → Bool} : ∀ n, cwt p n = 0 → ∀ j, j < n → p j = false := by
  intro n
  induction n with
  | zero => intro _ j hj; omega
  | succ n ih =>
    intro h j hj
    have h : cwt p n + (p n).toNat = 0 := h
    by_cases e : j = n
    · subst e
      cases hp : p j with
      | false => rfl
      | true => rw [hp] at h; simp at h
    · exact ih (by omega) j (by omega)
/-- rounds that are still ahead; that have begun -/
def cwO (rt : Nat → Int32) (NR : Nat) (b : Int) : Nat := cwt (fun r => decide (b < (rt r).toInt)) NR
def cwB (rf : Nat → Int32) (NR : Nat) (e : Int) : Nat := cwt (fun r => decide ((rf r).toInt < e)) NR
theorem cwO_lt {b : Int} {j : Nat} (hj : j < NR) (h : b < (rt j).toInt) : cwO rt NR (rt j).toInt < cwO rt NR b := by
  refine cwt_lt NR (fun i hi hp => ?_) j hj (by simp) (by simpa using h)
  have := of_decide_eq_true hp
  exact decide_eq_true (by omega)
theorem cwB_lt {e : Int} {j : Nat} (hj : j < NR) (h : (rf j).toInt < e) : cwB rf NR (rf j).toInt < cwB rf NR e := by
  refine cwt_lt NR (fun i hi hp => ?_) j hj (by simp) (by simpa using h)
  have := of_decide_eq_true hp
  exact decide_eq_true (by omega)
theorem cwO_0 {nd b : Int} (h : cwO rt NR b = 0) : vld rf rt NR nd b := by
  intro r hr hm
  have := cwt_0 NR h r hr
  exact absurd hm.1 (of_decide_eq_false this)
theorem cwB_0 {nd b : Int} (h : cwB rf NR (b + nd) = 0) : vld rf rt NR nd b := by
  intro r hr hm
  have := cwt_0 NR h r hr
  exact absurd hm.2 (of_decide_eq_false this)
/-- the rounds of a night -/
def rdOk (rf rt : Nat → Int32) (NR : Nat) : Prop := NR ≤ 5 ∧ ∀ r, r < NR → 0 ≤ (rf r).toInt ∧ (rf r).toInt < (rt r).toInt ∧ (rt r).toInt ≤ 600
def ndOk (nd : Int32) : Prop := 1 ≤ nd.toInt ∧ nd.toInt ≤ 23
theorem rmt_c {a nd : Int32} (hn : ndOk nd) (ha : -3000000 ≤ a.toInt ∧ a.toInt ≤ 3000000) : (rmt rf rt NR a (a + nd) = -1 ∧ vld rf rt NR nd.toInt a.toInt) ∨ ∃ j, j < NR ∧ rmt rf rt NR a (a + nd) = nI j ∧ mtr rf rt nd.toInt a.toInt j := by
  obtain ⟨n1, n2⟩ := hn
  have e : (a + nd).toInt = a.toInt + nd.toInt := i_add (by omega) (by omega)
  rcases fsk_rng (fun r => decide (a < rt r ∧ rf r < a + nd)) NR 0 with ⟨h1, h2⟩ | ⟨j, h1, h2, h3, h4, -⟩
  · left
    refine ⟨h1, fun r hr hm => ?_⟩
    have := of_decide_eq_false (h2 r (by omega) (by omega))
    exact this ⟨i_lt.mpr hm.1, i_lt.mpr (by rw [e]; exact hm.2)⟩
  · right
    have := of_decide_eq_true h4
    exact ⟨j, by omega, h3, i_lt.mp this.1, by rw [← e]; exact i_lt.mp this.2⟩
theorem nI_nn {j : Nat} (h : j < 1000) : ¬ nI j = -1 := by
  rw [i_eq, nI_toInt (by omega), show (-1 : Int32).toInt = -1 from rfl]
  omega
theorem ous_c {nd b : Int32} (hn : ndOk nd) (h5 : NR ≤ 5) (hb : -3000000 ≤ b.toInt ∧ b.toInt ≤ 3000000) : (vld rf rt NR nd.toInt b.toInt ∧ ous rf rt NR nd b = b) ∨ ∃ j, j < NR ∧ mtr rf rt nd.toInt b.toInt j ∧ ous rf rt NR nd b = rt j := by
  unfold ous
  rcases rmt_c (rf := rf) (rt := rt) (NR := NR) hn hb with ⟨h1, h2⟩ | ⟨j, h1, h2, h3⟩
  · exact Or.inl ⟨h2, by rw [if_pos h1]⟩
  · exact Or.inr ⟨j, h1, h3, by rw [h2, if_neg (nI_nn (by omega)), nI_clamp (by omega)]⟩
theorem obs_c {nd b : Int32} (hn : ndOk nd) (h5 : NR ≤ 5) (hb : -3000000 ≤ b.toInt ∧ b.toInt ≤ 3000000) : (vld rf rt NR nd.toInt b.toInt ∧ obs rf rt NR nd b = b) ∨ ∃ j, j < NR ∧ mtr rf rt nd.toInt b.toInt j ∧ obs rf rt NR nd b = rf j - nd := by
  unfold obs
  rcases rmt_c (rf := rf) (rt := rt) (NR := NR) hn hb with ⟨h1, h2⟩ | ⟨j, h1, h2, h3⟩
  · exact Or.inl ⟨h2, by rw [if_pos h1]⟩
  · exact Or.inr ⟨j, h1, h3, by rw [h2, if_neg (nI_nn (by omega)), nI_clamp (by omega)]⟩
theorem itr_fix {f : Int32 → Int32} {b : Int32} (h : f b = b) : ∀ n, itr f n b = b := by
  intro n
  induction n with
  | zero => rfl
  | succ n ih => rw [itr, h, ih]
theorem itr_isO {nd : Int32} {m : Int} (hr : rdOk rf rt NR) (hn : ndOk nd) : ∀ n (b : Int32), cwO rt NR b.toInt ≤ n → prO rf rt NR nd.toInt m b.toInt → (-3000000 ≤ b.toInt ∧ b.toInt ≤ 3000000) → isO rf rt NR nd.toInt m (itr (ous rf rt NR nd) n b).toInt ∧ ((itr (ous rf rt NR nd) n b).toInt = b.toInt ∨ (itr (ous rf rt NR nd) n b).toInt ≤ 600) := by
  intro n
  induction n with
  | zero => intro b h1 h2 h3; exact ⟨⟨h2, show vld rf rt NR nd.toInt b.toInt from cwO_0 (Nat.le_zero.mp h1)⟩, Or.inl rfl⟩
  | succ n ih =>
    intro b h1 h2 h3
    rcases ous_c (rf := rf) (rt := rt) hn hr.1 h3 with ⟨g1, g2⟩ | ⟨j, g1, g2, g3⟩
    · rw [itr_fix g2]
      exact ⟨⟨h2, g1⟩, Or.inl rfl⟩
    · rw [itr, g3]
      have q := hr.2 j g1
      have c := cwO_lt g1 g2.1
      obtain ⟨a1, a2⟩ := ih (rt j) (by omega) (prO_step h2 g1 g2) (by omega)
      exact ⟨a1, Or.inr (by omega)⟩
theorem itr_isB {nd : Int32} {m : Int} (hr : rdOk rf rt NR) (hn : ndOk nd) : ∀ n (b : Int32), cwB rf NR (b.toInt + nd.toInt) ≤ n → prB rf rt NR nd.toInt m b.toInt → (-3000000 ≤ b.toInt ∧ b.toInt ≤ 3000000) → isB rf rt NR nd.toInt m (itr (obs rf rt NR nd) n b).toInt ∧ ((itr (obs rf rt NR nd) n b).toInt = b.toInt ∨ -23 ≤ (itr (obs rf rt NR nd) n b).toInt) := by
  intro n
  induction n with
  | zero => intro b h1 h2 h3; exact ⟨⟨h2, show vld rf rt NR nd.toInt b.toInt from cwB_0 (Nat.le_zero.mp h1)⟩, Or.inl rfl⟩
  | succ n ih =>
    intro b h1 h2 h3
    obtain ⟨n1, n2⟩ := id hn
    rcases obs_c (rf := rf) (rt := rt) hn hr.1 h3 with ⟨g1, g2⟩ | ⟨j, g1, g2, g3⟩
    · rw [itr_fix g2]
      exact ⟨⟨h2, g1⟩, Or.inl rfl⟩
    · rw [itr, g3]
      have q := hr.2 j g1
      have e : (rf j - nd).toInt = (rf j).toInt - nd.toInt := i_sub (by omega) (by omega)
      have c := cwB_lt (rf := rf) (NR := NR) g1 g2.2
      obtain ⟨a1, a2⟩ := ih (rf j - nd) (by rw [e]; rw [show (rf j).toInt - nd.toInt + nd.toInt = (rf j).toInt by omega]; omega) (by rw [e]; exact prB_step h2 g1 g2) (by omega)
      exact ⟨a1, Or.inr (by omega)⟩
/-- when one is out -/
theorem ouR_ok {ne : Nat → Int32} {p : Nat} {m : Int32} (hr : rdOk rf rt NR) (hn : ndOk (ne p)) (hm : 0 ≤ m.toInt ∧ m.toInt ≤ 2000000) : ∃ b : Int, isO rf rt NR (ne p).toInt m.toInt b ∧ (ouR ne rf rt NR p m).toInt = b + (ne p).toInt ∧ (b = m.toInt ∨ b ≤ 600) := by
  obtain ⟨n1, n2⟩ := id hn
  obtain ⟨a1, a2⟩ := itr_isO (m := m.toInt) hr hn 5 m (Nat.le_trans (cwt_le _ _) hr.1) ⟨Int.le_refl _, fun c hc _ => hc⟩ (by omega)
  refine ⟨_, a1, ?_, a2⟩
  unfold ouR
  have := a1.1.1
  exact i_add (by omega) (by omega)
theorem beR_ok {ne : Nat → Int32} {p : Nat} {u : Int32} (hr : rdOk rf rt NR) (hn : ndOk (ne p)) (hu : -1000 ≤ u.toInt ∧ u.toInt ≤ 2000000) : isB rf rt NR (ne p).toInt (u.toInt - (ne p).toInt) (beR ne rf rt NR p u).toInt ∧ (beR ne rf rt NR p u).toInt ≤ u.toInt ∧ ((beR ne rf rt NR p u).toInt = u.toInt - (ne p).toInt ∨ -23 ≤ (beR ne rf rt NR p u).toInt) := by
  obtain ⟨n1, n2⟩ := id hn
  have e : (u - ne p).toInt = u.toInt - (ne p).toInt := i_sub (by omega) (by omega)
  obtain ⟨a1, a2⟩ := itr_isB (m := u.toInt - (ne p).toInt) hr hn 5 (u - ne p) (Nat.le_trans (cwt_le _ _) hr.1) (by rw [e]; exact ⟨Int.le_refl _, fun c hc _ => hc⟩) (by omega)
  have := a1.1.1
  exact ⟨a1, by show (itr (obs rf rt NR (ne p)) 5 (u - ne p)).toInt ≤ _; omega, by show (itr (obs rf rt NR (ne p)) 5 (u - ne p)).toInt = _ ∨ -23 ≤ (itr (obs rf rt NR (ne p)) 5 (u - ne p)).toInt; omega⟩
theorem ou_be {ne : Nat → Int32} {p : Nat} {m u : Int32} (hr : rdOk rf rt NR) (hn : ndOk (ne p)) (hm : 0 ≤ m.toInt ∧ m.toInt ≤ 2000000) (hu : -1000 ≤ u.toInt ∧ u.toInt ≤ 2000000) : (ouR ne rf rt NR p m).toInt ≤ u.toInt ↔ m.toInt ≤ (beR ne rf rt NR p u).toInt := by
  obtain ⟨b, h1, h2, -⟩ := ouR_ok hr hn hm
  obtain ⟨h3, -⟩ := beR_ok hr hn hu
  rw [h2]
  exact adj h1 h3
theorem ou_rng {ne : Nat → Int32} {p : Nat} {m : Int32} (hr : rdOk rf rt NR) (hn : ndOk (ne p)) (hm : 0 ≤ m.toInt ∧ m.toInt ≤ 2000000) : m.toInt ≤ (ouR ne rf rt NR p m).toInt ∧ ((ouR ne rf rt NR p m).toInt ≤ m.toInt + 23 ∨ (ouR ne rf rt NR p m).toInt ≤ 623) := by
  obtain ⟨b, h1, h2, h3⟩ := ouR_ok hr hn hm
  obtain ⟨n1, n2⟩ := hn
  have := h1.1.1
  omega
theorem ou_mono {ne : Nat → Int32} {p : Nat} {m m' : Int32} (hr : rdOk rf rt NR) (hn : ndOk (ne p)) (hm : 0 ≤ m.toInt) (h : m.toInt ≤ m'.toInt) (hm' : m'.toInt ≤ 2000000) : (ouR ne rf rt NR p m).toInt ≤ (ouR ne rf rt NR p m').toInt := by
  obtain ⟨b, h1, h2, -⟩ := ouR_ok (ne := ne) (p := p) (m := m) hr hn (by omega)
  obtain ⟨c, g1, g2, -⟩ := ouR_ok (ne := ne) (p := p) (m := m') hr hn (by omega)
  have := h1.1.2 c (by have := g1.1.1; omega) g1.2
  omega
end
