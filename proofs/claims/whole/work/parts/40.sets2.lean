section
/-! counting a set's members; the k-th of a set -/
def cnt (s : Nat) : Nat → Nat
  | 0 => 0
  | n + 1 => cnt s n + (s.testBit n).toNat
theorem pop_cnt (s : Nat) : pop s = cnt s 32 := rfl
theorem cnt_le (s : Nat) : ∀ n, cnt s n ≤ n := by
  intro n
  induction n with
  | zero => exact Nat.le_refl 0
  | succ n ih =>
    have : (s.testBit n).toNat ≤ 1 := Bool.toNat_le _
    show cnt s n + (s.testBit n).toNat ≤ n + 1
    omega
theorem cnt_cat {h l : Nat} (hl : l < 256) : ∀ n, cnt (256 * h + l) (8 + n) = cnt l 8 + cnt h n := by
  have tb : ∀ j, (256 * h + l).testBit j = if j < 8 then l.testBit j else h.testBit (j - 8) := fun j => Nat.testBit_two_pow_mul_add (i := 8) h hl j
  intro n
  induction n with
  | zero => simp [cnt, tb]
  | succ n ih =>
    show cnt (256 * h + l) (8 + n) + ((256 * h + l).testBit (8 + n)).toNat = cnt l 8 + (cnt h n + (h.testBit n).toNat)
    rw [ih, tb, if_neg (by omega), Nat.add_sub_cancel_left]
    omega
theorem by_and (a m : Nat) : a &&& m = 256 * (a / 256 &&& m / 256) + (a % 256 &&& m % 256) := by
  have h1 : (a &&& m) / 256 = a / 256 &&& m / 256 := Nat.and_div_two_pow (n := 8)
  have h2 : (a &&& m) % 256 = a % 256 &&& m % 256 := Nat.and_mod_two_pow (n := 8)
  rw [← h1, ← h2]
  exact (Nat.div_add_mod _ 256).symm
def g1 (m s : Nat) : Nat := s - (s / 2 &&& m)
def g2 (m s : Nat) : Nat := (s &&& m) + (s / 4 &&& m)
def g3 (m s : Nat) : Nat := (s + s / 16) &&& m
theorem g1_b {h l : Nat} (hl : l < 256) (m : Nat) : g1 (256 * m + 85) (256 * h + l) = 256 * g1 m h + g1 85 l := by
  have e1 : (256 * h + l) / 2 / 256 = h / 2 := by omega
  have e2 : (256 * h + l) / 2 % 256 = 128 * (h % 2) + l / 2 := by omega
  have e3 : (256 * m + 85) / 256 = m := by omega
  have e4 : (256 * m + 85) % 256 = 85 := by omega
  have e5 : ∀ b, b < 2 → ∀ l, l < 256 → (128 * b + l / 2) &&& 85 = l / 2 &&& 85 := by decide +kernel
  have e6 : h / 2 &&& m ≤ h / 2 := Nat.and_le_left
  have e7 : l / 2 &&& 85 ≤ l / 2 := Nat.and_le_left
  unfold g1
  rw [by_and, e1, e2, e3, e4, e5 _ (by omega) l hl]
  generalize h / 2 &&& m = u at *
  generalize l / 2 &&& 85 = v at *
  omega
theorem g2_b {h l : Nat} (hl : l < 256) (m : Nat) : g2 (256 * m + 51) (256 * h + l) = 256 * g2 m h + g2 51 l := by
  have e8 : (256 * h + l) / 256 = h := by omega
  have e9 : (256 * h + l) % 256 = l := by omega
  have e1 : (256 * h + l) / 4 / 256 = h / 4 := by omega
  have e2 : (256 * h + l) / 4 % 256 = 64 * (h % 4) + l / 4 := by omega
  have e3 : (256 * m + 51) / 256 = m := by omega
  have e4 : (256 * m + 51) % 256 = 51 := by omega
  have e5 : ∀ b, b < 4 → ∀ l, l < 256 → (64 * b + l / 4) &&& 51 = l / 4 &&& 51 := by decide +kernel
  unfold g2
  rw [by_and (256 * h + l), by_and ((256 * h + l) / 4), e1, e2, e3, e4, e8, e9, e5 _ (by omega) l hl]
  generalize h / 4 &&& m = u
  generalize l / 4 &&& 51 = v
  generalize h &&& m = w
  generalize l &&& 51 = x
  omega
theorem g3_b {h l : Nat} (hb : l + l / 16 + 16 * (h % 16) < 256) (m : Nat) : g3 (256 * m + 15) (256 * h + l) = 256 * g3 m h + g3 15 l := by
  have e1 : (256 * h + l + (256 * h + l) / 16) / 256 = h + h / 16 := by omega
  have e2 : (256 * h + l + (256 * h + l) / 16) % 256 = l + l / 16 + 16 * (h % 16) := by omega
  have e3 : (256 * m + 15) / 256 = m := by omega
  have e4 : (256 * m + 15) % 256 = 15 := by omega
  have e5 : ∀ x, x &&& 15 = x % 16 := fun x => Nat.and_two_pow_sub_one_eq_mod x 4
  unfold g3
  rw [by_and, e1, e2, e3, e4, e5, e5]
  omega
theorem sw_nat {b0 b1 b2 b3 : Nat} (h0 : b0 < 256) (h1 : b1 < 256) (h2 : b2 < 256) (h3 : b3 < 256) : g3 252645135 (g2 858993459 (g1 1431655765 (256 * (256 * (256 * b3 + b2) + b1) + b0))) = 256 * (256 * (256 * cnt b3 8 + cnt b2 8) + cnt b1 8) + cnt b0 8 := by
  have q : ∀ b, b < 256 → g1 85 b < 256 ∧ g2 51 (g1 85 b) ≤ 68 ∧ g2 51 (g1 85 b) % 16 ≤ 4 ∧ g3 15 (g2 51 (g1 85 b)) = cnt b 8 := by decide +kernel
  have q0 := q _ h0
  have q1 := q _ h1
  have q2 := q _ h2
  have q3 := q _ h3
  rw [show (1431655765 : Nat) = 256 * (256 * (256 * 85 + 85) + 85) + 85 from rfl, g1_b h0, g1_b h1, g1_b h2]
  rw [show (858993459 : Nat) = 256 * (256 * (256 * 51 + 51) + 51) + 51 from rfl, g2_b q0.1, g2_b q1.1, g2_b q2.1]
  rw [show (252645135 : Nat) = 256 * (256 * (256 * 15 + 15) + 15) + 15 from rfl, g3_b (by omega), g3_b (by omega), g3_b (by omega)]
  rw [q0.2.2.2, q1.2.2.2, q2.2.2.2, q3.2.2.2]
theorem n32_ush (x n : Int32) (k : Nat) (hs : ((n.toUInt32 &&& Int32.toUInt32 31).toBitVec % 32).toNat = k) : n32 (ush x n) = n32 x / 2 ^ k := pk_ushr x n k hs
theorem sw1_n (x : Int32) : n32 (sw1 x) = g1 1431655765 (n32 x) := by
  have k1 : n32 1431655765 = 1431655765 := by decide
  have hx := n32_lt x
  unfold sw1 g1
  rw [n32_sub, n32_and, n32_ush x 1 1 (by decide), k1, Nat.pow_one]
  have : n32 x / 2 &&& 1431655765 ≤ n32 x / 2 := Nat.and_le_left
  generalize n32 x / 2 &&& 1431655765 = u at *
  omega
theorem sw2_n (x : Int32) : n32 (sw2b x) = g2 858993459 (n32 x) := by
  have k1 : n32 858993459 = 858993459 := by decide
  unfold sw2b g2
  rw [n32_add, n32_and, n32_and, n32_ush x 2 2 (by decide), k1]
  show ((n32 x &&& 858993459) + (n32 x / 4 &&& 858993459)) % 4294967296 = _
  have h1 : n32 x &&& 858993459 ≤ 858993459 := Nat.and_le_right
  have h2 : n32 x / 4 &&& 858993459 ≤ 858993459 := Nat.and_le_right
  exact Nat.mod_eq_of_lt (by omega)
theorem g2_le (s : Nat) : g2 858993459 s ≤ 1717986918 := by
  have h1 : s &&& 858993459 ≤ 858993459 := Nat.and_le_right
  have h2 : s / 4 &&& 858993459 ≤ 858993459 := Nat.and_le_right
  unfold g2
  omega
theorem sw3_n {x : Int32} (h : n32 x ≤ 1717986918) : n32 (sw3 x) = g3 252645135 (n32 x) := by
  have k1 : n32 252645135 = 252645135 := by decide
  unfold sw3 g3
  rw [n32_and, n32_add, n32_ush x 4 4 (by decide), k1]
  show ((n32 x + n32 x / 16) % 4294967296) &&& 252645135 = _
  rw [Nat.mod_eq_of_lt (by omega)]
theorem swr_n (x : Int32) : n32 (swr x) = cnt (n32 x) 32 := by
  have k1 : n32 63 = 63 := by decide
  have hx := n32_lt x
  have es : n32 x = 256 * (256 * (256 * (n32 x / 16777216) + n32 x / 65536 % 256) + n32 x / 256 % 256) + n32 x % 256 := by omega
  have c8 : ∀ b, cnt b 8 ≤ 8 := fun b => cnt_le b 8
  have a3 : n32 (sw3 (sw2b (sw1 x))) = 256 * (256 * (256 * cnt (n32 x / 16777216) 8 + cnt (n32 x / 65536 % 256) 8) + cnt (n32 x / 256 % 256) 8) + cnt (n32 x % 256) 8 := by
    rw [sw3_n (by rw [sw2_n]; exact g2_le _), sw2_n, sw1_n]
    conv => lhs; rw [es]
    exact sw_nat (by omega) (by omega) (by omega) (by omega)
  have ep : cnt (n32 x) 32 = cnt (n32 x % 256) 8 + (cnt (n32 x / 256 % 256) 8 + (cnt (n32 x / 65536 % 256) 8 + cnt (n32 x / 16777216) 8)) := by
    conv => lhs; rw [es]
    show cnt _ (8 + (8 + (8 + 8))) = _
    rw [cnt_cat (by omega), cnt_cat (by omega), cnt_cat (by omega)]
  have h0 := c8 (n32 x % 256)
  have h1 := c8 (n32 x / 256 % 256)
  have h2 := c8 (n32 x / 65536 % 256)
  have h3 := c8 (n32 x / 16777216)
  rw [ep]
  unfold swr
  rw [n32_and, k1]
  have e63 : ∀ y, y &&& 63 = y % 64 := fun y => Nat.and_two_pow_sub_one_eq_mod y 6
  rw [e63]
  generalize sw3 (sw2b (sw1 x)) = y at a3 ⊢
  have a4 : n32 (sw4 y) = (n32 y + n32 y / 256) % 4294967296 := by
    unfold sw4
    rw [n32_add, n32_ush y 8 8 (by decide)]
  have a5 : n32 (sw5 (sw4 y)) = (n32 (sw4 y) + n32 (sw4 y) / 65536) % 4294967296 := by
    unfold sw5
    rw [n32_add, n32_ush _ 16 16 (by decide)]
  rw [a5, a4, a3]
  generalize cnt (n32 x % 256) 8 = p0 at *
  generalize cnt (n32 x / 256 % 256) 8 = p1 at *
  generalize cnt (n32 x / 65536 % 256) 8 = p2 at *
  generalize cnt (n32 x / 16777216) 8 = p3 at *
  have d1 : (256 * (256 * (256 * p3 + p2) + p1) + p0) / 256 = 256 * (256 * p3 + p2) + p1 := by omega
  have d2 : (256 * (256 * (256 * p3 + p2) + p1) + p0 + (256 * (256 * p3 + p2) + p1)) % 4294967296 = (p0 + p1) + 256 * (p1 + p2) + 65536 * (p2 + p3) + 16777216 * p3 := by omega
  have d3 : ((p0 + p1) + 256 * (p1 + p2) + 65536 * (p2 + p3) + 16777216 * p3) / 65536 = (p2 + p3) + 256 * p3 := by omega
  have d4 : ((p0 + p1) + 256 * (p1 + p2) + 65536 * (p2 + p3) + 16777216 * p3 + ((p2 + p3) + 256 * p3)) % 4294967296 = (p0 + p1) + 256 * (p1 + p2) + 65536 * (p2 + p3) + 16777216 * p3 + ((p2 + p3) + 256 * p3) := by omega
  rw [d1, d2, d3, d4]
  omega
theorem swr_pop {s : Nat} (h : s < 4294967296) : swr (nI s) = nI (cnt s 32) := by
  apply n32_inj
  have := cnt_le s 32
  rw [swr_n, n32_nI h, n32_nI (by omega)]
/-- bits of sets of up to thirty-one -/
theorem am31 : ∀ p, p < 32 → ((nI p &&& 31).toBitVec.smod 32).toNat = p := by decide +kernel
theorem g_shr {s p : Nat} (hs : s < 2147483648) (hp : p < 32) : (nI s >>> (nI p &&& 31)) &&& 1 = nI (s / 2 ^ p % 2) := by
  rw [pk_shrN hs _ p (am31 p hp), pk_andN (by have := Nat.div_le_self s (2 ^ p); omega) 1 (by decide)]
theorem g_bz {s p : Nat} (hs : s < 2147483648) (hp : p < 32) : bz (nI s) p ↔ s.testBit p = false := by
  show (nI s >>> (nI p &&& 31)) &&& 1 = 0 ↔ _
  rw [g_shr hs hp, Nat.testBit_eq_decide_div_mod_eq]
  rcases (show s / 2 ^ p % 2 = 0 ∨ s / 2 ^ p % 2 = 1 by omega) with h | h <;> rw [h] <;> decide
theorem g_bit {s p : Nat} (hs : s < 2147483648) (hp : p < 32) : (nI s >>> (nI p &&& 31)) &&& 1 = nI (s.testBit p).toNat := by
  rw [g_shr hs hp, Nat.testBit_eq_decide_div_mod_eq]
  rcases (show s / 2 ^ p % 2 = 0 ∨ s / 2 ^ p % 2 = 1 by omega) with h | h <;> rw [h] <;> rfl
theorem g_one : ∀ p, p < 31 → (1 : Int32) <<< (nI p &&& 31) = nI (2 ^ p) := by decide +kernel
theorem g_and {a b : Nat} (ha : a < 4294967296) (hb : b < 4294967296) : nI a &&& nI b = nI (a &&& b) := by
  apply n32_inj
  have : a &&& b ≤ a := Nat.and_le_left
  rw [n32_and, n32_nI ha, n32_nI hb, n32_nI (by omega)]
theorem clr_tb (s p j : Nat) : (clr s p).testBit j = (s.testBit j && decide (j ≠ p)) := by
  unfold clr
  by_cases h : s.testBit p = true
  · rw [if_pos h]
    have hb : s % 2 ^ p < 2 ^ p := Nat.mod_lt _ (Nat.two_pow_pos p)
    have h1 : s / 2 ^ p % 2 = 1 := by
      rw [Nat.testBit_eq_decide_div_mod_eq] at h
      exact of_decide_eq_true h
    have e0 : s = 2 ^ p * (2 * (s / 2 ^ p / 2) + 1) + s % 2 ^ p := by
      have := Nat.div_add_mod s (2 ^ p)
      have h2 : 2 * (s / 2 ^ p / 2) + 1 = s / 2 ^ p := by omega
      rw [h2]
      exact this.symm
    have e1 : s = 2 ^ (p + 1) * (s / 2 ^ p / 2) + (2 ^ p + s % 2 ^ p) := by
      rw [Nat.pow_succ]
      conv => lhs; rw [e0]
      rw [Nat.mul_add, Nat.mul_one, Nat.mul_assoc]
      omega
    have hp : 2 ^ (p + 1) = 2 ^ p + 2 ^ p := by rw [Nat.pow_succ]; omega
    have e2 : s - 2 ^ p = 2 ^ (p + 1) * (s / 2 ^ p / 2) + s % 2 ^ p := by
      have := Nat.two_pow_pos p
      generalize 2 ^ (p + 1) * (s / 2 ^ p / 2) = u at e1 ⊢
      omega
    rw [e2, Nat.testBit_two_pow_mul_add _ (by omega)]
    conv => rhs; rw [e1]
    rw [Nat.testBit_two_pow_mul_add _ (by omega)]
    by_cases hj : j < p + 1
    · rw [if_pos hj, if_pos hj]
      have e3 : (2 ^ p + s % 2 ^ p) = 2 ^ p * 1 + s % 2 ^ p := by omega
      rw [e3, Nat.testBit_two_pow_mul_add _ hb]
      by_cases hj2 : j < p
      · rw [if_pos hj2]
        simp [show j ≠ p by omega]
      · have : j = p := by omega
        subst this
        rw [Nat.testBit_lt_two_pow hb]
        simp
    · rw [if_neg hj, if_neg hj]
      simp [show j ≠ p by omega]
  · rw [if_neg h]
    by_cases hj : j = p
    · subst hj; simp at h; simp [h]
    · simp [hj]
theorem clr_le (s p : Nat) : clr s p ≤ s := by
  unfold clr
  split
  · exact Nat.sub_le _ _
  · exact Nat.le_refl _
theorem g_clr {s p : Nat} (hs : s < 2147483648) (hp : p < 31) : nI s &&& (((1 : Int32) <<< (nI p &&& 31)) ^^^ (-1)) = nI (clr s p) := by
  apply n32_inj
  have h1 := clr_le s p
  have h2 : (2 : Nat) ^ p < 4294967296 := Nat.lt_of_lt_of_le (Nat.pow_lt_pow_right (by decide) hp) (by decide)
  have k1 : n32 (-1) = 2 ^ 32 - 1 := by decide
  rw [g_one p hp, n32_and, n32_xor, n32_nI (by omega), n32_nI h2, n32_nI (by omega), k1]
  apply Nat.eq_of_testBit_eq
  intro j
  rw [clr_tb, Nat.testBit_and, Nat.testBit_xor, Nat.testBit_two_pow, Nat.testBit_two_pow_sub_one]
  by_cases hj : j < 32
  · by_cases hp2 : p = j
    · subst hp2; simp [hj]
    · simp [hj, hp2, Ne.symm hp2]
  · have : s.testBit j = false := Nat.testBit_lt_two_pow (Nat.lt_of_lt_of_le hs (Nat.le_trans (by decide) (Nat.pow_le_pow_right (n := 2) (by decide) (show 31 ≤ j by omega))))
    simp [this]
theorem cnt_clr {s p : Nat} (hp : s.testBit p = true) : ∀ n, cnt (clr s p) n + (if p < n then 1 else 0) = cnt s n := by
  intro n
  induction n with
  | zero => rfl
  | succ n ih =>
    show cnt (clr s p) n + ((clr s p).testBit n).toNat + _ = cnt s n + (s.testBit n).toNat
    rw [clr_tb]
    by_cases h : n = p
    · subst h
      rw [hp]
      simp at ih ⊢
      omega
    · have : (p < n + 1) = (p < n) := by apply propext; omega
      simp only [this]
      simp [h] at *
      omega
theorem cnt_mono (s : Nat) : ∀ n m, n ≤ m → cnt s n ≤ cnt s m := by
  intro n m h
  induction m with
  | zero => have : n = 0 := by omega
            subst this; exact Nat.le_refl _
  | succ m ih =>
    by_cases hn : n = m + 1
    · subst hn; exact Nat.le_refl _
    · exact Nat.le_trans (ih (by omega)) (Nat.le_add_right _ _)
theorem cnt_lt {s j : Nat} (hj : s.testBit j = true) {n : Nat} (h : j < n) : cnt s j < cnt s n := by
  have := cnt_mono s (j + 1) n h
  have e : cnt s (j + 1) = cnt s j + 1 := by show cnt s j + (s.testBit j).toNat = _; rw [hj]; rfl
  omega
theorem cnt_one {s i j : Nat} (hi : s.testBit i = true) (hj : s.testBit j = true) (h : cnt s i = cnt s j) : i = j := by
  rcases Nat.lt_trichotomy i j with g | g | g
  · have := cnt_lt hi g; omega
  · exact g
  · have := cnt_lt hj g; omega
/-- the place of the k-th of a set, from p on, among f places -/
def nth (s : Nat) : Nat → Nat → Nat → Nat
  | 0, _, p => p
  | f + 1, k, p => if s.testBit p = true ∧ k = 0 then p else nth s f (k - (s.testBit p).toNat) (p + 1)
theorem nth_ok (s : Nat) : ∀ f k p, cnt s p + k < cnt s (p + f) → p ≤ nth s f k p ∧ nth s f k p < p + f ∧ s.testBit (nth s f k p) = true ∧ cnt s (nth s f k p) = cnt s p + k := by
  intro f
  induction f with
  | zero => intro k p h; exact absurd h (by rw [Nat.add_zero]; omega)
  | succ f ih =>
    intro k p h
    rw [nth]
    by_cases hc : s.testBit p = true ∧ k = 0
    · rw [if_pos hc]
      exact ⟨Nat.le_refl _, by omega, hc.1, by omega⟩
    · rw [if_neg hc]
      have e : cnt s (p + 1) = cnt s p + (s.testBit p).toNat := rfl
      have hk : (s.testBit p).toNat ≤ k := by
        cases hb : s.testBit p with
        | false => exact Nat.zero_le _
        | true => have : k ≠ 0 := fun z => hc ⟨hb, z⟩
                  show 1 ≤ k
                  omega
      obtain ⟨h1, h2, h3, h4⟩ := ih (k - (s.testBit p).toNat) (p + 1) (by rw [show p + 1 + f = p + (f + 1) by omega]; omega)
      exact ⟨by omega, by omega, h3, by omega⟩
/-- the least of a set -/
theorem low_ex {t : Nat} (ht : 0 < t) : ∃ p, t.testBit p = true ∧ ∀ j, j < p → t.testBit j = false := by
  obtain ⟨p, h1, h2⟩ := pk_least (fun p => t.testBit p = true) (Nat.exists_testBit_of_ne_zero (by omega))
  exact ⟨p, h1, fun j hj => by simpa using h2 j hj⟩
theorem low_pred {t p : Nat} (h1 : t.testBit p = true) (h2 : ∀ j, j < p → t.testBit j = false) (j : Nat) : (t - 1).testBit j = if j < p then true else if j = p then false else t.testBit j := by
  have hm : t % 2 ^ p = 0 := by
    apply Nat.eq_of_testBit_eq
    intro i
    rw [Nat.testBit_mod_two_pow, Nat.zero_testBit]
    by_cases hi : i < p
    · simp [h2 i hi]
    · simp [hi]
  have h3 : t / 2 ^ p % 2 = 1 := by
    rw [Nat.testBit_eq_decide_div_mod_eq] at h1
    exact of_decide_eq_true h1
  have hp := Nat.two_pow_pos p
  have e1 : t = 2 ^ (p + 1) * (t / 2 ^ p / 2) + 2 ^ p := by
    have e0 := Nat.div_add_mod t (2 ^ p)
    have h4 : t / 2 ^ p = 2 * (t / 2 ^ p / 2) + 1 := by omega
    rw [hm, Nat.add_zero, h4, Nat.mul_add, Nat.mul_one, ← Nat.mul_assoc, ← Nat.pow_succ] at e0
    exact e0.symm
  have e2 : t - 1 = 2 ^ (p + 1) * (t / 2 ^ p / 2) + (2 ^ p - 1) := by
    generalize 2 ^ (p + 1) * (t / 2 ^ p / 2) = u at e1 ⊢
    omega
  have e3 : 2 ^ (p + 1) = 2 ^ p + 2 ^ p := by rw [Nat.pow_succ]; omega
  rw [e2, Nat.testBit_two_pow_mul_add _ (by omega)]
  by_cases hj : j < p + 1
  · rw [if_pos hj, Nat.testBit_two_pow_sub_one]
    by_cases hj2 : j < p
    · simp [hj2]
    · simp [show j = p by omega]
  · rw [if_neg hj, if_neg (by omega), if_neg (by omega)]
    conv => rhs; rw [e1]
    rw [Nat.testBit_two_pow_mul_add _ (by omega), if_neg hj]
theorem low_and {t p : Nat} (h1 : t.testBit p = true) (h2 : ∀ j, j < p → t.testBit j = false) : t &&& (t - 1) = clr t p := by
  apply Nat.eq_of_testBit_eq
  intro j
  rw [Nat.testBit_and, low_pred h1 h2, clr_tb]
  by_cases hj : j < p
  · simp [h2 j hj]
  · rw [if_neg hj]
    by_cases hj2 : j = p
    · simp [hj2]
    · simp [hj2]
theorem low_lt {t p : Nat} (h1 : t.testBit p = true) {n : Nat} (ht : t < 2 ^ n) : p < n := by
  rcases Nat.lt_or_ge p n with h | h
  · exact h
  · rw [Nat.testBit_lt_two_pow (Nat.lt_of_lt_of_le ht (Nat.pow_le_pow_right (by decide) h))] at h1
    exact absurd h1 (by decide)
theorem nI_pr {t : Nat} (ht : 0 < t) : nI t - 1 = nI (t - 1) := pk_sub (b := 1) ht
theorem g_low {t p : Nat} (hs : t < 2147483648) (h1 : t.testBit p = true) (h2 : ∀ j, j < p → t.testBit j = false) : ntf ((nI t ^^^ (-1)) &&& (nI t - 1)) = nI p := by
  have hp : p < 31 := low_lt h1 hs
  have ht : 0 < t := by
    rcases Nat.eq_zero_or_pos t with h | h
    · subst h; simp at h1
    · exact h
  rw [nI_pr ht]
  have e : (nI t ^^^ (-1)) &&& nI (t - 1) = nI (2 ^ p - 1) := by
    apply n32_inj
    have k1 : n32 (-1) = 2 ^ 32 - 1 := by decide
    have h3 : (2 : Nat) ^ p < 4294967296 := Nat.lt_of_lt_of_le (Nat.pow_lt_pow_right (by decide) hp) (by decide)
    rw [n32_and, n32_xor, n32_nI (by omega), n32_nI (by omega), n32_nI (by omega), k1]
    apply Nat.eq_of_testBit_eq
    intro j
    rw [Nat.testBit_and, Nat.testBit_xor, low_pred h1 h2, Nat.testBit_two_pow_sub_one, Nat.testBit_two_pow_sub_one]
    by_cases hj : j < p
    · simp [hj, h2 j hj, show j < 32 by omega]
    · rw [if_neg hj]
      by_cases hj2 : j = p
      · simp [hj2]
      · by_cases h32 : j < 32
        · simp [hj, hj2, h32]
        · have : t.testBit j = false := Nat.testBit_lt_two_pow (Nat.lt_of_lt_of_le hs (Nat.le_trans (by decide) (Nat.pow_le_pow_right (n := 2) (by decide) (show 31 ≤ j by omega))))
          simp [hj, hj2, this]
  rw [e, ntf_ok p hp]
end
