/-! steps: runners, wrong -/
section
variable {sc : Sc} {I J : Is} {L K : Ls} {tg : Nat}
theorem sdC_cg {J J' : Is} (h5 : J' 105 = J 105) (h3 : J' 130 = J 130) : ∀ n, sdC J' n = sdC J n := by
  intro n
  induction n with
  | zero => rfl
  | succ n ih => rw [sdC, sdC, ih]; unfold tnI; rw [h5, h3]
/-- the counts of both -/
theorem cpl_i {n : Nat} (h : Inv n I L) : ∃ H, (I 3 14 = nI H ∧ H ≤ 5) ∧ ∀ J : Is, (∀ q, q = 104 ∨ q = 105 ∨ q = 106 ∨ q = 130 → J q = I q) → (J 95 10 = I 95 10 → gnOk J H) ∧ (∀ k, k < H → J 105 k = I 10 k) ∧ ∀ mi, (∀ k, k < H → (mi k = -1 ↔ J 105 k = -1) ∧ (¬ J 105 k = -1 → J 131 k = mi k)) → cplC I J mi H := by
  obtain ⟨H, G, K, ⟨h5, _⟩, ⟨a1, _⟩, ⟨b1, _⟩, _, _, hr, d, _⟩ := cm_x h.2.2.1
  obtain ⟨g1, g2⟩ := h.2.2.2.2.1
  have nH : nN (I 3 14) = H := by rw [a1]; exact nI_clamp (by omega)
  refine ⟨H, ⟨a1, h5⟩, fun J hJ => ⟨fun e => ⟨h5, by rw [e]; exact b1, fun k hk => ?_, fun k hk => ?_⟩, fun k hk => ?_, fun mi hm => ⟨h5, fun k hk => ?_, fun k o hk ho => ?_⟩⟩⟩
  · obtain ⟨x1, x2, x3⟩ := g1 k (by omega)
    obtain ⟨_, _, y3, _, _, _, _, _, y9, y10, _⟩ := d k hk
    rw [hJ 130 (by omega), ← x1]
    omega
  · obtain ⟨x1, x2, x3⟩ := g1 k (by omega)
    obtain ⟨_, _, y3, _, _, _, _, _, y9, y10, _⟩ := d k hk
    rw [hJ 130 (by omega), hJ 104 (by omega), ← x1, y3, i_sub (by omega) (by omega)]
    omega
  · rw [hJ 105 (by omega)]; exact (d k hk).2.2.2.1
  · obtain ⟨x1, x2, x3⟩ := g1 k (by omega)
    obtain ⟨_, _, y3, _, _, _, _, _, y9, y10, _⟩ := d k hk
    exact ⟨by rw [hJ 104 (by omega)]; exact y3, by rw [hJ 130 (by omega)]; exact x1.symm, (hm k hk).1, (hm k hk).2, x2, x3, y10⟩
  · rw [hJ 106 (by omega), (hr (5 * k + o) (by omega)).1 (by omega)]
    unfold mbt
    have ei : (nI k * 5 + nI o).toNatClampNeg = 5 * k + o := by rw [Int32.mul_comm, show (5 : Int32) = nI 5 from rfl, pk_mul, nI_add, nI_clamp (by omega)]
    rw [ei]
    by_cases z : k = o
    · rw [if_pos (show (5 * k + o) / 5 = (5 * k + o) % 5 by omega), if_pos (show nI k = nI o by rw [z])]
    · rw [if_neg (show ¬ (5 * k + o) / 5 = (5 * k + o) % 5 by omega), if_neg (show ¬ nI k = nI o from fun q => z ((nI_ij (by omega) (by omega)).mp q))]
theorem SB_n {S : List Nat} {I J : Is} (h : SB S I J) {q : Nat} (hq : q ∉ S) : J q = I q := h q hq
theorem st_runners {n : Nat} (h : Inv n I L) : Bth sc mX11_runners mX12_runners 5 18 [] n I L tg := by
  obtain ⟨H, ⟨a1, h5⟩, c⟩ := cpl_i h
  have iH : (I 3 14).toInt = H := by rw [a1, nI_toInt (by omega)]
  refine Run_g (k_X11_runners (NH := H) iH h5) (fun v J K tq hu => ?_)
  obtain ⟨rfl, hs, rfl, rfl⟩ := hu
  have jn : ∀ q, ¬ (65 ≤ q ∧ q ≤ 67) → ¬ (70 ≤ q ∧ q ≤ 72) → J q = I q := fun q z1 z2 => hs q (by simp; omega)
  obtain ⟨c1, c2, _⟩ := c J (fun q hq => jn q (by omega) (by omega))
  refine Run_g (k_X12_runners (NH := H) (c1 (by rw [jn 95 (by omega) (by omega)]))) (fun v' J' K' tq' hv => ?_)
  obtain ⟨rfl, _, s2, s3, s4⟩ := hv
  have kn : ∀ q, q ≠ 95 → ¬ (131 ≤ q ∧ q ≤ 136) → J' q = J q := fun q z1 z2 => s2 q (by simp; omega)
  refine ⟨?_, Inv_c (Nat.le_succ n) h (fun a ha => by unfold scr at ha; rw [kn a (by omega) (by omega), jn a (by omega) (by omega)]) (fun k _ => by rw [kn 33 (by omega) (by omega), jn 33 (by omega) (by omega)]) (fun k hk => by unfold scf at hk; rw [s3 k (by omega), jn 95 (by omega) (by omega)]) keL_r⟩
  have aq : ∀ q, q ≠ 131 → atI J H q = J q := fun q hq => by unfold atI; rw [upr_n _ _ hq]
  have a131 : ∀ k, k < H → atI J H 131 k = J 105 k := fun k hk => by unfold atI; rw [upr_s]; exact if_pos hk
  obtain ⟨_, _, c3⟩ := c (atI J H) (fun q hq => by rw [aq q (by omega), jn q (by omega) (by omega)])
  have sd : sdC (atI J H) H = sdC J H := sdC_cg (aq 105 (by decide)) (aq 130 (by decide)) H
  have ms := ms_i (c3 (I 10) (fun k hk => ⟨by rw [aq 105 (by decide), c2 k hk], fun _ => by rw [a131 k hk, c2 k hk]⟩))
  rw [sd] at ms
  have mt : (msS I H).toInt = sdC J H := by rw [ms.1, nI_toInt (by omega)]
  rcases s4 with ⟨z1, z2⟩ | ⟨z1, z2⟩
  · rw [z2, if_pos (by omega)]
  · rw [if_neg (by omega)]
    have mi : ∀ k, k < H → va_cpy (I 10) (I 70) 0 0 5 k = I 10 k := fun k hk => by
      unfold va_cpy
      rw [if_pos (by omega)]
      congr 1
      omega
    have hC := c3 (va_cpy (I 10) (I 70) 0 0 5) (fun k hk => ⟨by rw [aq 105 (by decide), c2 k hk, mi k hk], fun _ => by rw [a131 k hk, c2 k hk, mi k hk]⟩)
    obtain ⟨r1, r2⟩ := right_i hC (by rw [sd]; exact z1) z2
    rw [sd] at r1 r2
    unfold rtB at r1
    rw [decide_eq_true_iff] at r1
    unfold frV mi0
    rw [ms.1]
    by_cases y : v' = -1
    · rw [if_neg (fun w => r1.mp w y)]; exact y
    · rw [if_pos (r1.mpr y)]; exact r2 y
theorem clN_cg {m m' : Nat → Int32} : ∀ n, (∀ k, k < n → m k = m' k) → clN m n = clN m' n := by
  intro n
  induction n with
  | zero => intro _; rfl
  | succ n ih => intro h; rw [clN, clN, ih (fun k hk => h k (by omega)), h n (by omega)]
theorem clC_cg {m m' : Nat → Int32} : ∀ n, (∀ k, k < n → m k = m' k) → clC m n = clC m' n := by
  intro n
  induction n with
  | zero => intro _; rfl
  | succ n ih => intro h; rw [clC, clC, ih (fun k hk => h k (by omega)), h n (by omega), clN_cg n (fun k hk => h k (by omega))]
theorem clC_l2 {m : Nat → Int32} : ∀ n l, clC m (n + 1) l < n + 1 := by
  intro n
  induction n with
  | zero =>
    intro l
    rw [clC]
    split
    · exact Nat.lt_succ_self _
    · show (if l = clN m 0 then 0 else clC m 0 l) < 1
      split
      · decide
      · exact Nat.lt_succ_self _
  | succ n ih =>
    intro l
    rw [clC]
    split
    · have := ih l; omega
    · show (if l = clN m (n + 1) then n + 1 else clC m (n + 1) l) < n + 1 + 1
      split
      · omega
      · have := ih l; omega
theorem mik_cg {m m' : Nat → Int32} {H k : Nat} (h : ∀ k, k < H → m k = m' k) : ∀ j, j < H → mik m H k j = mik m' H k j := by
  intro j hj
  obtain ⟨n, rfl⟩ : ∃ n, H = n + 1 := ⟨H - 1, by omega⟩
  rw [mik_L, mik_L]
  unfold mLs
  rw [clN_cg (n + 1) h, clC_cg (n + 1) h, h j hj, clN_cg j (fun k hk => h k (by omega)), h _ (clC_l2 n _)]
theorem wor_c2 {p q : Nat → Bool} : ∀ n, (∀ g, g < n → p g = q g) → wor p n = wor q n := by
  intro n
  induction n with
  | zero => intro _; rfl
  | succ n ih => intro h; rw [wor, wor, ih (fun g hg => h g (by omega)), h n (by omega)]
theorem rtB_cg {H : Nat} {nd : Int32} {m m' : Nat → Int32} (h : ∀ k, k < H → m k = m' k) : rtB I H nd m = rtB I H nd m' := by
  unfold rtB
  have e : grt (crJ (upr I 70 m) H H) = grt (crJ (upr I 70 m') H H) := by
    have n5 : ∀ (mm : Nat → Int32) q, q ≠ 70 → upr I 70 mm q = I q := fun mm q hq => upr_n _ _ hq
    refine grt_cg (fun i hi => ?_) (fun i hi => ?_) (fun i hi => ?_)
    · unfold crJ W3
      show prf (cfF (upr I 70 m)) H (fillr (upr I 70 m 65) 5 0) i = prf (cfF (upr I 70 m')) H (fillr (upr I 70 m' 65) 5 0) i
      rw [n5 m 65 (by decide), n5 m' 65 (by decide)]
      unfold prf
      by_cases z : i < H
      · rw [if_pos z, if_pos z]; unfold cfF; rw [upr_s, upr_s, n5 m 9 (by decide), n5 m' 9 (by decide), h i z]
      · rw [if_neg z, if_neg z]
    · unfold crJ W3
      show prf (cfT (upr I 70 m)) H (fillr (upr I 70 m 66) 5 0) i = prf (cfT (upr I 70 m')) H (fillr (upr I 70 m' 66) 5 0) i
      rw [n5 m 66 (by decide), n5 m' 66 (by decide)]
      unfold prf
      by_cases z : i < H
      · rw [if_pos z, if_pos z]; unfold cfT; rw [upr_s, upr_s, n5 m 69 (by decide), n5 m' 69 (by decide), h i z]
      · rw [if_neg z, if_neg z]
    · unfold crJ W3
      show prf (cfW (upr I 70 m) H) H (fillr (upr I 70 m 67) 5 0) i = prf (cfW (upr I 70 m') H) H (fillr (upr I 70 m' 67) 5 0) i
      rw [n5 m 67 (by decide), n5 m' 67 (by decide)]
      unfold prf
      by_cases z : i < H
      · rw [if_pos z, if_pos z]
        unfold cfW
        rw [upr_s, upr_s, n5 m 11 (by decide), n5 m' 11 (by decide), h i z]
        rw [wor_c2 (p := cwP (I 11) m i) (q := cwP (I 11) m' i) H (fun g hg => by unfold cwP ltr; rw [h i z, h g hg])]
      · rw [if_neg z, if_neg z]
  rw [e]
theorem sm_smN {b : Nat → Bool} : ∀ n, nI (smN (fun k => (!(b k)).toNat) n) = sm (fun k => if b k then (0 : Int32) else 1) n := by
  intro n
  induction n with
  | zero => rfl
  | succ n ih =>
    rw [sm, ← ih]
    show nI (smN (fun k => (!(b k)).toNat) n + (!(b n)).toNat) = _
    rw [← nI_add]
    cases b n <;> rfl
theorem st_wrong {n : Nat} (h : Inv n I L) : Bth sc mX11_wrong mX12_wrong 5 24 [] n I L tg := by
  obtain ⟨H, ⟨a1, h5⟩, c⟩ := cpl_i h
  have iH : (I 3 14).toInt = H := by rw [a1, nI_toInt (by omega)]
  refine Run_g (k_X11_wrong (NH := H) iH h5) (fun v J K tq hu => ?_)
  obtain ⟨rfl, hs, rfl, rfl⟩ := hu
  have jn : ∀ q, ¬ (65 ≤ q ∧ q ≤ 67) → ¬ (70 ≤ q ∧ q ≤ 72) → J q = I q := fun q z1 z2 => hs q (by simp; omega)
  obtain ⟨c1, c2, _⟩ := c J (fun q hq => jn q (by omega) (by omega))
  have aq : ∀ q, q ≠ 131 → atI J H q = J q := fun q hq => by unfold atI; rw [upr_n _ _ hq]
  have a131 : ∀ k, k < H → atI J H 131 k = J 105 k := fun k hk => by unfold atI; rw [upr_s]; exact if_pos hk
  obtain ⟨_, _, c3⟩ := c (atI J H) (fun q hq => by rw [aq q (by omega), jn q (by omega) (by omega)])
  have sd : sdC (atI J H) H = sdC J H := sdC_cg (aq 105 (by decide)) (aq 130 (by decide)) H
  have ms := ms_i (c3 (I 10) (fun k hk => ⟨by rw [aq 105 (by decide), c2 k hk], fun _ => by rw [a131 k hk, c2 k hk]⟩))
  rw [sd] at ms
  have mt : (msS I H).toInt = sdC J H := by rw [ms.1, nI_toInt (by omega)]
  have hW : sdC J H ≤ 10 → wOk (fun mi => !(rtB I H (nI (sdC J H)) mi)) J H := by
    intro h10 Q v gS g131 hv
    have qn : ∀ q, q = 104 ∨ q = 105 ∨ q = 106 ∨ q = 130 → Q q = I q := fun q hq => by rw [gS.1 q (by simp; omega), jn q (by omega) (by omega)]
    have sq : sdC Q H = sdC J H := sdC_cg (gS.1 105 (by simp)) (gS.1 130 (by simp)) H
    have q105 : Q 105 = J 105 := gS.1 105 (by simp)
    obtain ⟨_, _, c4⟩ := c Q qn
    have hC := c4 (miA (J 105) H (Q 131)) (fun k hk => by
      unfold miA
      rw [q105]
      by_cases z : J 105 k = -1
      · rw [if_neg (fun y => y.2 z)]
        exact ⟨⟨fun _ => z, fun _ => rfl⟩, fun y => absurd z y⟩
      · rw [if_pos ⟨hk, z⟩]
        exact ⟨⟨fun y => absurd y (g131 k hk z), fun y => absurd y z⟩, fun _ => rfl⟩)
    obtain ⟨r1, _⟩ := right_i hC (by rw [sq]; exact h10) hv
    rw [sq] at r1
    show v = -1 ↔ (!(rtB I H (nI (sdC J H)) (miA (J 105) H (Q 131)))) = true
    rw [Bool.not_eq_true', ← Bool.not_eq_true, r1]
    exact Decidable.not_not.symm
  refine Run_g (k_X12_wrong (NH := H) (c1 (by rw [jn 95 (by omega) (by omega)])) hW) (fun v' J' K' tq' hv => ?_)
  obtain ⟨rfl, _, s2, s3, s4⟩ := hv
  have kn : ∀ q, q ≠ 95 → ¬ (131 ≤ q ∧ q ≤ 136) → J' q = J q := fun q z1 z2 => s2 q (by simp; omega)
  refine ⟨?_, Inv_c (Nat.le_succ n) h (fun a ha => by unfold scr at ha; rw [kn a (by omega) (by omega), jn a (by omega) (by omega)]) (fun k _ => by rw [kn 33 (by omega) (by omega), jn 33 (by omega) (by omega)]) (fun k hk => by unfold scf at hk; rw [s3 k (by omega) (by omega), jn 95 (by omega) (by omega)]) keL_r⟩
  rcases s4 with ⟨z1, z2⟩ | ⟨z1, z2⟩
  · rw [z2, if_pos (by omega)]
  · rw [if_neg (by omega), z2, ow_all h5, ms.1, clN_cg H c2]
    unfold wrN
    rw [← sm_smN]
    have e : smN (fun k => (!(rtB I H (nI (sdC J H)) (mik (J 105) H k))).toNat) (fac (clN (I 10) H)) = smN (fun k => (!(rtB I H (nI (sdC J H)) (mik (I 10) H k))).toNat) (fac (clN (I 10) H)) := smN_cg _ (fun k hk => by
      show (!(rtB I H (nI (sdC J H)) (mik (J 105) H k))).toNat = (!(rtB I H (nI (sdC J H)) (mik (I 10) H k))).toNat
      rw [rtB_cg (mik_cg c2)])
    exact congrArg nI e
end
