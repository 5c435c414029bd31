/-! THE LAW FROM ITS ENTRY -/
section
variable {sc : Sc}
theorem Zr_0 : Zr 0 Z32 Z64 [] := ⟨fun _ _ => rfl, fun _ _ => rfl, fun _ _ => rfl⟩
theorem law_start (hL : sc.1 ≤ 3584) : RR sc mL_law 30 600000 7302250 PL 0 0 0 [(0, .ref 1300)] [] (XV 0 Z32 Z64 (PA [])) := by
  have hz := Zr_0
  refine v_new (N' := 1) (k' := 1) (n' := 12) (ty0 := tyX11) rfl hz rfl rfl rfl (by decide) rfl (by decide) inq11 tyX11_ok nfd11 qL_7 inz11 iniRX11 (Nat.le_of_ble_eq_true rfl) (Nat.le_of_ble_eq_true rfl) dL_law_0 (fun hz => ?_)
  refine r_dup rfl dL_law_3 ?_
  refine v_cI0 (N' := 95) (k' := 95) (n' := 2487) (k_X11_init_0 hz) (Nat.le_of_ble_eq_true rfl) lL_9 miX11_init rfl rfl (Nat.le_of_ble_eq_true rfl) rfl rfl (Nat.le_of_ble_eq_true rfl) (Nat.le_of_ble_eq_true rfl) dL_law_4 ?_
  have hz := z_X11_init_0 hz
  refine w_astore_n (lv' := [(1, .ref 0), (0, .ref 1300)]) dL_law_7 rfl (Nat.le_of_ble_eq_true rfl) rfl ?_
  refine v_new (N' := 96) (k' := 96) (n' := 2581) (ty0 := tyX12) rfl hz rfl rfl rfl (by decide) rfl (by decide) inq12 tyX12_ok nfd12 qL_10 inz12 iniRX12 (Nat.le_of_ble_eq_true rfl) (Nat.le_of_ble_eq_true rfl) dL_law_8 (fun hz => ?_)
  refine r_dup rfl dL_law_11 ?_
  refine v_cI0 (N' := 151) (k' := 151) (n' := 4218) (k_X12_init_95 hz) (Nat.le_of_ble_eq_true rfl) lL_12 miX12_init rfl rfl (Nat.le_of_ble_eq_true rfl) rfl rfl (Nat.le_of_ble_eq_true rfl) (Nat.le_of_ble_eq_true rfl) dL_law_12 ?_
  have hz := z_X12_init_95 hz
  refine w_astore_n (lv' := [(2, .ref 95), (1, .ref 0), (0, .ref 1300)]) dL_law_15 rfl (Nat.le_of_ble_eq_true rfl) rfl ?_
  refine r_iconst (v := 0) rfl dL_law_16 ?_
  refine r_istore_n (lv' := fun z => [(3, .int z), (2, .ref 95), (1, .ref 0), (0, .ref 1300)]) dL_law_17 rfl (Nat.le_of_ble_eq_true rfl) (fun _ => rfl) (fun x3_17 ex3_17 => ?_)
  have h := law_go (sc := sc) hL 513 0 rfl IW LW 18 x3_17 Inv_0 (by rw [ex3_17]; rfl)
  rw [← XW_0] at h
  exact h
end
theorem K_at {s : State} {b : Nat} (hts : ∀ w ∈ lw_tbl, w.before #[Value.ref b] s = true) : ∃ (D : va_G) (ca : Nat → ClassId), va_K D vwCl (tyl ca) s := by
  have hg : ∀ w ∈ gtb, w.before #[Value.ref b] s = true := fun w hw => hts w (gtb_lw hw)
  obtain ⟨c0, i0, k0⟩ := u_known (C := RX0) (T := TX0) (N := 18) (n := 18) hg inq0 (hg _ inz0)
  obtain ⟨c1, i1, k1⟩ := u_known (C := RX1) (T := TX1) (N := 1) (n := 1) hg inq1 (hg _ inz1)
  obtain ⟨c2, i2, k2⟩ := u_known (C := RX2) (T := TX2) (N := 4) (n := 4) hg inq2 (hg _ inz2)
  obtain ⟨c3, i3, k3⟩ := u_known (C := RX3) (T := TX3) (N := 11) (n := 11) hg inq3 (hg _ inz3)
  obtain ⟨c4, i4, k4⟩ := u_known (C := RX4) (T := TX4) (N := 3) (n := 3) hg inq4 (hg _ inz4)
  obtain ⟨c5, i5, k5⟩ := u_known (C := RX5) (T := TX5) (N := 3) (n := 3) hg inq5 (hg _ inz5)
  obtain ⟨c6, i6, k6⟩ := u_known (C := RX6) (T := TX6) (N := 4) (n := 4) hg inq6 (hg _ inz6)
  obtain ⟨c7, i7, k7⟩ := u_known (C := RX7) (T := TX7) (N := 10) (n := 10) hg inq7 (hg _ inz7)
  obtain ⟨c8, i8, k8⟩ := u_known (C := RX8) (T := TX8) (N := 16) (n := 16) hg inq8 (hg _ inz8)
  obtain ⟨c9, i9, k9⟩ := u_known (C := RX9) (T := TX9) (N := 12) (n := 12) hg inq9 (hg _ inz9)
  obtain ⟨c10, i10, k10⟩ := u_known (C := RX10) (T := TX10) (N := 2) (n := 2) hg inq10 (hg _ inz10)
  obtain ⟨c11, i11, k11⟩ := u_known (C := RX11) (T := TX11) (N := 12) (n := 12) hg inq11 (hg _ inz11)
  obtain ⟨c12, i12, k12⟩ := u_known (C := RX12) (T := TX12) (N := 94) (n := 94) hg inq12 (hg _ inz12)
  obtain ⟨dC, dI, hKc⟩ : ∃ (dC : Nat → ClassId) (dI : Nat → Nat → Nat), ∀ (k : Nat) (q : vw_C), vwCl[k]? = some q → u_Kn s q.1 q.2.1 q.2.2 (dC k) (dI k) := by
    refine ⟨fun k => [c0, c1, c2, c3, c4, c5, c6, c7, c8, c9, c10, c11, c12].getD k c0, fun k => [i0, i1, i2, i3, i4, i5, i6, i7, i8, i9, i10, i11, i12].getD k i0, ?_⟩
    intro k q hq
    match k, hq with
    | 0, hq => cases hq; exact k0
    | 1, hq => cases hq; exact k1
    | 2, hq => cases hq; exact k2
    | 3, hq => cases hq; exact k3
    | 4, hq => cases hq; exact k4
    | 5, hq => cases hq; exact k5
    | 6, hq => cases hq; exact k6
    | 7, hq => cases hq; exact k7
    | 8, hq => cases hq; exact k8
    | 9, hq => cases hq; exact k9
    | 10, hq => cases hq; exact k10
    | 11, hq => cases hq; exact k11
    | 12, hq => cases hq; exact k12
    | k + 13, hq => simp [vwCl] at hq
  obtain ⟨a0, ka0, co0, x01, x02, x03⟩ := Cond.arrayClass_spec (hg _ arc_int)
  obtain ⟨a1, ka1, co1, x11, x12, x13⟩ := Cond.arrayClass_spec (hg _ arc_byte)
  obtain ⟨a2, ka2, co2, x21, x22, x23⟩ := Cond.arrayClass_spec (hg _ arc_boolean)
  obtain ⟨a3, ka3, co3, x31, x32, x33⟩ := Cond.arrayClass_spec (hg _ arc_long)
  obtain ⟨comp, a4, ka4, y1, -, y2, y3, y4⟩ := Cond.arrayOver_spec (hts _ tws_o)
  refine ⟨(dC, dI), fun k => [a0, a1, a2, a3, a4].getD k a0, hKc, fun k q hq => ?_⟩
  match k, hq with
  | 0, hq => cases hq; exact ⟨fun n z => ⟨fun k h => (by cases h), ka0, x02, co0, x03⟩, x01⟩
  | 1, hq => cases hq; exact ⟨fun n z => ⟨fun k h => (by cases h), ka1, x12, co1, x13⟩, x11⟩
  | 2, hq => cases hq; exact ⟨fun n z => ⟨fun k h => (by cases h), ka2, x22, co2, x23⟩, x21⟩
  | 3, hq => cases hq; exact ⟨fun n z => ⟨fun k h => (by cases h), ka3, x32, co3, x33⟩, x31⟩
  | 4, hq => cases hq; exact ⟨fun n z => ⟨fun k h => (by cases h), ka4, y2, comp, y3⟩, ka4, comp, y2, y3, y1, y4⟩
  | k + 5, hq => simp [tyl] at hq
theorem room_mono {s : State} {pl : Platform} {r r' : Room} (hf : r.frames ≤ r'.frames) (hl : r.locals ≤ r'.locals) (hc : r.cells ≤ r'.cells) (hs : r.slots ≤ r'.slots) (h : s.hasRoom pl r' = true) : s.hasRoom pl r = true := by
  simp only [State.hasRoom, Bool.and_eq_true, decide_eq_true_eq] at h ⊢
  obtain ⟨⟨⟨⟨y, a, b, c, d, e⟩, f⟩, g⟩, i⟩ := h
  exact ⟨⟨⟨⟨by omega, by omega, by omega, by omega, by omega, e⟩, by omega⟩, by omega⟩, i⟩
theorem fr_end {s : State} {o : Outcome} {t : State} {L : List Loc} {k n : Nat} (h : FrameEnd s o t L k n) (hL : ∀ q ∈ L, s.heap.size ≤ q.base) : Framed s o t [] k n := by
  obtain ⟨h1, h2, a1, a2, a3, a4, a5, a6⟩ := h
  refine ⟨h1, h2, a1, a2, a3, a4, a5, fun a c hc => ?_⟩
  obtain ⟨c', b1, b2, b3, b4⟩ := a6 a c hc
  exact ⟨c', b1, b2, b3, fun i _ => b4 i (fun hm => absurd (hL _ hm) (Nat.not_le.mpr (Array.getElem?_eq_some_iff.mp hc).1))⟩
