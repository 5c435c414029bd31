/-! the model reads a CAMP -/
section
variable {sc : Sc} {I C : Is} {L M : Ls} {tg : Nat}
/-- what the reading comes to -/
def prF (tg N n : Nat) (C : Is) (M : Ls) (I : Is) (L : Ls) : Int32 → Is → Ls → Nat → Prop := fun v J K' tq => tq = tg ∧ mfr I J ∧ mfrL L K' ∧ (v = 0 ∧ Flt N n C M J ∨ v = 1 ∧ (cM N n C M).1 = 1 ∧ (J 95 8 = 0 ∧ J 95 9 = -1) ∧ ∃ H G K, cBd (cM N n C M).2.1 H G K ∧ dA (cM N n C M).2.1 (cM N n C M).2.2 J K' H G K)
theorem mfrL_t {L1 L2 L3 : Ls} (h : mfrL L1 L2) (g : mfrL L2 L3) : mfrL L1 L3 := fun a ha => by rw [g a ha, h a ha]
/-- a clause that was read -/
def gcl (N n : Nat) (C : Is) (M : Ls) (H G K : Nat) (J : Is) (K' : Ls) : Prop := ∃ m C' M' p' k s, cQ N n C M m C' M' ∧ N - p' < m ∧ mSc J N p' ∧ Cst C C' M M' ∧ s = wdN k + nmN k + 1 ∧ Mq N C' p' k s H G K ∧ ∀ J2, mNx J J2 → dA (cE C' N p' k H G K) (mE C' M' N p' k H G K) J2 K' (if k = 0 then H + 1 else H) (if k = 1 then G + 1 else G) (if k = 4 then K + 1 else K)
theorem kwT_m {N p k H G K : Nat} (h : kwT M) : kwT (mE C M N p k H G K) := by
  intro j hj
  rw [← h j hj]
  unfold mE apL
  split
  · rw [up_n _ _ _ (by decide), tl_n _ _ (by decide)]
  · split
    · rw [up_n _ _ _ (by decide), tl_n _ _ (by decide)]
    · split
      · rw [up_n _ _ _ (by decide), tl_n _ _ (by decide)]
      · rw [tl_n _ _ (by decide)]
theorem cE_2 {N p k H G K : Nat} : cE C N p k H G K 2 = C 2 := by
  have f := (frI_t (ap_fr (I := tokI C N p) k H G K) (up_fr (a := 33) (k := 11) (v := 0) (by decide) (by omega))).1 2 (by omega)
  exact f.trans (tk_a _ _ (by decide))
theorem dA_t {N p H G K : Nat} (h : dA C M I L H G K) : dA (tokI C N p) (tokL C M N p) I L H G K := by
  obtain ⟨d1, d2, d3, d4, d5, d6, d7⟩ := h
  have cA : ∀ a, a ≠ 33 → tokI C N p a = C a := fun a h => tk_a _ _ h
  have mA : ∀ a, a ≠ 33 → tokL C M N p a = M a := fun a h => tl_n _ _ h
  exact ⟨dH_c d1 (cA _ (by decide)) (cA _ (by decide)) (cA _ (by decide)) (cA _ (by decide)) (mA _ (by decide)) rfl rfl rfl rfl rfl rfl, dG_c d2 (cA _ (by decide)) (cA _ (by decide)) (cA _ (by decide)) (mA _ (by decide)) rfl rfl rfl rfl rfl, dK_c d3 (cA _ (by decide)) (mA _ (by decide)) rfl rfl rfl, dS_c d4 (cA _ (by decide)) rfl rfl rfl, dT_c d5 (cA _ (by decide)) rfl, dR_c d6 (cA _ (by decide)) rfl rfl, by rw [cA 18 (by decide)]; exact d7⟩
theorem l_X12_readCamp {N : Nat} {Φ : Int32 → Is → Ls → Nat → Prop} : ∀ f n, n ≤ f → ∀ (C : Is) (M : Ls) (I : Is) (L : Ls) (p k0 H G K : Nat), Mq N C p k0 0 H G K → C 2 = mtp I → mSc I N p → N - p < n → kwT M → dA C M I L H G K → (∀ v J K' tq, prF tg N n C M I L v J K' tq → Φ v J K' tq) → RR sc mX12_readCamp 7 0 0 (gI Φ) 0 0 99 [(0, .ref 95)] [] (XW I L tg) := by
  intro f
  induction f with
  | zero => intro n h1 C M I L p k0 H G K hM ht hS hn; omega
  | succ f ih =>
    intro n h1 C M I L p k0 H G K hM ht hS hn hK hD hΦ
    have tail : ∀ v J K' tq, tq = tg ∧ mfr I J ∧ mfrL L K' ∧ (v = 0 ∧ Flt N n C M J ∨ v = 1 ∧ gcl N n C M H G K J K') → RR sc mX12_readCamp 7 0 0 (gI Φ) 0 0 190 [(0, .ref 95)] [.int v] (XW J K' tq) := by
      rintro v J K' tq ⟨rfl, r1, r2, hv⟩
      refine r_istore_n (lv' := fun z => [(1, .int z), (0, .ref 95)]) dX12_readCamp_190 rfl (Nat.le_of_ble_eq_true rfl) (fun _ => rfl) (fun x1_190 ex1_190 => ?_)
      refine r_iload_n (j := 0) rfl rfl dX12_readCamp_191 ?_
      refine r_if_ne (tgt := 197) dX12_readCamp_192 (by decide) (fun c192 => ?_) (fun c192 => ?_)
      · obtain ⟨m, C', M', p', k, s, q, hn', hS', cs, hs, hM', hD'⟩ : gcl N n C M H G K J K' := by
          rcases hv with ⟨h, _⟩ | ⟨_, h⟩
          · rw [ex1_190, h] at c192; exact absurd rfl c192
          · exact h
        have e96 : J 96 = I 96 := r1.1 96 (by omega)
        have em : mtp J = mtp I := by funext j; unfold mtp; rw [e96]
        have ht' : C' 2 = mtp J := by rw [cs.1 2 (by decide) (by decide), em]; exact ht
        obtain ⟨ef, et⟩ := end_s (M := M') hs hM' ht' hS' hn'
        refine r_aload_n (j := 1) rfl rfl dX12_readCamp_197 ?_
        refine w_getI fX12_27 rfl dX12_readCamp_198 ?_
        refine r_iconst (v := 3) rfl dX12_readCamp_201 ?_
        refine r_icmp_eq (tgt := 211) dX12_readCamp_202 (by decide) (fun c202 => ?_) (fun c202 => ?_)
        · obtain ⟨m2, p2, q2, hM2, hn2, h42, hp2⟩ := et c202
          have hB := mSc_B hS'
          refine r_aload_n (j := 1) rfl rfl dX12_readCamp_211 ?_
          refine w_cV0v (k_X12_scan (p := p2) hB.1 hB.2.1 hB.2.2.1 hp2 h42) (Nat.le_of_ble_eq_true rfl) lX12_59 vmX12_scan rfl (Nat.le_of_ble_eq_true rfl) (Nat.le_of_ble_eq_true rfl) (Nat.le_of_ble_eq_true rfl) dX12_readCamp_212 (fun J212 K212 hJ212 hK212 => ?_)
          subst hK212
          have s1 : spI J J212 := by rw [hJ212]; exact sp_sc _ _
          have S1 : mSc J212 N p2 := by rw [hJ212]; exact mB_sc hB hp2
          clear hJ212
          refine r_aload_n (j := 1) rfl rfl dX12_readCamp_215 ?_
          refine r_dup rfl dX12_readCamp_216 ?_
          refine w_getI fX12_174 rfl dX12_readCamp_217 ?_
          refine r_iconst (v := 1) rfl dX12_readCamp_220 ?_
          refine r_iadd dX12_readCamp_221 ?_
          refine w_putI fX12_174 rfl (rfl) (rfl) dX12_readCamp_222 (fun J222 hJ222 => ?_)
          refine r_goto (tgt := 99) dX12_readCamp_225 (by decide) ?_
          refine r_lvs [(0, .ref 95)] [1] rfl ?_
          have x : mNx J J222 := by
            refine ⟨fun a ha => ?_, fun k hk h19 => ?_, ?_⟩
            · rw [hJ222, up_n _ _ _ ha, s1.1 a ha]
            · rw [hJ222, up_s, vu_n _ _ h19, s1.2 k hk]
            · rw [hJ222, up_s, vu_s, s1.2 19 (by omega)]
          have S2 : mSc J222 N p2 := mSc_up S1 (by rw [hJ222, up_n _ _ _ (by decide)]) (fun k hk => by rw [hJ222, up_s, vu_n _ _ (by omega)])
          have q3 := q.trans q2
          have t2 : cE C' N p' k H G K 2 = mtp J222 := by
            rw [cE_2, ht']; funext j; unfold mtp; rw [x.1 96 (by decide)]
          have hK2 : kwT M' := fun j hj => by rw [cs.2 34 (by decide)]; exact hK j hj
          have r3 : mfr I J222 := mfr_t r1 ⟨fun a ha => x.1 a (by omega), fun k hk => x.2.1 k (by omega) (by omega)⟩
          refine ih m2 (by have := q3.2; omega) _ _ J222 K212 p2 k _ _ _ hM2 t2 S2 hn2 (kwT_m hK2) (hD' J222 x) (fun v9 J9 K9 t9 y => hΦ _ _ _ _ ?_)
          obtain ⟨y3, y4, y5, y6⟩ := y
          refine ⟨y3, mfr_t r3 y4, mfrL_t r2 y5, ?_⟩
          unfold Flt at *
          rw [q3.1]
          exact y6
        · refine r_aload_n (j := 1) rfl rfl dX12_readCamp_205 ?_
          refine r_iconst (v := 1) rfl dX12_readCamp_206 ?_
          refine w_cV1s (k_X12_bad) (Nat.le_of_ble_eq_true rfl) lX12_49 vmX12_bad rfl (Nat.le_of_ble_eq_true rfl) (Nat.le_of_ble_eq_true rfl) (Nat.le_of_ble_eq_true rfl) dX12_readCamp_207 (fun J207 K207 hJ207 hK207 => ?_)
          subst hK207
          refine w_iretG rfl (rfl) (Nat.le_of_ble_eq_true rfl) (Nat.le_of_ble_eq_true rfl) dX12_readCamp_210 ?_
          exact hΦ _ _ _ _ ⟨rfl, by rw [hJ207]; exact mfr_t r1 (mfr_sp (sp_bd _)), r2, Or.inl ⟨rfl, by rw [hJ207]; exact Flt_e q (ef c202)⟩⟩
      · refine r_iconst (v := 0) rfl dX12_readCamp_195 ?_
        refine w_iretG rfl (rfl) (Nat.le_of_ble_eq_true rfl) (Nat.le_of_ble_eq_true rfl) dX12_readCamp_196 ?_
        rw [ex1_190] at c192
        rcases hv with ⟨_, h⟩ | ⟨h, _⟩
        · exact hΦ _ _ _ _ ⟨rfl, r1, r2, Or.inl ⟨rfl, h⟩⟩
        · rw [h] at c192; exact absurd c192 (by decide)
    refine r_aload_n (j := 0) rfl rfl dX12_readCamp_99 ?_
    refine w_getI fX12_27 rfl dX12_readCamp_100 ?_
    refine r_if_eq (tgt := 228) dX12_readCamp_103 (by decide) (fun c103 => ?_) (fun c103 => ?_)
    · refine r_iconst (v := 1) rfl dX12_readCamp_228 ?_
      refine w_iretG rfl (rfl) (Nat.le_of_ble_eq_true rfl) (Nat.le_of_ble_eq_true rfl) dX12_readCamp_229 ?_
      have h4 : lxT (C 2) N (lxQ (C 2) N p) = 4 := by rw [ht]; exact mHd_0.mp (by rw [← hS.2.2.2.2.2.2.1]; exact c103)
      obtain ⟨n, rfl⟩ : ∃ m, n = m + 1 := ⟨n - 1, by omega⟩
      refine hΦ _ _ _ _ ⟨rfl, mfr_r, mfrL_r, Or.inr ⟨rfl, ?_, hS.2.2.2.2.2.2.2.2, H, G, K, ?_⟩⟩
      · rw [cM_0 hM h4]
      · rw [cM_0 hM h4]; exact ⟨(Mq_t hM).2.2.2.2.2.2.2.2.2.1, dA_t hD⟩
    · have h4c : ¬ lxT (mtp I) N (lxQ (mtp I) N p) = 4 := fun z => c103 (by rw [hS.2.2.2.2.2.2.1]; exact mHd_0.mpr z)
      obtain ⟨kw1, kw2⟩ := kw_is (C := C) hK ht hS
      have hTk := mSc_tk hS
      have hH5 : H ≤ 5 := hM.2.2.2.2.2.2.2.2.2.1.2.1
      refine r_aload_n (j := 0) rfl rfl dX12_readCamp_106 ?_
      refine r_ldcS oR_11 dX12_readCamp_107 ?_
      refine w_cV1p (k_X12_is (j := 11) (by decide) hTk) (Nat.le_of_ble_eq_true rfl) lX12_73 vmX12_is rfl (Nat.le_of_ble_eq_true rfl) (Nat.le_of_ble_eq_true rfl) (Nat.le_of_ble_eq_true rfl) dX12_readCamp_109 ?_
      refine r_if_eq (tgt := 122) dX12_readCamp_112 (by decide) (fun c112 => ?_) (fun c112 => ?_)
      · refine r_aload_n (j := 0) rfl rfl dX12_readCamp_122 ?_
        refine r_ldcS oR_12 dX12_readCamp_123 ?_
        refine w_cV1p (k_X12_is (j := 12) (by decide) hTk) (Nat.le_of_ble_eq_true rfl) lX12_73 vmX12_is rfl (Nat.le_of_ble_eq_true rfl) (Nat.le_of_ble_eq_true rfl) (Nat.le_of_ble_eq_true rfl) dX12_readCamp_125 ?_
        refine r_if_eq (tgt := 138) dX12_readCamp_128 (by decide) (fun c128 => ?_) (fun c128 => ?_)
        · refine r_aload_n (j := 0) rfl rfl dX12_readCamp_138 ?_
          refine r_ldcS oR_13 dX12_readCamp_139 ?_
          refine w_cV1p (k_X12_is (j := 13) (by decide) hTk) (Nat.le_of_ble_eq_true rfl) lX12_73 vmX12_is rfl (Nat.le_of_ble_eq_true rfl) (Nat.le_of_ble_eq_true rfl) (Nat.le_of_ble_eq_true rfl) dX12_readCamp_141 ?_
          refine r_if_eq (tgt := 154) dX12_readCamp_144 (by decide) (fun c144 => ?_) (fun c144 => ?_)
          · refine r_aload_n (j := 0) rfl rfl dX12_readCamp_154 ?_
            refine r_ldcS oR_14 dX12_readCamp_155 ?_
            refine w_cV1p (k_X12_is (j := 14) (by decide) hTk) (Nat.le_of_ble_eq_true rfl) lX12_73 vmX12_is rfl (Nat.le_of_ble_eq_true rfl) (Nat.le_of_ble_eq_true rfl) (Nat.le_of_ble_eq_true rfl) dX12_readCamp_157 ?_
            refine r_if_eq (tgt := 170) dX12_readCamp_160 (by decide) (fun c160 => ?_) (fun c160 => ?_)
            · refine r_aload_n (j := 0) rfl rfl dX12_readCamp_170 ?_
              refine r_ldcS oR_15 dX12_readCamp_171 ?_
              refine w_cV1p (k_X12_is (j := 15) (by decide) hTk) (Nat.le_of_ble_eq_true rfl) lX12_73 vmX12_is rfl (Nat.le_of_ble_eq_true rfl) (Nat.le_of_ble_eq_true rfl) (Nat.le_of_ble_eq_true rfl) dX12_readCamp_173 ?_
              refine r_if_eq (tgt := 186) dX12_readCamp_176 (by decide) (fun c176 => ?_) (fun c176 => ?_)
              · refine r_aload_n (j := 0) rfl rfl dX12_readCamp_186 ?_
                refine w_cV0g (k_X12_readSmall hM h4c ht hS hn hK (by intro k hk hz; rcases (show k = 0 ∨ k = 1 ∨ k = 2 ∨ k = 3 ∨ k = 4 by omega) with rfl | rfl | rfl | rfl | rfl; exact bI_0.mp c112 hz; exact bI_0.mp c128 hz; exact bI_0.mp c144 hz; exact bI_0.mp c160 hz; exact bI_0.mp c176 hz) hD.2.2.2.2.1) (Nat.le_of_ble_eq_true rfl) lX12_205 vmX12_readSmall rfl (Nat.le_of_ble_eq_true rfl) (Nat.le_of_ble_eq_true rfl) (Nat.le_of_ble_eq_true rfl) dX12_readCamp_187 (fun v187 J187 K187 t187 h187 => ?_)
                refine tail _ _ _ _ ⟨h187.1, h187.2.1, h187.2.2.1, ?_⟩
                rcases h187.2.2.2 with ⟨v0, g⟩ | ⟨v1, m, C', M', p', q, g1, g2, g3, g4⟩
                · exact Or.inl ⟨v0, g⟩
                · obtain ⟨rfl, ⟨w, w10, hMw, e22, hw9, hwn⟩, eA, eF⟩ := id g4
                  obtain ⟨k1, k2, k3, k4⟩ := kwO_r w10
                  refine Or.inr ⟨v1, m, C', M', p', kwO w, _, q, g1, g2, g3, by rw [k4, Nat.zero_add], hMw, fun J2 x => ?_⟩
                  rw [if_neg (by omega), if_neg (by omega), if_neg (by omega)]
                  exact D_small hD g3 x rfl w10 e22 hw9 hwn eA eF
              · refine r_aload_n (j := 0) rfl rfl dX12_readCamp_179 ?_
                refine w_cV0g (k_X12_readLook hM h4c ht hS hn (kw1 4 (by decide) (bI_1.mp c176)) hD.2.2.1) (Nat.le_of_ble_eq_true rfl) lX12_202 vmX12_readLook rfl (Nat.le_of_ble_eq_true rfl) (Nat.le_of_ble_eq_true rfl) (Nat.le_of_ble_eq_true rfl) dX12_readCamp_180 (fun v180 J180 K180 t180 h180 => ?_)
                refine r_goto (tgt := 190) dX12_readCamp_183 (by decide) ?_
                refine tail _ _ _ _ ⟨h180.1, h180.2.1, h180.2.2.1, ?_⟩
                rcases h180.2.2.2 with ⟨v0, g⟩ | ⟨v1, m, C', M', p', q, g1, g2, g3, g4⟩
                · exact Or.inl ⟨v0, g⟩
                · exact Or.inr ⟨v1, m, C', M', p', 4, _, q, g1, g2, g3, rfl, g4.1, fun J2 x => D_look hD g3 g4 x⟩
            · refine r_aload_n (j := 0) rfl rfl dX12_readCamp_163 ?_
              refine w_cV0g (k_X12_readRun hM h4c ht hS hn (kw1 3 (by decide) (bI_1.mp c160)) hD.1 hD.2.2.2.2.2.1) (Nat.le_of_ble_eq_true rfl) lX12_198 vmX12_readRun rfl (Nat.le_of_ble_eq_true rfl) (Nat.le_of_ble_eq_true rfl) (Nat.le_of_ble_eq_true rfl) dX12_readCamp_164 (fun v164 J164 K164 t164 h164 => ?_)
              refine r_goto (tgt := 190) dX12_readCamp_167 (by decide) ?_
              refine tail _ _ _ _ ⟨h164.1, h164.2.1, h164.2.2.1, ?_⟩
              rcases h164.2.2.2 with ⟨v0, g⟩ | ⟨v1, m, C', M', p', q, g1, g2, g3, g4⟩
              · exact Or.inl ⟨v0, g⟩
              · exact Or.inr ⟨v1, m, C', M', p', 3, _, q, g1, g2, g3, rfl, g4.1, fun J2 x => D_run hH5 hD g3 g4 x⟩
          · refine r_aload_n (j := 0) rfl rfl dX12_readCamp_147 ?_
            refine w_cV0g (k_X12_readCount hM h4c ht hS hn (kw1 2 (by decide) (bI_1.mp c144)) hD.1) (Nat.le_of_ble_eq_true rfl) lX12_193 vmX12_readCount rfl (Nat.le_of_ble_eq_true rfl) (Nat.le_of_ble_eq_true rfl) (Nat.le_of_ble_eq_true rfl) dX12_readCamp_148 (fun v148 J148 K148 t148 h148 => ?_)
            refine r_goto (tgt := 190) dX12_readCamp_151 (by decide) ?_
            refine tail _ _ _ _ ⟨h148.1, h148.2.1, h148.2.2.1, ?_⟩
            rcases h148.2.2.2 with ⟨v0, g⟩ | ⟨v1, m, C', M', p', q, g1, g2, g3, g4⟩
            · exact Or.inl ⟨v0, g⟩
            · exact Or.inr ⟨v1, m, C', M', p', 2, _, q, g1, g2, g3, rfl, g4.1, fun J2 x => D_count hH5 hD g3 g4 x⟩
        · refine r_aload_n (j := 0) rfl rfl dX12_readCamp_131 ?_
          refine w_cV0g (k_X12_readGarden hM h4c ht hS hn (kw1 1 (by decide) (bI_1.mp c128)) hD.2.1) (Nat.le_of_ble_eq_true rfl) lX12_188 vmX12_readGarden rfl (Nat.le_of_ble_eq_true rfl) (Nat.le_of_ble_eq_true rfl) (Nat.le_of_ble_eq_true rfl) dX12_readCamp_132 (fun v132 J132 K132 t132 h132 => ?_)
          refine r_goto (tgt := 190) dX12_readCamp_135 (by decide) ?_
          refine tail _ _ _ _ ⟨h132.1, h132.2.1, h132.2.2.1, ?_⟩
          rcases h132.2.2.2 with ⟨v0, g⟩ | ⟨v1, m, C', M', p', q, g1, g2, g3, g4⟩
          · exact Or.inl ⟨v0, g⟩
          · exact Or.inr ⟨v1, m, C', M', p', 1, _, q, g1, g2, g3, rfl, g4.1, fun J2 x => D_garden hD g3 g4 x⟩
      · refine r_aload_n (j := 0) rfl rfl dX12_readCamp_115 ?_
        refine w_cV0g (k_X12_readHut hM h4c ht hS hn (kw1 0 (by decide) (bI_1.mp c112)) hD.1) (Nat.le_of_ble_eq_true rfl) lX12_182 vmX12_readHut rfl (Nat.le_of_ble_eq_true rfl) (Nat.le_of_ble_eq_true rfl) (Nat.le_of_ble_eq_true rfl) dX12_readCamp_116 (fun v116 J116 K116 t116 h116 => ?_)
        refine r_goto (tgt := 190) dX12_readCamp_119 (by decide) ?_
        refine tail _ _ _ _ ⟨h116.1, h116.2.1, h116.2.2.1, ?_⟩
        rcases h116.2.2.2 with ⟨v0, g⟩ | ⟨v1, m, C', M', p', q, g1, g2, g3, g4⟩
        · exact Or.inl ⟨v0, g⟩
        · exact Or.inr ⟨v1, m, C', M', p', 0, _, q, g1, g2, g3, rfl, g4.1, fun J2 x => D_hut hD g3 g4 x⟩
end
