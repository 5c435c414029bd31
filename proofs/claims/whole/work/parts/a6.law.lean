/-! THE LAW: its cases -/
def mL_law : Mu := (yL_law, cL_law, 4, some .boolean)
def PL : Po := (false, fun r _ => r = some (.int 1))
section
variable {sc : Sc} {μ μ' : Mu} {d d' mc ms idx ci b k n pc : Nat} {post : Po} {lv : List (Nat × Value)} {st : List Value} {I : Is} {L : Ls} {tg : Nat} {Φ : Int32 → Is → Ls → Nat → Prop}
theorem w_run0 (hc : Run sc μ' d' (.ref b :: []) (XW I L tg) Φ) (hdd : d' + 1 ≤ d) (hcl : CL μ.1.cls idx μ' 0) (hvm : VM μ' ci) (hsh : SHW b = (ci, 0)) (hs : (st.map fun v => v.category).sum ≤ 8) (hk : k ≤ mc) (hn : n ≤ ms) (hd : decode μ.2.1 pc = .ok (.invokevirtual idx, 3)) (hok : lv.all (fun q => okw NW q.2) = true ∧ st.all (okw NW) = true) (hp : post.1 = false) (kk : ∀ v J K tq, Φ v J K tq → RR sc μ d mc ms post k n (pc + 3) lv (.int v :: st) (XW J K tq)) : RR sc μ d mc ms post k n pc lv (.ref b :: st) (XW I L tg) := by
  obtain ⟨h1, h2, h5, T, N, h3⟩ := hvm
  obtain ⟨po, hC, hP⟩ := hc
  refine r_callV (As := []) hC hdd hcl h1 h2 hsh (SHW_lt hsh (by omega)) h3 h5 hs hk hn hd (Or.inr ⟨hp, hok⟩) (fun r Y z => ?_)
  obtain ⟨v, J, K, tq, rfl, rfl, h⟩ := hP r Y z
  exact kk v J K tq h
theorem w_run1 {a1 : Value} (hc : Run sc μ' d' (.ref b :: [a1]) (XW I L tg) Φ) (hdd : d' + 1 ≤ d) (hcl : CL μ.1.cls idx μ' 1) (hvm : VM μ' ci) (hsh : SHW b = (ci, 0)) (hs : (st.map fun v => v.category).sum ≤ 8) (hk : k ≤ mc) (hn : n ≤ ms) (hd : decode μ.2.1 pc = .ok (.invokevirtual idx, 3)) (hok : lv.all (fun q => okw NW q.2) = true ∧ st.all (okw NW) = true) (hp : post.1 = false) (kk : ∀ v J K tq, Φ v J K tq → RR sc μ d mc ms post k n (pc + 3) lv (.int v :: st) (XW J K tq)) : RR sc μ d mc ms post k n pc lv (a1 :: .ref b :: st) (XW I L tg) := by
  obtain ⟨h1, h2, h5, T, N, h3⟩ := hvm
  obtain ⟨po, hC, hP⟩ := hc
  refine r_callV (As := [a1]) hC hdd hcl h1 h2 hsh (SHW_lt hsh (by omega)) h3 h5 hs hk hn hd (Or.inr ⟨hp, hok⟩) (fun r Y z => ?_)
  obtain ⟨v, J, K, tq, rfl, rfl, h⟩ := hP r Y z
  exact kk v J K tq h
theorem w_run2 {a1 a2 : Value} (hc : Run sc μ' d' (.ref b :: [a1, a2]) (XW I L tg) Φ) (hdd : d' + 1 ≤ d) (hcl : CL μ.1.cls idx μ' 2) (hvm : VM μ' ci) (hsh : SHW b = (ci, 0)) (hs : (st.map fun v => v.category).sum ≤ 8) (hk : k ≤ mc) (hn : n ≤ ms) (hd : decode μ.2.1 pc = .ok (.invokevirtual idx, 3)) (hok : lv.all (fun q => okw NW q.2) = true ∧ st.all (okw NW) = true) (hp : post.1 = false) (kk : ∀ v J K tq, Φ v J K tq → RR sc μ d mc ms post k n (pc + 3) lv (.int v :: st) (XW J K tq)) : RR sc μ d mc ms post k n pc lv (a2 :: a1 :: .ref b :: st) (XW I L tg) := by
  obtain ⟨h1, h2, h5, T, N, h3⟩ := hvm
  obtain ⟨po, hC, hP⟩ := hc
  refine r_callV (As := [a1, a2]) hC hdd hcl h1 h2 hsh (SHW_lt hsh (by omega)) h3 h5 hs hk hn hd (Or.inr ⟨hp, hok⟩) (fun r Y z => ?_)
  obtain ⟨v, J, K, tq, rfl, rfl, h⟩ := hP r Y z
  exact kk v J K tq h
theorem w_run3 {a1 a2 a3 : Value} (hc : Run sc μ' d' (.ref b :: [a1, a2, a3]) (XW I L tg) Φ) (hdd : d' + 1 ≤ d) (hcl : CL μ.1.cls idx μ' 3) (hvm : VM μ' ci) (hsh : SHW b = (ci, 0)) (hs : (st.map fun v => v.category).sum ≤ 8) (hk : k ≤ mc) (hn : n ≤ ms) (hd : decode μ.2.1 pc = .ok (.invokevirtual idx, 3)) (hok : lv.all (fun q => okw NW q.2) = true ∧ st.all (okw NW) = true) (hp : post.1 = false) (kk : ∀ v J K tq, Φ v J K tq → RR sc μ d mc ms post k n (pc + 3) lv (.int v :: st) (XW J K tq)) : RR sc μ d mc ms post k n pc lv (a3 :: a2 :: a1 :: .ref b :: st) (XW I L tg) := by
  obtain ⟨h1, h2, h5, T, N, h3⟩ := hvm
  obtain ⟨po, hC, hP⟩ := hc
  refine r_callV (As := [a1, a2, a3]) hC hdd hcl h1 h2 hsh (SHW_lt hsh (by omega)) h3 h5 hs hk hn hd (Or.inr ⟨hp, hok⟩) (fun r Y z => ?_)
  obtain ⟨v, J, K, tq, rfl, rfl, h⟩ := hP r Y z
  exact kk v J K tq h
theorem w_run4 {a1 a2 a3 a4 : Value} (hc : Run sc μ' d' (.ref b :: [a1, a2, a3, a4]) (XW I L tg) Φ) (hdd : d' + 1 ≤ d) (hcl : CL μ.1.cls idx μ' 4) (hvm : VM μ' ci) (hsh : SHW b = (ci, 0)) (hs : (st.map fun v => v.category).sum ≤ 8) (hk : k ≤ mc) (hn : n ≤ ms) (hd : decode μ.2.1 pc = .ok (.invokevirtual idx, 3)) (hok : lv.all (fun q => okw NW q.2) = true ∧ st.all (okw NW) = true) (hp : post.1 = false) (kk : ∀ v J K tq, Φ v J K tq → RR sc μ d mc ms post k n (pc + 3) lv (.int v :: st) (XW J K tq)) : RR sc μ d mc ms post k n pc lv (a4 :: a3 :: a2 :: a1 :: .ref b :: st) (XW I L tg) := by
  obtain ⟨h1, h2, h5, T, N, h3⟩ := hvm
  obtain ⟨po, hC, hP⟩ := hc
  refine r_callV (As := [a1, a2, a3, a4]) hC hdd hcl h1 h2 hsh (SHW_lt hsh (by omega)) h3 h5 hs hk hn hd (Or.inr ⟨hp, hok⟩) (fun r Y z => ?_)
  obtain ⟨v, J, K, tq, rfl, rfl, h⟩ := hP r Y z
  exact kk v J K tq h
theorem w_run5 {a1 a2 a3 a4 a5 : Value} (hc : Run sc μ' d' (.ref b :: [a1, a2, a3, a4, a5]) (XW I L tg) Φ) (hdd : d' + 1 ≤ d) (hcl : CL μ.1.cls idx μ' 5) (hvm : VM μ' ci) (hsh : SHW b = (ci, 0)) (hs : (st.map fun v => v.category).sum ≤ 8) (hk : k ≤ mc) (hn : n ≤ ms) (hd : decode μ.2.1 pc = .ok (.invokevirtual idx, 3)) (hok : lv.all (fun q => okw NW q.2) = true ∧ st.all (okw NW) = true) (hp : post.1 = false) (kk : ∀ v J K tq, Φ v J K tq → RR sc μ d mc ms post k n (pc + 3) lv (.int v :: st) (XW J K tq)) : RR sc μ d mc ms post k n pc lv (a5 :: a4 :: a3 :: a2 :: a1 :: .ref b :: st) (XW I L tg) := by
  obtain ⟨h1, h2, h5, T, N, h3⟩ := hvm
  obtain ⟨po, hC, hP⟩ := hc
  refine r_callV (As := [a1, a2, a3, a4, a5]) hC hdd hcl h1 h2 hsh (SHW_lt hsh (by omega)) h3 h5 hs hk hn hd (Or.inr ⟨hp, hok⟩) (fun r Y z => ?_)
  obtain ⟨v, J, K, tq, rfl, rfl, h⟩ := hP r Y z
  exact kk v J K tq h
theorem w_run6 {a1 a2 a3 a4 a5 a6 : Value} (hc : Run sc μ' d' (.ref b :: [a1, a2, a3, a4, a5, a6]) (XW I L tg) Φ) (hdd : d' + 1 ≤ d) (hcl : CL μ.1.cls idx μ' 6) (hvm : VM μ' ci) (hsh : SHW b = (ci, 0)) (hs : (st.map fun v => v.category).sum ≤ 8) (hk : k ≤ mc) (hn : n ≤ ms) (hd : decode μ.2.1 pc = .ok (.invokevirtual idx, 3)) (hok : lv.all (fun q => okw NW q.2) = true ∧ st.all (okw NW) = true) (hp : post.1 = false) (kk : ∀ v J K tq, Φ v J K tq → RR sc μ d mc ms post k n (pc + 3) lv (.int v :: st) (XW J K tq)) : RR sc μ d mc ms post k n pc lv (a6 :: a5 :: a4 :: a3 :: a2 :: a1 :: .ref b :: st) (XW I L tg) := by
  obtain ⟨h1, h2, h5, T, N, h3⟩ := hvm
  obtain ⟨po, hC, hP⟩ := hc
  refine r_callV (As := [a1, a2, a3, a4, a5, a6]) hC hdd hcl h1 h2 hsh (SHW_lt hsh (by omega)) h3 h5 hs hk hn hd (Or.inr ⟨hp, hok⟩) (fun r Y z => ?_)
  obtain ⟨v, J, K, tq, rfl, rfl, h⟩ := hP r Y z
  exact kk v J K tq h
end
section
variable {sc : Sc} {I : Is} {L : Ls} {tg n : Nat} {x : Int32}
theorem cs_feed (h : Inv n I L) (h6 : n ≤ 600) (i1 : vp_in (x + 1) sc.1) (i2 : vp_in (x + 2) sc.1) (i3 : vp_in (x + 3) sc.1) (i4 : vp_in (x + 4) sc.1) (i5 : vp_in (x + 5) sc.1) (i6 : vp_in (x + 6) sc.1) (K : ∀ J M tq, Inv (n + 1) J M → RR sc mL_law 30 600000 7302250 PL 151 4218 1353 [(3, .int x), (2, .ref 95), (1, .ref 0), (0, .ref 1300)] [] (XW J M tq)) : RR sc mL_law 30 600000 7302250 PL 151 4218 204 [(3, .int x), (2, .ref 95), (1, .ref 0), (0, .ref 1300)] [] (XW I L tg) := by
  refine r_aload_n (j := 2) rfl rfl dL_law_204 ?_
  refine r_aload_n (j := 3) rfl rfl dL_law_205 ?_
  refine r_iload_n (j := 0) rfl rfl dL_law_206 ?_
  refine r_iconst (v := 1) rfl dL_law_207 ?_
  refine r_iadd dL_law_208 ?_
  refine r_sld (i1) dL_law_209 ?_
  refine r_aload_n (j := 3) rfl rfl dL_law_210 ?_
  refine r_iload_n (j := 0) rfl rfl dL_law_211 ?_
  refine r_iconst (v := 2) rfl dL_law_212 ?_
  refine r_iadd dL_law_213 ?_
  refine r_sld (i2) dL_law_214 ?_
  refine r_aload_n (j := 3) rfl rfl dL_law_215 ?_
  refine r_iload_n (j := 0) rfl rfl dL_law_216 ?_
  refine r_iconst (v := 3) rfl dL_law_217 ?_
  refine r_iadd dL_law_218 ?_
  refine r_sld (i3) dL_law_219 ?_
  refine r_aload_n (j := 3) rfl rfl dL_law_220 ?_
  refine r_iload_n (j := 0) rfl rfl dL_law_221 ?_
  refine r_iconst (v := 4) rfl dL_law_222 ?_
  refine r_iadd dL_law_223 ?_
  refine r_sld (i4) dL_law_224 ?_
  refine r_aload_n (j := 3) rfl rfl dL_law_225 ?_
  refine r_iload_n (j := 0) rfl rfl dL_law_226 ?_
  refine r_iconst (v := 5) rfl dL_law_227 ?_
  refine r_iadd dL_law_228 ?_
  refine r_sld (i5) dL_law_229 ?_
  refine w_run5 (st_feed h) (Nat.le_of_ble_eq_true rfl) lL_13 vmX11_feed rfl (Nat.le_of_ble_eq_true rfl) (Nat.le_of_ble_eq_true rfl) (Nat.le_of_ble_eq_true rfl) dL_law_230 ⟨rfl, rfl⟩ rfl (fun v230 J230 K230 t230 h230 => ?_)
  refine r_aload_n (j := 1) rfl rfl dL_law_233 ?_
  refine r_aload_n (j := 3) rfl rfl dL_law_234 ?_
  refine r_iload_n (j := 0) rfl rfl dL_law_235 ?_
  refine r_iconst (v := 1) rfl dL_law_236 ?_
  refine r_iadd dL_law_237 ?_
  refine r_sld (i1) dL_law_238 ?_
  refine r_aload_n (j := 3) rfl rfl dL_law_239 ?_
  refine r_iload_n (j := 0) rfl rfl dL_law_240 ?_
  refine r_iconst (v := 2) rfl dL_law_241 ?_
  refine r_iadd dL_law_242 ?_
  refine r_sld (i2) dL_law_243 ?_
  refine r_aload_n (j := 3) rfl rfl dL_law_244 ?_
  refine r_iload_n (j := 0) rfl rfl dL_law_245 ?_
  refine r_iconst (v := 3) rfl dL_law_246 ?_
  refine r_iadd dL_law_247 ?_
  refine r_sld (i3) dL_law_248 ?_
  refine r_aload_n (j := 3) rfl rfl dL_law_249 ?_
  refine r_iload_n (j := 0) rfl rfl dL_law_250 ?_
  refine r_iconst (v := 4) rfl dL_law_251 ?_
  refine r_iadd dL_law_252 ?_
  refine r_sld (i4) dL_law_253 ?_
  refine r_aload_n (j := 3) rfl rfl dL_law_254 ?_
  refine r_iload_n (j := 0) rfl rfl dL_law_255 ?_
  refine r_iconst (v := 5) rfl dL_law_256 ?_
  refine r_iadd dL_law_257 ?_
  refine r_sld (i5) dL_law_258 ?_
  refine w_run5 (h230) (Nat.le_of_ble_eq_true rfl) lL_17 vmX12_feed rfl (Nat.le_of_ble_eq_true rfl) (Nat.le_of_ble_eq_true rfl) (Nat.le_of_ble_eq_true rfl) dL_law_259 ⟨rfl, rfl⟩ rfl (fun v259 J259 K259 t259 h259 => ?_)
  refine r_icmp_eq (tgt := 1353) dL_law_262 (by decide) (fun c262 => ?_) (fun c262 => ?_)
  · exact K _ _ _ h259.2
  · exact absurd h259.1.symm c262
theorem cs_end (h : Inv n I L) (h6 : n ≤ 600) (i1 : vp_in (x + 1) sc.1) (i2 : vp_in (x + 2) sc.1) (i3 : vp_in (x + 3) sc.1) (i4 : vp_in (x + 4) sc.1) (i5 : vp_in (x + 5) sc.1) (i6 : vp_in (x + 6) sc.1) (K : ∀ J M tq, Inv (n + 1) J M → RR sc mL_law 30 600000 7302250 PL 151 4218 1353 [(3, .int x), (2, .ref 95), (1, .ref 0), (0, .ref 1300)] [] (XW J M tq)) : RR sc mL_law 30 600000 7302250 PL 151 4218 267 [(3, .int x), (2, .ref 95), (1, .ref 0), (0, .ref 1300)] [] (XW I L tg) := by
  refine r_aload_n (j := 2) rfl rfl dL_law_267 ?_
  refine r_aload_n (j := 3) rfl rfl dL_law_268 ?_
  refine r_iload_n (j := 0) rfl rfl dL_law_269 ?_
  refine r_iconst (v := 1) rfl dL_law_270 ?_
  refine r_iadd dL_law_271 ?_
  refine r_sld (i1) dL_law_272 ?_
  refine w_run1 (st_end h) (Nat.le_of_ble_eq_true rfl) lL_18 vmX11_end rfl (Nat.le_of_ble_eq_true rfl) (Nat.le_of_ble_eq_true rfl) (Nat.le_of_ble_eq_true rfl) dL_law_273 ⟨rfl, rfl⟩ rfl (fun v273 J273 K273 t273 h273 => ?_)
  refine r_aload_n (j := 1) rfl rfl dL_law_276 ?_
  refine r_aload_n (j := 3) rfl rfl dL_law_277 ?_
  refine r_iload_n (j := 0) rfl rfl dL_law_278 ?_
  refine r_iconst (v := 1) rfl dL_law_279 ?_
  refine r_iadd dL_law_280 ?_
  refine r_sld (i1) dL_law_281 ?_
  refine w_run1 (h273) (Nat.le_of_ble_eq_true rfl) lL_22 vmX12_end rfl (Nat.le_of_ble_eq_true rfl) (Nat.le_of_ble_eq_true rfl) (Nat.le_of_ble_eq_true rfl) dL_law_282 ⟨rfl, rfl⟩ rfl (fun v282 J282 K282 t282 h282 => ?_)
  refine r_icmp_eq (tgt := 1353) dL_law_285 (by decide) (fun c285 => ?_) (fun c285 => ?_)
  · exact K _ _ _ h282.2
  · exact absurd h282.1.symm c285
theorem cs_camp (h : Inv n I L) (h6 : n ≤ 600) (i1 : vp_in (x + 1) sc.1) (i2 : vp_in (x + 2) sc.1) (i3 : vp_in (x + 3) sc.1) (i4 : vp_in (x + 4) sc.1) (i5 : vp_in (x + 5) sc.1) (i6 : vp_in (x + 6) sc.1) (K : ∀ J M tq, Inv (n + 1) J M → RR sc mL_law 30 600000 7302250 PL 151 4218 1353 [(3, .int x), (2, .ref 95), (1, .ref 0), (0, .ref 1300)] [] (XW J M tq)) : RR sc mL_law 30 600000 7302250 PL 151 4218 290 [(3, .int x), (2, .ref 95), (1, .ref 0), (0, .ref 1300)] [] (XW I L tg) := by
  refine r_aload_n (j := 2) rfl rfl dL_law_290 ?_
  refine w_run0 (st_camp h) (Nat.le_of_ble_eq_true rfl) lL_23 vmX11_camp rfl (Nat.le_of_ble_eq_true rfl) (Nat.le_of_ble_eq_true rfl) (Nat.le_of_ble_eq_true rfl) dL_law_291 ⟨rfl, rfl⟩ rfl (fun v291 J291 K291 t291 h291 => ?_)
  refine r_aload_n (j := 1) rfl rfl dL_law_294 ?_
  refine w_run0 (h291) (Nat.le_of_ble_eq_true rfl) lL_27 vmX12_camp rfl (Nat.le_of_ble_eq_true rfl) (Nat.le_of_ble_eq_true rfl) (Nat.le_of_ble_eq_true rfl) dL_law_295 ⟨rfl, rfl⟩ rfl (fun v295 J295 K295 t295 h295 => ?_)
  refine r_icmp_eq (tgt := 1353) dL_law_298 (by decide) (fun c298 => ?_) (fun c298 => ?_)
  · exact K _ _ _ h295.2
  · exact absurd h295.1.symm c298
theorem cs_fault (h : Inv n I L) (h6 : n ≤ 600) (i1 : vp_in (x + 1) sc.1) (i2 : vp_in (x + 2) sc.1) (i3 : vp_in (x + 3) sc.1) (i4 : vp_in (x + 4) sc.1) (i5 : vp_in (x + 5) sc.1) (i6 : vp_in (x + 6) sc.1) (K : ∀ J M tq, Inv (n + 1) J M → RR sc mL_law 30 600000 7302250 PL 151 4218 1353 [(3, .int x), (2, .ref 95), (1, .ref 0), (0, .ref 1300)] [] (XW J M tq)) : RR sc mL_law 30 600000 7302250 PL 151 4218 303 [(3, .int x), (2, .ref 95), (1, .ref 0), (0, .ref 1300)] [] (XW I L tg) := by
  refine r_aload_n (j := 2) rfl rfl dL_law_303 ?_
  refine r_aload_n (j := 3) rfl rfl dL_law_304 ?_
  refine r_iload_n (j := 0) rfl rfl dL_law_305 ?_
  refine r_iconst (v := 1) rfl dL_law_306 ?_
  refine r_iadd dL_law_307 ?_
  refine r_sld (i1) dL_law_308 ?_
  refine w_run1 (st_fault h) (Nat.le_of_ble_eq_true rfl) lL_28 vmX11_fault rfl (Nat.le_of_ble_eq_true rfl) (Nat.le_of_ble_eq_true rfl) (Nat.le_of_ble_eq_true rfl) dL_law_309 ⟨rfl, rfl⟩ rfl (fun v309 J309 K309 t309 h309 => ?_)
  refine r_aload_n (j := 1) rfl rfl dL_law_312 ?_
  refine r_aload_n (j := 3) rfl rfl dL_law_313 ?_
  refine r_iload_n (j := 0) rfl rfl dL_law_314 ?_
  refine r_iconst (v := 1) rfl dL_law_315 ?_
  refine r_iadd dL_law_316 ?_
  refine r_sld (i1) dL_law_317 ?_
  refine w_run1 (h309) (Nat.le_of_ble_eq_true rfl) lL_31 vmX12_fault rfl (Nat.le_of_ble_eq_true rfl) (Nat.le_of_ble_eq_true rfl) (Nat.le_of_ble_eq_true rfl) dL_law_318 ⟨rfl, rfl⟩ rfl (fun v318 J318 K318 t318 h318 => ?_)
  refine r_icmp_eq (tgt := 1353) dL_law_321 (by decide) (fun c321 => ?_) (fun c321 => ?_)
  · exact K _ _ _ h318.2
  · exact absurd h318.1.symm c321
theorem cs_told (h : Inv n I L) (h6 : n ≤ 600) (i1 : vp_in (x + 1) sc.1) (i2 : vp_in (x + 2) sc.1) (i3 : vp_in (x + 3) sc.1) (i4 : vp_in (x + 4) sc.1) (i5 : vp_in (x + 5) sc.1) (i6 : vp_in (x + 6) sc.1) (K : ∀ J M tq, Inv (n + 1) J M → RR sc mL_law 30 600000 7302250 PL 151 4218 1353 [(3, .int x), (2, .ref 95), (1, .ref 0), (0, .ref 1300)] [] (XW J M tq)) : RR sc mL_law 30 600000 7302250 PL 151 4218 326 [(3, .int x), (2, .ref 95), (1, .ref 0), (0, .ref 1300)] [] (XW I L tg) := by
  refine r_aload_n (j := 2) rfl rfl dL_law_326 ?_
  refine r_aload_n (j := 3) rfl rfl dL_law_327 ?_
  refine r_iload_n (j := 0) rfl rfl dL_law_328 ?_
  refine r_iconst (v := 1) rfl dL_law_329 ?_
  refine r_iadd dL_law_330 ?_
  refine r_sld (i1) dL_law_331 ?_
  refine w_run1 (st_told h) (Nat.le_of_ble_eq_true rfl) lL_32 vmX11_told rfl (Nat.le_of_ble_eq_true rfl) (Nat.le_of_ble_eq_true rfl) (Nat.le_of_ble_eq_true rfl) dL_law_332 ⟨rfl, rfl⟩ rfl (fun v332 J332 K332 t332 h332 => ?_)
  refine r_aload_n (j := 1) rfl rfl dL_law_335 ?_
  refine r_aload_n (j := 3) rfl rfl dL_law_336 ?_
  refine r_iload_n (j := 0) rfl rfl dL_law_337 ?_
  refine r_iconst (v := 1) rfl dL_law_338 ?_
  refine r_iadd dL_law_339 ?_
  refine r_sld (i1) dL_law_340 ?_
  refine w_run1 (h332) (Nat.le_of_ble_eq_true rfl) lL_35 vmX12_told rfl (Nat.le_of_ble_eq_true rfl) (Nat.le_of_ble_eq_true rfl) (Nat.le_of_ble_eq_true rfl) dL_law_341 ⟨rfl, rfl⟩ rfl (fun v341 J341 K341 t341 h341 => ?_)
  refine r_icmp_eq (tgt := 1353) dL_law_344 (by decide) (fun c344 => ?_) (fun c344 => ?_)
  · exact K _ _ _ h341.2
  · exact absurd h341.1.symm c344
theorem cs_run (h : Inv n I L) (h6 : n ≤ 600) (i1 : vp_in (x + 1) sc.1) (i2 : vp_in (x + 2) sc.1) (i3 : vp_in (x + 3) sc.1) (i4 : vp_in (x + 4) sc.1) (i5 : vp_in (x + 5) sc.1) (i6 : vp_in (x + 6) sc.1) (K : ∀ J M tq, Inv (n + 1) J M → RR sc mL_law 30 600000 7302250 PL 151 4218 1353 [(3, .int x), (2, .ref 95), (1, .ref 0), (0, .ref 1300)] [] (XW J M tq)) : RR sc mL_law 30 600000 7302250 PL 151 4218 349 [(3, .int x), (2, .ref 95), (1, .ref 0), (0, .ref 1300)] [] (XW I L tg) := by
  refine r_aload_n (j := 2) rfl rfl dL_law_349 ?_
  refine r_aload_n (j := 3) rfl rfl dL_law_350 ?_
  refine r_iload_n (j := 0) rfl rfl dL_law_351 ?_
  refine r_iconst (v := 1) rfl dL_law_352 ?_
  refine r_iadd dL_law_353 ?_
  refine r_sld (i1) dL_law_354 ?_
  refine r_aload_n (j := 3) rfl rfl dL_law_355 ?_
  refine r_iload_n (j := 0) rfl rfl dL_law_356 ?_
  refine r_iconst (v := 2) rfl dL_law_357 ?_
  refine r_iadd dL_law_358 ?_
  refine r_sld (i2) dL_law_359 ?_
  refine w_run2 (st_run h) (Nat.le_of_ble_eq_true rfl) lL_36 vmX11_run rfl (Nat.le_of_ble_eq_true rfl) (Nat.le_of_ble_eq_true rfl) (Nat.le_of_ble_eq_true rfl) dL_law_360 ⟨rfl, rfl⟩ rfl (fun v360 J360 K360 t360 h360 => ?_)
  refine r_aload_n (j := 1) rfl rfl dL_law_363 ?_
  refine r_aload_n (j := 3) rfl rfl dL_law_364 ?_
  refine r_iload_n (j := 0) rfl rfl dL_law_365 ?_
  refine r_iconst (v := 1) rfl dL_law_366 ?_
  refine r_iadd dL_law_367 ?_
  refine r_sld (i1) dL_law_368 ?_
  refine r_aload_n (j := 3) rfl rfl dL_law_369 ?_
  refine r_iload_n (j := 0) rfl rfl dL_law_370 ?_
  refine r_iconst (v := 2) rfl dL_law_371 ?_
  refine r_iadd dL_law_372 ?_
  refine r_sld (i2) dL_law_373 ?_
  refine w_run2 (h360) (Nat.le_of_ble_eq_true rfl) lL_40 vmX12_run rfl (Nat.le_of_ble_eq_true rfl) (Nat.le_of_ble_eq_true rfl) (Nat.le_of_ble_eq_true rfl) dL_law_374 ⟨rfl, rfl⟩ rfl (fun v374 J374 K374 t374 h374 => ?_)
  refine r_icmp_eq (tgt := 1353) dL_law_377 (by decide) (fun c377 => ?_) (fun c377 => ?_)
  · exact K _ _ _ h374.2
  · exact absurd h374.1.symm c377
theorem cs_chance (h : Inv n I L) (h6 : n ≤ 600) (i1 : vp_in (x + 1) sc.1) (i2 : vp_in (x + 2) sc.1) (i3 : vp_in (x + 3) sc.1) (i4 : vp_in (x + 4) sc.1) (i5 : vp_in (x + 5) sc.1) (i6 : vp_in (x + 6) sc.1) (K : ∀ J M tq, Inv (n + 1) J M → RR sc mL_law 30 600000 7302250 PL 151 4218 1353 [(3, .int x), (2, .ref 95), (1, .ref 0), (0, .ref 1300)] [] (XW J M tq)) : RR sc mL_law 30 600000 7302250 PL 151 4218 382 [(3, .int x), (2, .ref 95), (1, .ref 0), (0, .ref 1300)] [] (XW I L tg) := by
  refine r_aload_n (j := 2) rfl rfl dL_law_382 ?_
  refine r_aload_n (j := 3) rfl rfl dL_law_383 ?_
  refine r_iload_n (j := 0) rfl rfl dL_law_384 ?_
  refine r_iconst (v := 1) rfl dL_law_385 ?_
  refine r_iadd dL_law_386 ?_
  refine r_sld (i1) dL_law_387 ?_
  refine w_run1 (st_chance h) (Nat.le_of_ble_eq_true rfl) lL_41 vmX11_chance rfl (Nat.le_of_ble_eq_true rfl) (Nat.le_of_ble_eq_true rfl) (Nat.le_of_ble_eq_true rfl) dL_law_388 ⟨rfl, rfl⟩ rfl (fun v388 J388 K388 t388 h388 => ?_)
  refine r_aload_n (j := 1) rfl rfl dL_law_391 ?_
  refine r_aload_n (j := 3) rfl rfl dL_law_392 ?_
  refine r_iload_n (j := 0) rfl rfl dL_law_393 ?_
  refine r_iconst (v := 1) rfl dL_law_394 ?_
  refine r_iadd dL_law_395 ?_
  refine r_sld (i1) dL_law_396 ?_
  refine w_run1 (h388) (Nat.le_of_ble_eq_true rfl) lL_44 vmX12_chance rfl (Nat.le_of_ble_eq_true rfl) (Nat.le_of_ble_eq_true rfl) (Nat.le_of_ble_eq_true rfl) dL_law_397 ⟨rfl, rfl⟩ rfl (fun v397 J397 K397 t397 h397 => ?_)
  refine r_icmp_eq (tgt := 1353) dL_law_400 (by decide) (fun c400 => ?_) (fun c400 => ?_)
  · exact K _ _ _ h397.2
  · exact absurd h397.1.symm c400
theorem cs_open (h : Inv n I L) (h6 : n ≤ 600) (i1 : vp_in (x + 1) sc.1) (i2 : vp_in (x + 2) sc.1) (i3 : vp_in (x + 3) sc.1) (i4 : vp_in (x + 4) sc.1) (i5 : vp_in (x + 5) sc.1) (i6 : vp_in (x + 6) sc.1) (K : ∀ J M tq, Inv (n + 1) J M → RR sc mL_law 30 600000 7302250 PL 151 4218 1353 [(3, .int x), (2, .ref 95), (1, .ref 0), (0, .ref 1300)] [] (XW J M tq)) : RR sc mL_law 30 600000 7302250 PL 151 4218 405 [(3, .int x), (2, .ref 95), (1, .ref 0), (0, .ref 1300)] [] (XW I L tg) := by
  refine r_aload_n (j := 2) rfl rfl dL_law_405 ?_
  refine r_aload_n (j := 3) rfl rfl dL_law_406 ?_
  refine r_iload_n (j := 0) rfl rfl dL_law_407 ?_
  refine r_iconst (v := 1) rfl dL_law_408 ?_
  refine r_iadd dL_law_409 ?_
  refine r_sld (i1) dL_law_410 ?_
  refine w_run1 (st_open h) (Nat.le_of_ble_eq_true rfl) lL_45 vmX11_open rfl (Nat.le_of_ble_eq_true rfl) (Nat.le_of_ble_eq_true rfl) (Nat.le_of_ble_eq_true rfl) dL_law_411 ⟨rfl, rfl⟩ rfl (fun v411 J411 K411 t411 h411 => ?_)
  refine r_aload_n (j := 1) rfl rfl dL_law_414 ?_
  refine r_aload_n (j := 3) rfl rfl dL_law_415 ?_
  refine r_iload_n (j := 0) rfl rfl dL_law_416 ?_
  refine r_iconst (v := 1) rfl dL_law_417 ?_
  refine r_iadd dL_law_418 ?_
  refine r_sld (i1) dL_law_419 ?_
  refine w_run1 (h411) (Nat.le_of_ble_eq_true rfl) lL_48 vmX12_open rfl (Nat.le_of_ble_eq_true rfl) (Nat.le_of_ble_eq_true rfl) (Nat.le_of_ble_eq_true rfl) dL_law_420 ⟨rfl, rfl⟩ rfl (fun v420 J420 K420 t420 h420 => ?_)
  refine r_icmp_eq (tgt := 1353) dL_law_423 (by decide) (fun c423 => ?_) (fun c423 => ?_)
  · exact K _ _ _ h420.2
  · exact absurd h420.1.symm c423
theorem cs_shift (h : Inv n I L) (h6 : n ≤ 600) (i1 : vp_in (x + 1) sc.1) (i2 : vp_in (x + 2) sc.1) (i3 : vp_in (x + 3) sc.1) (i4 : vp_in (x + 4) sc.1) (i5 : vp_in (x + 5) sc.1) (i6 : vp_in (x + 6) sc.1) (K : ∀ J M tq, Inv (n + 1) J M → RR sc mL_law 30 600000 7302250 PL 151 4218 1353 [(3, .int x), (2, .ref 95), (1, .ref 0), (0, .ref 1300)] [] (XW J M tq)) : RR sc mL_law 30 600000 7302250 PL 151 4218 428 [(3, .int x), (2, .ref 95), (1, .ref 0), (0, .ref 1300)] [] (XW I L tg) := by
  refine r_aload_n (j := 2) rfl rfl dL_law_428 ?_
  refine r_aload_n (j := 3) rfl rfl dL_law_429 ?_
  refine r_iload_n (j := 0) rfl rfl dL_law_430 ?_
  refine r_iconst (v := 1) rfl dL_law_431 ?_
  refine r_iadd dL_law_432 ?_
  refine r_sld (i1) dL_law_433 ?_
  refine r_aload_n (j := 3) rfl rfl dL_law_434 ?_
  refine r_iload_n (j := 0) rfl rfl dL_law_435 ?_
  refine r_iconst (v := 2) rfl dL_law_436 ?_
  refine r_iadd dL_law_437 ?_
  refine r_sld (i2) dL_law_438 ?_
  refine w_run2 (st_shift h h6) (Nat.le_of_ble_eq_true rfl) lL_49 vmX11_shift rfl (Nat.le_of_ble_eq_true rfl) (Nat.le_of_ble_eq_true rfl) (Nat.le_of_ble_eq_true rfl) dL_law_439 ⟨rfl, rfl⟩ rfl (fun v439 J439 K439 t439 h439 => ?_)
  refine r_aload_n (j := 1) rfl rfl dL_law_442 ?_
  refine r_aload_n (j := 3) rfl rfl dL_law_443 ?_
  refine r_iload_n (j := 0) rfl rfl dL_law_444 ?_
  refine r_iconst (v := 1) rfl dL_law_445 ?_
  refine r_iadd dL_law_446 ?_
  refine r_sld (i1) dL_law_447 ?_
  refine r_aload_n (j := 3) rfl rfl dL_law_448 ?_
  refine r_iload_n (j := 0) rfl rfl dL_law_449 ?_
  refine r_iconst (v := 2) rfl dL_law_450 ?_
  refine r_iadd dL_law_451 ?_
  refine r_sld (i2) dL_law_452 ?_
  refine w_run2 (h439) (Nat.le_of_ble_eq_true rfl) lL_52 vmX12_shift rfl (Nat.le_of_ble_eq_true rfl) (Nat.le_of_ble_eq_true rfl) (Nat.le_of_ble_eq_true rfl) dL_law_453 ⟨rfl, rfl⟩ rfl (fun v453 J453 K453 t453 h453 => ?_)
  refine r_icmp_eq (tgt := 1353) dL_law_456 (by decide) (fun c456 => ?_) (fun c456 => ?_)
  · exact K _ _ _ h453.2
  · exact absurd h453.1.symm c456
theorem cs_tunnel (h : Inv n I L) (h6 : n ≤ 600) (i1 : vp_in (x + 1) sc.1) (i2 : vp_in (x + 2) sc.1) (i3 : vp_in (x + 3) sc.1) (i4 : vp_in (x + 4) sc.1) (i5 : vp_in (x + 5) sc.1) (i6 : vp_in (x + 6) sc.1) (K : ∀ J M tq, Inv (n + 1) J M → RR sc mL_law 30 600000 7302250 PL 151 4218 1353 [(3, .int x), (2, .ref 95), (1, .ref 0), (0, .ref 1300)] [] (XW J M tq)) : RR sc mL_law 30 600000 7302250 PL 151 4218 461 [(3, .int x), (2, .ref 95), (1, .ref 0), (0, .ref 1300)] [] (XW I L tg) := by
  refine r_aload_n (j := 2) rfl rfl dL_law_461 ?_
  refine r_aload_n (j := 3) rfl rfl dL_law_462 ?_
  refine r_iload_n (j := 0) rfl rfl dL_law_463 ?_
  refine r_iconst (v := 1) rfl dL_law_464 ?_
  refine r_iadd dL_law_465 ?_
  refine r_sld (i1) dL_law_466 ?_
  refine r_aload_n (j := 3) rfl rfl dL_law_467 ?_
  refine r_iload_n (j := 0) rfl rfl dL_law_468 ?_
  refine r_iconst (v := 2) rfl dL_law_469 ?_
  refine r_iadd dL_law_470 ?_
  refine r_sld (i2) dL_law_471 ?_
  refine w_run2 (st_tunnel h) (Nat.le_of_ble_eq_true rfl) lL_53 vmX11_tunnel rfl (Nat.le_of_ble_eq_true rfl) (Nat.le_of_ble_eq_true rfl) (Nat.le_of_ble_eq_true rfl) dL_law_472 ⟨rfl, rfl⟩ rfl (fun v472 J472 K472 t472 h472 => ?_)
  refine r_aload_n (j := 1) rfl rfl dL_law_475 ?_
  refine r_aload_n (j := 3) rfl rfl dL_law_476 ?_
  refine r_iload_n (j := 0) rfl rfl dL_law_477 ?_
  refine r_iconst (v := 1) rfl dL_law_478 ?_
  refine r_iadd dL_law_479 ?_
  refine r_sld (i1) dL_law_480 ?_
  refine r_aload_n (j := 3) rfl rfl dL_law_481 ?_
  refine r_iload_n (j := 0) rfl rfl dL_law_482 ?_
  refine r_iconst (v := 2) rfl dL_law_483 ?_
  refine r_iadd dL_law_484 ?_
  refine r_sld (i2) dL_law_485 ?_
  refine w_run2 (h472) (Nat.le_of_ble_eq_true rfl) lL_56 vmX12_tunnel rfl (Nat.le_of_ble_eq_true rfl) (Nat.le_of_ble_eq_true rfl) (Nat.le_of_ble_eq_true rfl) dL_law_486 ⟨rfl, rfl⟩ rfl (fun v486 J486 K486 t486 h486 => ?_)
  refine r_icmp_eq (tgt := 1353) dL_law_489 (by decide) (fun c489 => ?_) (fun c489 => ?_)
  · exact K _ _ _ h486.2
  · exact absurd h486.1.symm c489
theorem cs_boards (h : Inv n I L) (h6 : n ≤ 600) (i1 : vp_in (x + 1) sc.1) (i2 : vp_in (x + 2) sc.1) (i3 : vp_in (x + 3) sc.1) (i4 : vp_in (x + 4) sc.1) (i5 : vp_in (x + 5) sc.1) (i6 : vp_in (x + 6) sc.1) (K : ∀ J M tq, Inv (n + 1) J M → RR sc mL_law 30 600000 7302250 PL 151 4218 1353 [(3, .int x), (2, .ref 95), (1, .ref 0), (0, .ref 1300)] [] (XW J M tq)) : RR sc mL_law 30 600000 7302250 PL 151 4218 494 [(3, .int x), (2, .ref 95), (1, .ref 0), (0, .ref 1300)] [] (XW I L tg) := by
  refine r_aload_n (j := 2) rfl rfl dL_law_494 ?_
  refine w_run0 (st_boards h) (Nat.le_of_ble_eq_true rfl) lL_57 vmX11_boards rfl (Nat.le_of_ble_eq_true rfl) (Nat.le_of_ble_eq_true rfl) (Nat.le_of_ble_eq_true rfl) dL_law_495 ⟨rfl, rfl⟩ rfl (fun v495 J495 K495 t495 h495 => ?_)
  refine r_aload_n (j := 1) rfl rfl dL_law_498 ?_
  refine w_run0 (h495) (Nat.le_of_ble_eq_true rfl) lL_60 vmX12_boards rfl (Nat.le_of_ble_eq_true rfl) (Nat.le_of_ble_eq_true rfl) (Nat.le_of_ble_eq_true rfl) dL_law_499 ⟨rfl, rfl⟩ rfl (fun v499 J499 K499 t499 h499 => ?_)
  refine r_icmp_eq (tgt := 1353) dL_law_502 (by decide) (fun c502 => ?_) (fun c502 => ?_)
  · exact K _ _ _ h499.2
  · exact absurd h499.1.symm c502
theorem cs_lies (h : Inv n I L) (h6 : n ≤ 600) (i1 : vp_in (x + 1) sc.1) (i2 : vp_in (x + 2) sc.1) (i3 : vp_in (x + 3) sc.1) (i4 : vp_in (x + 4) sc.1) (i5 : vp_in (x + 5) sc.1) (i6 : vp_in (x + 6) sc.1) (K : ∀ J M tq, Inv (n + 1) J M → RR sc mL_law 30 600000 7302250 PL 151 4218 1353 [(3, .int x), (2, .ref 95), (1, .ref 0), (0, .ref 1300)] [] (XW J M tq)) : RR sc mL_law 30 600000 7302250 PL 151 4218 507 [(3, .int x), (2, .ref 95), (1, .ref 0), (0, .ref 1300)] [] (XW I L tg) := by
  refine r_aload_n (j := 2) rfl rfl dL_law_507 ?_
  refine r_aload_n (j := 3) rfl rfl dL_law_508 ?_
  refine r_iload_n (j := 0) rfl rfl dL_law_509 ?_
  refine r_iconst (v := 1) rfl dL_law_510 ?_
  refine r_iadd dL_law_511 ?_
  refine r_sld (i1) dL_law_512 ?_
  refine w_run1 (st_lies h) (Nat.le_of_ble_eq_true rfl) lL_61 vmX11_lies rfl (Nat.le_of_ble_eq_true rfl) (Nat.le_of_ble_eq_true rfl) (Nat.le_of_ble_eq_true rfl) dL_law_513 ⟨rfl, rfl⟩ rfl (fun v513 J513 K513 t513 h513 => ?_)
  refine r_aload_n (j := 1) rfl rfl dL_law_516 ?_
  refine r_aload_n (j := 3) rfl rfl dL_law_517 ?_
  refine r_iload_n (j := 0) rfl rfl dL_law_518 ?_
  refine r_iconst (v := 1) rfl dL_law_519 ?_
  refine r_iadd dL_law_520 ?_
  refine r_sld (i1) dL_law_521 ?_
  refine w_run1 (h513) (Nat.le_of_ble_eq_true rfl) lL_64 vmX12_lies rfl (Nat.le_of_ble_eq_true rfl) (Nat.le_of_ble_eq_true rfl) (Nat.le_of_ble_eq_true rfl) dL_law_522 ⟨rfl, rfl⟩ rfl (fun v522 J522 K522 t522 h522 => ?_)
  refine r_icmp_eq (tgt := 1353) dL_law_525 (by decide) (fun c525 => ?_) (fun c525 => ?_)
  · exact K _ _ _ h522.2
  · exact absurd h522.1.symm c525
theorem cs_carry (h : Inv n I L) (h6 : n ≤ 600) (i1 : vp_in (x + 1) sc.1) (i2 : vp_in (x + 2) sc.1) (i3 : vp_in (x + 3) sc.1) (i4 : vp_in (x + 4) sc.1) (i5 : vp_in (x + 5) sc.1) (i6 : vp_in (x + 6) sc.1) (K : ∀ J M tq, Inv (n + 1) J M → RR sc mL_law 30 600000 7302250 PL 151 4218 1353 [(3, .int x), (2, .ref 95), (1, .ref 0), (0, .ref 1300)] [] (XW J M tq)) : RR sc mL_law 30 600000 7302250 PL 151 4218 530 [(3, .int x), (2, .ref 95), (1, .ref 0), (0, .ref 1300)] [] (XW I L tg) := by
  refine r_aload_n (j := 2) rfl rfl dL_law_530 ?_
  refine r_aload_n (j := 3) rfl rfl dL_law_531 ?_
  refine r_iload_n (j := 0) rfl rfl dL_law_532 ?_
  refine r_iconst (v := 1) rfl dL_law_533 ?_
  refine r_iadd dL_law_534 ?_
  refine r_sld (i1) dL_law_535 ?_
  refine r_aload_n (j := 3) rfl rfl dL_law_536 ?_
  refine r_iload_n (j := 0) rfl rfl dL_law_537 ?_
  refine r_iconst (v := 2) rfl dL_law_538 ?_
  refine r_iadd dL_law_539 ?_
  refine r_sld (i2) dL_law_540 ?_
  refine r_aload_n (j := 3) rfl rfl dL_law_541 ?_
  refine r_iload_n (j := 0) rfl rfl dL_law_542 ?_
  refine r_iconst (v := 3) rfl dL_law_543 ?_
  refine r_iadd dL_law_544 ?_
  refine r_sld (i3) dL_law_545 ?_
  refine w_run3 (st_carry h) (Nat.le_of_ble_eq_true rfl) lL_65 vmX11_carry rfl (Nat.le_of_ble_eq_true rfl) (Nat.le_of_ble_eq_true rfl) (Nat.le_of_ble_eq_true rfl) dL_law_546 ⟨rfl, rfl⟩ rfl (fun v546 J546 K546 t546 h546 => ?_)
  refine r_aload_n (j := 1) rfl rfl dL_law_549 ?_
  refine r_aload_n (j := 3) rfl rfl dL_law_550 ?_
  refine r_iload_n (j := 0) rfl rfl dL_law_551 ?_
  refine r_iconst (v := 1) rfl dL_law_552 ?_
  refine r_iadd dL_law_553 ?_
  refine r_sld (i1) dL_law_554 ?_
  refine r_aload_n (j := 3) rfl rfl dL_law_555 ?_
  refine r_iload_n (j := 0) rfl rfl dL_law_556 ?_
  refine r_iconst (v := 2) rfl dL_law_557 ?_
  refine r_iadd dL_law_558 ?_
  refine r_sld (i2) dL_law_559 ?_
  refine r_aload_n (j := 3) rfl rfl dL_law_560 ?_
  refine r_iload_n (j := 0) rfl rfl dL_law_561 ?_
  refine r_iconst (v := 3) rfl dL_law_562 ?_
  refine r_iadd dL_law_563 ?_
  refine r_sld (i3) dL_law_564 ?_
  refine w_run3 (h546) (Nat.le_of_ble_eq_true rfl) lL_69 vmX12_carry rfl (Nat.le_of_ble_eq_true rfl) (Nat.le_of_ble_eq_true rfl) (Nat.le_of_ble_eq_true rfl) dL_law_565 ⟨rfl, rfl⟩ rfl (fun v565 J565 K565 t565 h565 => ?_)
  refine r_icmp_eq (tgt := 1353) dL_law_568 (by decide) (fun c568 => ?_) (fun c568 => ?_)
  · exact K _ _ _ h565.2
  · exact absurd h565.1.symm c568
theorem cs_had (h : Inv n I L) (h6 : n ≤ 600) (i1 : vp_in (x + 1) sc.1) (i2 : vp_in (x + 2) sc.1) (i3 : vp_in (x + 3) sc.1) (i4 : vp_in (x + 4) sc.1) (i5 : vp_in (x + 5) sc.1) (i6 : vp_in (x + 6) sc.1) (K : ∀ J M tq, Inv (n + 1) J M → RR sc mL_law 30 600000 7302250 PL 151 4218 1353 [(3, .int x), (2, .ref 95), (1, .ref 0), (0, .ref 1300)] [] (XW J M tq)) : RR sc mL_law 30 600000 7302250 PL 151 4218 573 [(3, .int x), (2, .ref 95), (1, .ref 0), (0, .ref 1300)] [] (XW I L tg) := by
  refine r_aload_n (j := 2) rfl rfl dL_law_573 ?_
  refine r_aload_n (j := 3) rfl rfl dL_law_574 ?_
  refine r_iload_n (j := 0) rfl rfl dL_law_575 ?_
  refine r_iconst (v := 1) rfl dL_law_576 ?_
  refine r_iadd dL_law_577 ?_
  refine r_sld (i1) dL_law_578 ?_
  refine w_run1 (st_had h) (Nat.le_of_ble_eq_true rfl) lL_70 vmX11_had rfl (Nat.le_of_ble_eq_true rfl) (Nat.le_of_ble_eq_true rfl) (Nat.le_of_ble_eq_true rfl) dL_law_579 ⟨rfl, rfl⟩ rfl (fun v579 J579 K579 t579 h579 => ?_)
  refine r_aload_n (j := 1) rfl rfl dL_law_582 ?_
  refine r_aload_n (j := 3) rfl rfl dL_law_583 ?_
  refine r_iload_n (j := 0) rfl rfl dL_law_584 ?_
  refine r_iconst (v := 1) rfl dL_law_585 ?_
  refine r_iadd dL_law_586 ?_
  refine r_sld (i1) dL_law_587 ?_
  refine w_run1 (h579) (Nat.le_of_ble_eq_true rfl) lL_73 vmX12_had rfl (Nat.le_of_ble_eq_true rfl) (Nat.le_of_ble_eq_true rfl) (Nat.le_of_ble_eq_true rfl) dL_law_588 ⟨rfl, rfl⟩ rfl (fun v588 J588 K588 t588 h588 => ?_)
  refine r_icmp_eq (tgt := 1353) dL_law_591 (by decide) (fun c591 => ?_) (fun c591 => ?_)
  · exact K _ _ _ h588.2
  · exact absurd h588.1.symm c591
theorem cs_most (h : Inv n I L) (h6 : n ≤ 600) (i1 : vp_in (x + 1) sc.1) (i2 : vp_in (x + 2) sc.1) (i3 : vp_in (x + 3) sc.1) (i4 : vp_in (x + 4) sc.1) (i5 : vp_in (x + 5) sc.1) (i6 : vp_in (x + 6) sc.1) (K : ∀ J M tq, Inv (n + 1) J M → RR sc mL_law 30 600000 7302250 PL 151 4218 1353 [(3, .int x), (2, .ref 95), (1, .ref 0), (0, .ref 1300)] [] (XW J M tq)) : RR sc mL_law 30 600000 7302250 PL 151 4218 596 [(3, .int x), (2, .ref 95), (1, .ref 0), (0, .ref 1300)] [] (XW I L tg) := by
  refine r_aload_n (j := 2) rfl rfl dL_law_596 ?_
  refine r_aload_n (j := 3) rfl rfl dL_law_597 ?_
  refine r_iload_n (j := 0) rfl rfl dL_law_598 ?_
  refine r_iconst (v := 1) rfl dL_law_599 ?_
  refine r_iadd dL_law_600 ?_
  refine r_sld (i1) dL_law_601 ?_
  refine w_run1 (st_most h h6) (Nat.le_of_ble_eq_true rfl) lL_74 vmX11_most rfl (Nat.le_of_ble_eq_true rfl) (Nat.le_of_ble_eq_true rfl) (Nat.le_of_ble_eq_true rfl) dL_law_602 ⟨rfl, rfl⟩ rfl (fun v602 J602 K602 t602 h602 => ?_)
  refine r_aload_n (j := 1) rfl rfl dL_law_605 ?_
  refine r_aload_n (j := 3) rfl rfl dL_law_606 ?_
  refine r_iload_n (j := 0) rfl rfl dL_law_607 ?_
  refine r_iconst (v := 1) rfl dL_law_608 ?_
  refine r_iadd dL_law_609 ?_
  refine r_sld (i1) dL_law_610 ?_
  refine w_run1 (h602) (Nat.le_of_ble_eq_true rfl) lL_77 vmX12_most rfl (Nat.le_of_ble_eq_true rfl) (Nat.le_of_ble_eq_true rfl) (Nat.le_of_ble_eq_true rfl) dL_law_611 ⟨rfl, rfl⟩ rfl (fun v611 J611 K611 t611 h611 => ?_)
  refine r_icmp_eq (tgt := 1353) dL_law_614 (by decide) (fun c614 => ?_) (fun c614 => ?_)
  · exact K _ _ _ h611.2
  · exact absurd h611.1.symm c614
theorem cs_until (h : Inv n I L) (h6 : n ≤ 600) (i1 : vp_in (x + 1) sc.1) (i2 : vp_in (x + 2) sc.1) (i3 : vp_in (x + 3) sc.1) (i4 : vp_in (x + 4) sc.1) (i5 : vp_in (x + 5) sc.1) (i6 : vp_in (x + 6) sc.1) (K : ∀ J M tq, Inv (n + 1) J M → RR sc mL_law 30 600000 7302250 PL 151 4218 1353 [(3, .int x), (2, .ref 95), (1, .ref 0), (0, .ref 1300)] [] (XW J M tq)) : RR sc mL_law 30 600000 7302250 PL 151 4218 619 [(3, .int x), (2, .ref 95), (1, .ref 0), (0, .ref 1300)] [] (XW I L tg) := by
  refine r_aload_n (j := 2) rfl rfl dL_law_619 ?_
  refine w_run0 (st_until h h6) (Nat.le_of_ble_eq_true rfl) lL_78 vmX11_until rfl (Nat.le_of_ble_eq_true rfl) (Nat.le_of_ble_eq_true rfl) (Nat.le_of_ble_eq_true rfl) dL_law_620 ⟨rfl, rfl⟩ rfl (fun v620 J620 K620 t620 h620 => ?_)
  refine r_aload_n (j := 1) rfl rfl dL_law_623 ?_
  refine w_run0 (h620) (Nat.le_of_ble_eq_true rfl) lL_81 vmX12_until rfl (Nat.le_of_ble_eq_true rfl) (Nat.le_of_ble_eq_true rfl) (Nat.le_of_ble_eq_true rfl) dL_law_624 ⟨rfl, rfl⟩ rfl (fun v624 J624 K624 t624 h624 => ?_)
  refine r_icmp_eq (tgt := 1353) dL_law_627 (by decide) (fun c627 => ?_) (fun c627 => ?_)
  · exact K _ _ _ h624.2
  · exact absurd h624.1.symm c627
theorem cs_keep (h : Inv n I L) (h6 : n ≤ 600) (i1 : vp_in (x + 1) sc.1) (i2 : vp_in (x + 2) sc.1) (i3 : vp_in (x + 3) sc.1) (i4 : vp_in (x + 4) sc.1) (i5 : vp_in (x + 5) sc.1) (i6 : vp_in (x + 6) sc.1) (K : ∀ J M tq, Inv (n + 1) J M → RR sc mL_law 30 600000 7302250 PL 151 4218 1353 [(3, .int x), (2, .ref 95), (1, .ref 0), (0, .ref 1300)] [] (XW J M tq)) : RR sc mL_law 30 600000 7302250 PL 151 4218 632 [(3, .int x), (2, .ref 95), (1, .ref 0), (0, .ref 1300)] [] (XW I L tg) := by
  refine r_aload_n (j := 2) rfl rfl dL_law_632 ?_
  refine r_aload_n (j := 3) rfl rfl dL_law_633 ?_
  refine r_iload_n (j := 0) rfl rfl dL_law_634 ?_
  refine r_iconst (v := 1) rfl dL_law_635 ?_
  refine r_iadd dL_law_636 ?_
  refine r_sld (i1) dL_law_637 ?_
  refine w_run1 (st_keep h) (Nat.le_of_ble_eq_true rfl) lL_82 vmX11_keep rfl (Nat.le_of_ble_eq_true rfl) (Nat.le_of_ble_eq_true rfl) (Nat.le_of_ble_eq_true rfl) dL_law_638 ⟨rfl, rfl⟩ rfl (fun v638 J638 K638 t638 h638 => ?_)
  refine r_aload_n (j := 1) rfl rfl dL_law_641 ?_
  refine r_aload_n (j := 3) rfl rfl dL_law_642 ?_
  refine r_iload_n (j := 0) rfl rfl dL_law_643 ?_
  refine r_iconst (v := 1) rfl dL_law_644 ?_
  refine r_iadd dL_law_645 ?_
  refine r_sld (i1) dL_law_646 ?_
  refine w_run1 (h638) (Nat.le_of_ble_eq_true rfl) lL_85 vmX12_keep rfl (Nat.le_of_ble_eq_true rfl) (Nat.le_of_ble_eq_true rfl) (Nat.le_of_ble_eq_true rfl) dL_law_647 ⟨rfl, rfl⟩ rfl (fun v647 J647 K647 t647 h647 => ?_)
  refine r_icmp_eq (tgt := 1353) dL_law_650 (by decide) (fun c650 => ?_) (fun c650 => ?_)
  · exact K _ _ _ h647.2
  · exact absurd h647.1.symm c650
theorem cs_take (h : Inv n I L) (h6 : n ≤ 600) (i1 : vp_in (x + 1) sc.1) (i2 : vp_in (x + 2) sc.1) (i3 : vp_in (x + 3) sc.1) (i4 : vp_in (x + 4) sc.1) (i5 : vp_in (x + 5) sc.1) (i6 : vp_in (x + 6) sc.1) (K : ∀ J M tq, Inv (n + 1) J M → RR sc mL_law 30 600000 7302250 PL 151 4218 1353 [(3, .int x), (2, .ref 95), (1, .ref 0), (0, .ref 1300)] [] (XW J M tq)) : RR sc mL_law 30 600000 7302250 PL 151 4218 655 [(3, .int x), (2, .ref 95), (1, .ref 0), (0, .ref 1300)] [] (XW I L tg) := by
  refine r_aload_n (j := 2) rfl rfl dL_law_655 ?_
  refine r_aload_n (j := 3) rfl rfl dL_law_656 ?_
  refine r_iload_n (j := 0) rfl rfl dL_law_657 ?_
  refine r_iconst (v := 1) rfl dL_law_658 ?_
  refine r_iadd dL_law_659 ?_
  refine r_sld (i1) dL_law_660 ?_
  refine w_run1 (st_take h) (Nat.le_of_ble_eq_true rfl) lL_86 vmX11_take rfl (Nat.le_of_ble_eq_true rfl) (Nat.le_of_ble_eq_true rfl) (Nat.le_of_ble_eq_true rfl) dL_law_661 ⟨rfl, rfl⟩ rfl (fun v661 J661 K661 t661 h661 => ?_)
  refine r_aload_n (j := 1) rfl rfl dL_law_664 ?_
  refine r_aload_n (j := 3) rfl rfl dL_law_665 ?_
  refine r_iload_n (j := 0) rfl rfl dL_law_666 ?_
  refine r_iconst (v := 1) rfl dL_law_667 ?_
  refine r_iadd dL_law_668 ?_
  refine r_sld (i1) dL_law_669 ?_
  refine w_run1 (h661) (Nat.le_of_ble_eq_true rfl) lL_89 vmX12_take rfl (Nat.le_of_ble_eq_true rfl) (Nat.le_of_ble_eq_true rfl) (Nat.le_of_ble_eq_true rfl) dL_law_670 ⟨rfl, rfl⟩ rfl (fun v670 J670 K670 t670 h670 => ?_)
  refine r_icmp_eq (tgt := 1353) dL_law_673 (by decide) (fun c673 => ?_) (fun c673 => ?_)
  · exact K _ _ _ h670.2
  · exact absurd h670.1.symm c673
theorem cs_gone (h : Inv n I L) (h6 : n ≤ 600) (i1 : vp_in (x + 1) sc.1) (i2 : vp_in (x + 2) sc.1) (i3 : vp_in (x + 3) sc.1) (i4 : vp_in (x + 4) sc.1) (i5 : vp_in (x + 5) sc.1) (i6 : vp_in (x + 6) sc.1) (K : ∀ J M tq, Inv (n + 1) J M → RR sc mL_law 30 600000 7302250 PL 151 4218 1353 [(3, .int x), (2, .ref 95), (1, .ref 0), (0, .ref 1300)] [] (XW J M tq)) : RR sc mL_law 30 600000 7302250 PL 151 4218 678 [(3, .int x), (2, .ref 95), (1, .ref 0), (0, .ref 1300)] [] (XW I L tg) := by
  refine r_aload_n (j := 2) rfl rfl dL_law_678 ?_
  refine r_aload_n (j := 3) rfl rfl dL_law_679 ?_
  refine r_iload_n (j := 0) rfl rfl dL_law_680 ?_
  refine r_iconst (v := 1) rfl dL_law_681 ?_
  refine r_iadd dL_law_682 ?_
  refine r_sld (i1) dL_law_683 ?_
  refine r_aload_n (j := 3) rfl rfl dL_law_684 ?_
  refine r_iload_n (j := 0) rfl rfl dL_law_685 ?_
  refine r_iconst (v := 2) rfl dL_law_686 ?_
  refine r_iadd dL_law_687 ?_
  refine r_sld (i2) dL_law_688 ?_
  refine w_run2 (st_gone h) (Nat.le_of_ble_eq_true rfl) lL_90 vmX11_gone rfl (Nat.le_of_ble_eq_true rfl) (Nat.le_of_ble_eq_true rfl) (Nat.le_of_ble_eq_true rfl) dL_law_689 ⟨rfl, rfl⟩ rfl (fun v689 J689 K689 t689 h689 => ?_)
  refine r_aload_n (j := 1) rfl rfl dL_law_692 ?_
  refine r_aload_n (j := 3) rfl rfl dL_law_693 ?_
  refine r_iload_n (j := 0) rfl rfl dL_law_694 ?_
  refine r_iconst (v := 1) rfl dL_law_695 ?_
  refine r_iadd dL_law_696 ?_
  refine r_sld (i1) dL_law_697 ?_
  refine r_aload_n (j := 3) rfl rfl dL_law_698 ?_
  refine r_iload_n (j := 0) rfl rfl dL_law_699 ?_
  refine r_iconst (v := 2) rfl dL_law_700 ?_
  refine r_iadd dL_law_701 ?_
  refine r_sld (i2) dL_law_702 ?_
  refine w_run2 (h689) (Nat.le_of_ble_eq_true rfl) lL_93 vmX12_gone rfl (Nat.le_of_ble_eq_true rfl) (Nat.le_of_ble_eq_true rfl) (Nat.le_of_ble_eq_true rfl) dL_law_703 ⟨rfl, rfl⟩ rfl (fun v703 J703 K703 t703 h703 => ?_)
  refine r_icmp_eq (tgt := 1353) dL_law_706 (by decide) (fun c706 => ?_) (fun c706 => ?_)
  · exact K _ _ _ h703.2
  · exact absurd h703.1.symm c706
theorem cs_runners (h : Inv n I L) (h6 : n ≤ 600) (i1 : vp_in (x + 1) sc.1) (i2 : vp_in (x + 2) sc.1) (i3 : vp_in (x + 3) sc.1) (i4 : vp_in (x + 4) sc.1) (i5 : vp_in (x + 5) sc.1) (i6 : vp_in (x + 6) sc.1) (K : ∀ J M tq, Inv (n + 1) J M → RR sc mL_law 30 600000 7302250 PL 151 4218 1353 [(3, .int x), (2, .ref 95), (1, .ref 0), (0, .ref 1300)] [] (XW J M tq)) : RR sc mL_law 30 600000 7302250 PL 151 4218 711 [(3, .int x), (2, .ref 95), (1, .ref 0), (0, .ref 1300)] [] (XW I L tg) := by
  refine r_aload_n (j := 2) rfl rfl dL_law_711 ?_
  refine w_run0 (st_runners h) (Nat.le_of_ble_eq_true rfl) lL_94 vmX11_runners rfl (Nat.le_of_ble_eq_true rfl) (Nat.le_of_ble_eq_true rfl) (Nat.le_of_ble_eq_true rfl) dL_law_712 ⟨rfl, rfl⟩ rfl (fun v712 J712 K712 t712 h712 => ?_)
  refine r_aload_n (j := 1) rfl rfl dL_law_715 ?_
  refine w_run0 (h712) (Nat.le_of_ble_eq_true rfl) lL_97 vmX12_runners rfl (Nat.le_of_ble_eq_true rfl) (Nat.le_of_ble_eq_true rfl) (Nat.le_of_ble_eq_true rfl) dL_law_716 ⟨rfl, rfl⟩ rfl (fun v716 J716 K716 t716 h716 => ?_)
  refine r_icmp_eq (tgt := 1353) dL_law_719 (by decide) (fun c719 => ?_) (fun c719 => ?_)
  · exact K _ _ _ h716.2
  · exact absurd h716.1.symm c719
theorem cs_wrong (h : Inv n I L) (h6 : n ≤ 600) (i1 : vp_in (x + 1) sc.1) (i2 : vp_in (x + 2) sc.1) (i3 : vp_in (x + 3) sc.1) (i4 : vp_in (x + 4) sc.1) (i5 : vp_in (x + 5) sc.1) (i6 : vp_in (x + 6) sc.1) (K : ∀ J M tq, Inv (n + 1) J M → RR sc mL_law 30 600000 7302250 PL 151 4218 1353 [(3, .int x), (2, .ref 95), (1, .ref 0), (0, .ref 1300)] [] (XW J M tq)) : RR sc mL_law 30 600000 7302250 PL 151 4218 724 [(3, .int x), (2, .ref 95), (1, .ref 0), (0, .ref 1300)] [] (XW I L tg) := by
  refine r_aload_n (j := 2) rfl rfl dL_law_724 ?_
  refine w_run0 (st_wrong h) (Nat.le_of_ble_eq_true rfl) lL_98 vmX11_wrong rfl (Nat.le_of_ble_eq_true rfl) (Nat.le_of_ble_eq_true rfl) (Nat.le_of_ble_eq_true rfl) dL_law_725 ⟨rfl, rfl⟩ rfl (fun v725 J725 K725 t725 h725 => ?_)
  refine r_aload_n (j := 1) rfl rfl dL_law_728 ?_
  refine w_run0 (h725) (Nat.le_of_ble_eq_true rfl) lL_101 vmX12_wrong rfl (Nat.le_of_ble_eq_true rfl) (Nat.le_of_ble_eq_true rfl) (Nat.le_of_ble_eq_true rfl) dL_law_729 ⟨rfl, rfl⟩ rfl (fun v729 J729 K729 t729 h729 => ?_)
  refine r_icmp_eq (tgt := 1353) dL_law_732 (by decide) (fun c732 => ?_) (fun c732 => ?_)
  · exact K _ _ _ h729.2
  · exact absurd h729.1.symm c732
theorem cs_kept (h : Inv n I L) (h6 : n ≤ 600) (i1 : vp_in (x + 1) sc.1) (i2 : vp_in (x + 2) sc.1) (i3 : vp_in (x + 3) sc.1) (i4 : vp_in (x + 4) sc.1) (i5 : vp_in (x + 5) sc.1) (i6 : vp_in (x + 6) sc.1) (K : ∀ J M tq, Inv (n + 1) J M → RR sc mL_law 30 600000 7302250 PL 151 4218 1353 [(3, .int x), (2, .ref 95), (1, .ref 0), (0, .ref 1300)] [] (XW J M tq)) : RR sc mL_law 30 600000 7302250 PL 151 4218 737 [(3, .int x), (2, .ref 95), (1, .ref 0), (0, .ref 1300)] [] (XW I L tg) := by
  refine r_aload_n (j := 2) rfl rfl dL_law_737 ?_
  refine r_aload_n (j := 3) rfl rfl dL_law_738 ?_
  refine r_iload_n (j := 0) rfl rfl dL_law_739 ?_
  refine r_iconst (v := 1) rfl dL_law_740 ?_
  refine r_iadd dL_law_741 ?_
  refine r_sld (i1) dL_law_742 ?_
  refine r_aload_n (j := 3) rfl rfl dL_law_743 ?_
  refine r_iload_n (j := 0) rfl rfl dL_law_744 ?_
  refine r_iconst (v := 2) rfl dL_law_745 ?_
  refine r_iadd dL_law_746 ?_
  refine r_sld (i2) dL_law_747 ?_
  refine w_run2 (st_kept h) (Nat.le_of_ble_eq_true rfl) lL_102 vmX11_kept rfl (Nat.le_of_ble_eq_true rfl) (Nat.le_of_ble_eq_true rfl) (Nat.le_of_ble_eq_true rfl) dL_law_748 ⟨rfl, rfl⟩ rfl (fun v748 J748 K748 t748 h748 => ?_)
  refine r_aload_n (j := 1) rfl rfl dL_law_751 ?_
  refine r_aload_n (j := 3) rfl rfl dL_law_752 ?_
  refine r_iload_n (j := 0) rfl rfl dL_law_753 ?_
  refine r_iconst (v := 1) rfl dL_law_754 ?_
  refine r_iadd dL_law_755 ?_
  refine r_sld (i1) dL_law_756 ?_
  refine r_aload_n (j := 3) rfl rfl dL_law_757 ?_
  refine r_iload_n (j := 0) rfl rfl dL_law_758 ?_
  refine r_iconst (v := 2) rfl dL_law_759 ?_
  refine r_iadd dL_law_760 ?_
  refine r_sld (i2) dL_law_761 ?_
  refine w_run2 (h748) (Nat.le_of_ble_eq_true rfl) lL_105 vmX12_kept rfl (Nat.le_of_ble_eq_true rfl) (Nat.le_of_ble_eq_true rfl) (Nat.le_of_ble_eq_true rfl) dL_law_762 ⟨rfl, rfl⟩ rfl (fun v762 J762 K762 t762 h762 => ?_)
  refine r_icmp_eq (tgt := 1353) dL_law_765 (by decide) (fun c765 => ?_) (fun c765 => ?_)
  · exact K _ _ _ h762.2
  · exact absurd h762.1.symm c765
theorem cs_needed (h : Inv n I L) (h6 : n ≤ 600) (i1 : vp_in (x + 1) sc.1) (i2 : vp_in (x + 2) sc.1) (i3 : vp_in (x + 3) sc.1) (i4 : vp_in (x + 4) sc.1) (i5 : vp_in (x + 5) sc.1) (i6 : vp_in (x + 6) sc.1) (K : ∀ J M tq, Inv (n + 1) J M → RR sc mL_law 30 600000 7302250 PL 151 4218 1353 [(3, .int x), (2, .ref 95), (1, .ref 0), (0, .ref 1300)] [] (XW J M tq)) : RR sc mL_law 30 600000 7302250 PL 151 4218 770 [(3, .int x), (2, .ref 95), (1, .ref 0), (0, .ref 1300)] [] (XW I L tg) := by
  refine r_aload_n (j := 2) rfl rfl dL_law_770 ?_
  refine r_aload_n (j := 3) rfl rfl dL_law_771 ?_
  refine r_iload_n (j := 0) rfl rfl dL_law_772 ?_
  refine r_iconst (v := 1) rfl dL_law_773 ?_
  refine r_iadd dL_law_774 ?_
  refine r_sld (i1) dL_law_775 ?_
  refine r_aload_n (j := 3) rfl rfl dL_law_776 ?_
  refine r_iload_n (j := 0) rfl rfl dL_law_777 ?_
  refine r_iconst (v := 2) rfl dL_law_778 ?_
  refine r_iadd dL_law_779 ?_
  refine r_sld (i2) dL_law_780 ?_
  refine w_run2 (st_needed h) (Nat.le_of_ble_eq_true rfl) lL_106 vmX11_needed rfl (Nat.le_of_ble_eq_true rfl) (Nat.le_of_ble_eq_true rfl) (Nat.le_of_ble_eq_true rfl) dL_law_781 ⟨rfl, rfl⟩ rfl (fun v781 J781 K781 t781 h781 => ?_)
  refine r_aload_n (j := 1) rfl rfl dL_law_784 ?_
  refine r_aload_n (j := 3) rfl rfl dL_law_785 ?_
  refine r_iload_n (j := 0) rfl rfl dL_law_786 ?_
  refine r_iconst (v := 1) rfl dL_law_787 ?_
  refine r_iadd dL_law_788 ?_
  refine r_sld (i1) dL_law_789 ?_
  refine r_aload_n (j := 3) rfl rfl dL_law_790 ?_
  refine r_iload_n (j := 0) rfl rfl dL_law_791 ?_
  refine r_iconst (v := 2) rfl dL_law_792 ?_
  refine r_iadd dL_law_793 ?_
  refine r_sld (i2) dL_law_794 ?_
  refine w_run2 (h781) (Nat.le_of_ble_eq_true rfl) lL_109 vmX12_needed rfl (Nat.le_of_ble_eq_true rfl) (Nat.le_of_ble_eq_true rfl) (Nat.le_of_ble_eq_true rfl) dL_law_795 ⟨rfl, rfl⟩ rfl (fun v795 J795 K795 t795 h795 => ?_)
  refine r_icmp_eq (tgt := 1353) dL_law_798 (by decide) (fun c798 => ?_) (fun c798 => ?_)
  · exact K _ _ _ h795.2
  · exact absurd h795.1.symm c798
theorem cs_second (h : Inv n I L) (h6 : n ≤ 600) (i1 : vp_in (x + 1) sc.1) (i2 : vp_in (x + 2) sc.1) (i3 : vp_in (x + 3) sc.1) (i4 : vp_in (x + 4) sc.1) (i5 : vp_in (x + 5) sc.1) (i6 : vp_in (x + 6) sc.1) (K : ∀ J M tq, Inv (n + 1) J M → RR sc mL_law 30 600000 7302250 PL 151 4218 1353 [(3, .int x), (2, .ref 95), (1, .ref 0), (0, .ref 1300)] [] (XW J M tq)) : RR sc mL_law 30 600000 7302250 PL 151 4218 803 [(3, .int x), (2, .ref 95), (1, .ref 0), (0, .ref 1300)] [] (XW I L tg) := by
  refine r_aload_n (j := 2) rfl rfl dL_law_803 ?_
  refine r_aload_n (j := 3) rfl rfl dL_law_804 ?_
  refine r_iload_n (j := 0) rfl rfl dL_law_805 ?_
  refine r_iconst (v := 1) rfl dL_law_806 ?_
  refine r_iadd dL_law_807 ?_
  refine r_sld (i1) dL_law_808 ?_
  refine r_aload_n (j := 3) rfl rfl dL_law_809 ?_
  refine r_iload_n (j := 0) rfl rfl dL_law_810 ?_
  refine r_iconst (v := 2) rfl dL_law_811 ?_
  refine r_iadd dL_law_812 ?_
  refine r_sld (i2) dL_law_813 ?_
  refine r_aload_n (j := 3) rfl rfl dL_law_814 ?_
  refine r_iload_n (j := 0) rfl rfl dL_law_815 ?_
  refine r_iconst (v := 3) rfl dL_law_816 ?_
  refine r_iadd dL_law_817 ?_
  refine r_sld (i3) dL_law_818 ?_
  refine r_aload_n (j := 3) rfl rfl dL_law_819 ?_
  refine r_iload_n (j := 0) rfl rfl dL_law_820 ?_
  refine r_iconst (v := 4) rfl dL_law_821 ?_
  refine r_iadd dL_law_822 ?_
  refine r_sld (i4) dL_law_823 ?_
  refine w_run4 (st_second h) (Nat.le_of_ble_eq_true rfl) lL_110 vmX11_second rfl (Nat.le_of_ble_eq_true rfl) (Nat.le_of_ble_eq_true rfl) (Nat.le_of_ble_eq_true rfl) dL_law_824 ⟨rfl, rfl⟩ rfl (fun v824 J824 K824 t824 h824 => ?_)
  refine r_aload_n (j := 1) rfl rfl dL_law_827 ?_
  refine r_aload_n (j := 3) rfl rfl dL_law_828 ?_
  refine r_iload_n (j := 0) rfl rfl dL_law_829 ?_
  refine r_iconst (v := 1) rfl dL_law_830 ?_
  refine r_iadd dL_law_831 ?_
  refine r_sld (i1) dL_law_832 ?_
  refine r_aload_n (j := 3) rfl rfl dL_law_833 ?_
  refine r_iload_n (j := 0) rfl rfl dL_law_834 ?_
  refine r_iconst (v := 2) rfl dL_law_835 ?_
  refine r_iadd dL_law_836 ?_
  refine r_sld (i2) dL_law_837 ?_
  refine r_aload_n (j := 3) rfl rfl dL_law_838 ?_
  refine r_iload_n (j := 0) rfl rfl dL_law_839 ?_
  refine r_iconst (v := 3) rfl dL_law_840 ?_
  refine r_iadd dL_law_841 ?_
  refine r_sld (i3) dL_law_842 ?_
  refine r_aload_n (j := 3) rfl rfl dL_law_843 ?_
  refine r_iload_n (j := 0) rfl rfl dL_law_844 ?_
  refine r_iconst (v := 4) rfl dL_law_845 ?_
  refine r_iadd dL_law_846 ?_
  refine r_sld (i4) dL_law_847 ?_
  refine w_run4 (h824) (Nat.le_of_ble_eq_true rfl) lL_114 vmX12_second rfl (Nat.le_of_ble_eq_true rfl) (Nat.le_of_ble_eq_true rfl) (Nat.le_of_ble_eq_true rfl) dL_law_848 ⟨rfl, rfl⟩ rfl (fun v848 J848 K848 t848 h848 => ?_)
  refine r_icmp_eq (tgt := 1353) dL_law_851 (by decide) (fun c851 => ?_) (fun c851 => ?_)
  · exact K _ _ _ h848.2
  · exact absurd h848.1.symm c851
theorem cs_drift (h : Inv n I L) (h6 : n ≤ 600) (i1 : vp_in (x + 1) sc.1) (i2 : vp_in (x + 2) sc.1) (i3 : vp_in (x + 3) sc.1) (i4 : vp_in (x + 4) sc.1) (i5 : vp_in (x + 5) sc.1) (i6 : vp_in (x + 6) sc.1) (K : ∀ J M tq, Inv (n + 1) J M → RR sc mL_law 30 600000 7302250 PL 151 4218 1353 [(3, .int x), (2, .ref 95), (1, .ref 0), (0, .ref 1300)] [] (XW J M tq)) : RR sc mL_law 30 600000 7302250 PL 151 4218 856 [(3, .int x), (2, .ref 95), (1, .ref 0), (0, .ref 1300)] [] (XW I L tg) := by
  refine r_aload_n (j := 2) rfl rfl dL_law_856 ?_
  refine r_aload_n (j := 3) rfl rfl dL_law_857 ?_
  refine r_iload_n (j := 0) rfl rfl dL_law_858 ?_
  refine r_iconst (v := 1) rfl dL_law_859 ?_
  refine r_iadd dL_law_860 ?_
  refine r_sld (i1) dL_law_861 ?_
  refine w_run1 (st_drift h) (Nat.le_of_ble_eq_true rfl) lL_115 vmX11_drift rfl (Nat.le_of_ble_eq_true rfl) (Nat.le_of_ble_eq_true rfl) (Nat.le_of_ble_eq_true rfl) dL_law_862 ⟨rfl, rfl⟩ rfl (fun v862 J862 K862 t862 h862 => ?_)
  refine r_aload_n (j := 1) rfl rfl dL_law_865 ?_
  refine r_aload_n (j := 3) rfl rfl dL_law_866 ?_
  refine r_iload_n (j := 0) rfl rfl dL_law_867 ?_
  refine r_iconst (v := 1) rfl dL_law_868 ?_
  refine r_iadd dL_law_869 ?_
  refine r_sld (i1) dL_law_870 ?_
  refine w_run1 (h862) (Nat.le_of_ble_eq_true rfl) lL_118 vmX12_drift rfl (Nat.le_of_ble_eq_true rfl) (Nat.le_of_ble_eq_true rfl) (Nat.le_of_ble_eq_true rfl) dL_law_871 ⟨rfl, rfl⟩ rfl (fun v871 J871 K871 t871 h871 => ?_)
  refine r_icmp_eq (tgt := 1353) dL_law_874 (by decide) (fun c874 => ?_) (fun c874 => ?_)
  · exact K _ _ _ h871.2
  · exact absurd h871.1.symm c874
theorem cs_string (h : Inv n I L) (h6 : n ≤ 600) (i1 : vp_in (x + 1) sc.1) (i2 : vp_in (x + 2) sc.1) (i3 : vp_in (x + 3) sc.1) (i4 : vp_in (x + 4) sc.1) (i5 : vp_in (x + 5) sc.1) (i6 : vp_in (x + 6) sc.1) (K : ∀ J M tq, Inv (n + 1) J M → RR sc mL_law 30 600000 7302250 PL 151 4218 1353 [(3, .int x), (2, .ref 95), (1, .ref 0), (0, .ref 1300)] [] (XW J M tq)) : RR sc mL_law 30 600000 7302250 PL 151 4218 879 [(3, .int x), (2, .ref 95), (1, .ref 0), (0, .ref 1300)] [] (XW I L tg) := by
  refine r_aload_n (j := 2) rfl rfl dL_law_879 ?_
  refine r_aload_n (j := 3) rfl rfl dL_law_880 ?_
  refine r_iload_n (j := 0) rfl rfl dL_law_881 ?_
  refine r_iconst (v := 1) rfl dL_law_882 ?_
  refine r_iadd dL_law_883 ?_
  refine r_sld (i1) dL_law_884 ?_
  refine r_aload_n (j := 3) rfl rfl dL_law_885 ?_
  refine r_iload_n (j := 0) rfl rfl dL_law_886 ?_
  refine r_iconst (v := 2) rfl dL_law_887 ?_
  refine r_iadd dL_law_888 ?_
  refine r_sld (i2) dL_law_889 ?_
  refine r_aload_n (j := 3) rfl rfl dL_law_890 ?_
  refine r_iload_n (j := 0) rfl rfl dL_law_891 ?_
  refine r_iconst (v := 3) rfl dL_law_892 ?_
  refine r_iadd dL_law_893 ?_
  refine r_sld (i3) dL_law_894 ?_
  refine r_aload_n (j := 3) rfl rfl dL_law_895 ?_
  refine r_iload_n (j := 0) rfl rfl dL_law_896 ?_
  refine r_iconst (v := 4) rfl dL_law_897 ?_
  refine r_iadd dL_law_898 ?_
  refine r_sld (i4) dL_law_899 ?_
  refine w_run4 (st_string h) (Nat.le_of_ble_eq_true rfl) lL_119 vmX11_string rfl (Nat.le_of_ble_eq_true rfl) (Nat.le_of_ble_eq_true rfl) (Nat.le_of_ble_eq_true rfl) dL_law_900 ⟨rfl, rfl⟩ rfl (fun v900 J900 K900 t900 h900 => ?_)
  refine r_aload_n (j := 1) rfl rfl dL_law_903 ?_
  refine r_aload_n (j := 3) rfl rfl dL_law_904 ?_
  refine r_iload_n (j := 0) rfl rfl dL_law_905 ?_
  refine r_iconst (v := 1) rfl dL_law_906 ?_
  refine r_iadd dL_law_907 ?_
  refine r_sld (i1) dL_law_908 ?_
  refine r_aload_n (j := 3) rfl rfl dL_law_909 ?_
  refine r_iload_n (j := 0) rfl rfl dL_law_910 ?_
  refine r_iconst (v := 2) rfl dL_law_911 ?_
  refine r_iadd dL_law_912 ?_
  refine r_sld (i2) dL_law_913 ?_
  refine r_aload_n (j := 3) rfl rfl dL_law_914 ?_
  refine r_iload_n (j := 0) rfl rfl dL_law_915 ?_
  refine r_iconst (v := 3) rfl dL_law_916 ?_
  refine r_iadd dL_law_917 ?_
  refine r_sld (i3) dL_law_918 ?_
  refine r_aload_n (j := 3) rfl rfl dL_law_919 ?_
  refine r_iload_n (j := 0) rfl rfl dL_law_920 ?_
  refine r_iconst (v := 4) rfl dL_law_921 ?_
  refine r_iadd dL_law_922 ?_
  refine r_sld (i4) dL_law_923 ?_
  refine w_run4 (h900) (Nat.le_of_ble_eq_true rfl) lL_122 vmX12_string rfl (Nat.le_of_ble_eq_true rfl) (Nat.le_of_ble_eq_true rfl) (Nat.le_of_ble_eq_true rfl) dL_law_924 ⟨rfl, rfl⟩ rfl (fun v924 J924 K924 t924 h924 => ?_)
  refine r_icmp_eq (tgt := 1353) dL_law_927 (by decide) (fun c927 => ?_) (fun c927 => ?_)
  · exact K _ _ _ h924.2
  · exact absurd h924.1.symm c927
theorem cs_right (h : Inv n I L) (h6 : n ≤ 600) (i1 : vp_in (x + 1) sc.1) (i2 : vp_in (x + 2) sc.1) (i3 : vp_in (x + 3) sc.1) (i4 : vp_in (x + 4) sc.1) (i5 : vp_in (x + 5) sc.1) (i6 : vp_in (x + 6) sc.1) (K : ∀ J M tq, Inv (n + 1) J M → RR sc mL_law 30 600000 7302250 PL 151 4218 1353 [(3, .int x), (2, .ref 95), (1, .ref 0), (0, .ref 1300)] [] (XW J M tq)) : RR sc mL_law 30 600000 7302250 PL 151 4218 932 [(3, .int x), (2, .ref 95), (1, .ref 0), (0, .ref 1300)] [] (XW I L tg) := by
  refine r_aload_n (j := 2) rfl rfl dL_law_932 ?_
  refine r_aload_n (j := 3) rfl rfl dL_law_933 ?_
  refine r_iload_n (j := 0) rfl rfl dL_law_934 ?_
  refine r_iconst (v := 1) rfl dL_law_935 ?_
  refine r_iadd dL_law_936 ?_
  refine r_sld (i1) dL_law_937 ?_
  refine r_aload_n (j := 3) rfl rfl dL_law_938 ?_
  refine r_iload_n (j := 0) rfl rfl dL_law_939 ?_
  refine r_iconst (v := 2) rfl dL_law_940 ?_
  refine r_iadd dL_law_941 ?_
  refine r_sld (i2) dL_law_942 ?_
  refine r_aload_n (j := 3) rfl rfl dL_law_943 ?_
  refine r_iload_n (j := 0) rfl rfl dL_law_944 ?_
  refine r_iconst (v := 3) rfl dL_law_945 ?_
  refine r_iadd dL_law_946 ?_
  refine r_sld (i3) dL_law_947 ?_
  refine w_run3 (st_right h) (Nat.le_of_ble_eq_true rfl) lL_123 vmX11_right rfl (Nat.le_of_ble_eq_true rfl) (Nat.le_of_ble_eq_true rfl) (Nat.le_of_ble_eq_true rfl) dL_law_948 ⟨rfl, rfl⟩ rfl (fun v948 J948 K948 t948 h948 => ?_)
  refine r_aload_n (j := 1) rfl rfl dL_law_951 ?_
  refine r_aload_n (j := 3) rfl rfl dL_law_952 ?_
  refine r_iload_n (j := 0) rfl rfl dL_law_953 ?_
  refine r_iconst (v := 1) rfl dL_law_954 ?_
  refine r_iadd dL_law_955 ?_
  refine r_sld (i1) dL_law_956 ?_
  refine r_aload_n (j := 3) rfl rfl dL_law_957 ?_
  refine r_iload_n (j := 0) rfl rfl dL_law_958 ?_
  refine r_iconst (v := 2) rfl dL_law_959 ?_
  refine r_iadd dL_law_960 ?_
  refine r_sld (i2) dL_law_961 ?_
  refine r_aload_n (j := 3) rfl rfl dL_law_962 ?_
  refine r_iload_n (j := 0) rfl rfl dL_law_963 ?_
  refine r_iconst (v := 3) rfl dL_law_964 ?_
  refine r_iadd dL_law_965 ?_
  refine r_sld (i3) dL_law_966 ?_
  refine w_run3 (h948) (Nat.le_of_ble_eq_true rfl) lL_126 vmX12_right rfl (Nat.le_of_ble_eq_true rfl) (Nat.le_of_ble_eq_true rfl) (Nat.le_of_ble_eq_true rfl) dL_law_967 ⟨rfl, rfl⟩ rfl (fun v967 J967 K967 t967 h967 => ?_)
  refine r_icmp_eq (tgt := 1353) dL_law_970 (by decide) (fun c970 => ?_) (fun c970 => ?_)
  · exact K _ _ _ h967.2
  · exact absurd h967.1.symm c970
theorem cs_where (h : Inv n I L) (h6 : n ≤ 600) (i1 : vp_in (x + 1) sc.1) (i2 : vp_in (x + 2) sc.1) (i3 : vp_in (x + 3) sc.1) (i4 : vp_in (x + 4) sc.1) (i5 : vp_in (x + 5) sc.1) (i6 : vp_in (x + 6) sc.1) (K : ∀ J M tq, Inv (n + 1) J M → RR sc mL_law 30 600000 7302250 PL 151 4218 1353 [(3, .int x), (2, .ref 95), (1, .ref 0), (0, .ref 1300)] [] (XW J M tq)) : RR sc mL_law 30 600000 7302250 PL 151 4218 975 [(3, .int x), (2, .ref 95), (1, .ref 0), (0, .ref 1300)] [] (XW I L tg) := by
  refine r_aload_n (j := 2) rfl rfl dL_law_975 ?_
  refine r_aload_n (j := 3) rfl rfl dL_law_976 ?_
  refine r_iload_n (j := 0) rfl rfl dL_law_977 ?_
  refine r_iconst (v := 1) rfl dL_law_978 ?_
  refine r_iadd dL_law_979 ?_
  refine r_sld (i1) dL_law_980 ?_
  refine r_aload_n (j := 3) rfl rfl dL_law_981 ?_
  refine r_iload_n (j := 0) rfl rfl dL_law_982 ?_
  refine r_iconst (v := 2) rfl dL_law_983 ?_
  refine r_iadd dL_law_984 ?_
  refine r_sld (i2) dL_law_985 ?_
  refine w_run2 (st_where h) (Nat.le_of_ble_eq_true rfl) lL_127 vmX11_where rfl (Nat.le_of_ble_eq_true rfl) (Nat.le_of_ble_eq_true rfl) (Nat.le_of_ble_eq_true rfl) dL_law_986 ⟨rfl, rfl⟩ rfl (fun v986 J986 K986 t986 h986 => ?_)
  refine r_aload_n (j := 1) rfl rfl dL_law_989 ?_
  refine r_aload_n (j := 3) rfl rfl dL_law_990 ?_
  refine r_iload_n (j := 0) rfl rfl dL_law_991 ?_
  refine r_iconst (v := 1) rfl dL_law_992 ?_
  refine r_iadd dL_law_993 ?_
  refine r_sld (i1) dL_law_994 ?_
  refine r_aload_n (j := 3) rfl rfl dL_law_995 ?_
  refine r_iload_n (j := 0) rfl rfl dL_law_996 ?_
  refine r_iconst (v := 2) rfl dL_law_997 ?_
  refine r_iadd dL_law_998 ?_
  refine r_sld (i2) dL_law_999 ?_
  refine w_run2 (h986) (Nat.le_of_ble_eq_true rfl) lL_130 vmX12_where rfl (Nat.le_of_ble_eq_true rfl) (Nat.le_of_ble_eq_true rfl) (Nat.le_of_ble_eq_true rfl) dL_law_1000 ⟨rfl, rfl⟩ rfl (fun v1000 J1000 K1000 t1000 h1000 => ?_)
  refine r_icmp_eq (tgt := 1353) dL_law_1003 (by decide) (fun c1003 => ?_) (fun c1003 => ?_)
  · exact K _ _ _ h1000.2
  · exact absurd h1000.1.symm c1003
theorem cs_up (h : Inv n I L) (h6 : n ≤ 600) (i1 : vp_in (x + 1) sc.1) (i2 : vp_in (x + 2) sc.1) (i3 : vp_in (x + 3) sc.1) (i4 : vp_in (x + 4) sc.1) (i5 : vp_in (x + 5) sc.1) (i6 : vp_in (x + 6) sc.1) (K : ∀ J M tq, Inv (n + 1) J M → RR sc mL_law 30 600000 7302250 PL 151 4218 1353 [(3, .int x), (2, .ref 95), (1, .ref 0), (0, .ref 1300)] [] (XW J M tq)) : RR sc mL_law 30 600000 7302250 PL 151 4218 1008 [(3, .int x), (2, .ref 95), (1, .ref 0), (0, .ref 1300)] [] (XW I L tg) := by
  refine r_aload_n (j := 2) rfl rfl dL_law_1008 ?_
  refine r_aload_n (j := 3) rfl rfl dL_law_1009 ?_
  refine r_iload_n (j := 0) rfl rfl dL_law_1010 ?_
  refine r_iconst (v := 1) rfl dL_law_1011 ?_
  refine r_iadd dL_law_1012 ?_
  refine r_sld (i1) dL_law_1013 ?_
  refine r_aload_n (j := 3) rfl rfl dL_law_1014 ?_
  refine r_iload_n (j := 0) rfl rfl dL_law_1015 ?_
  refine r_iconst (v := 2) rfl dL_law_1016 ?_
  refine r_iadd dL_law_1017 ?_
  refine r_sld (i2) dL_law_1018 ?_
  refine w_run2 (st_up h) (Nat.le_of_ble_eq_true rfl) lL_131 vmX11_up rfl (Nat.le_of_ble_eq_true rfl) (Nat.le_of_ble_eq_true rfl) (Nat.le_of_ble_eq_true rfl) dL_law_1019 ⟨rfl, rfl⟩ rfl (fun v1019 J1019 K1019 t1019 h1019 => ?_)
  refine r_aload_n (j := 1) rfl rfl dL_law_1022 ?_
  refine r_aload_n (j := 3) rfl rfl dL_law_1023 ?_
  refine r_iload_n (j := 0) rfl rfl dL_law_1024 ?_
  refine r_iconst (v := 1) rfl dL_law_1025 ?_
  refine r_iadd dL_law_1026 ?_
  refine r_sld (i1) dL_law_1027 ?_
  refine r_aload_n (j := 3) rfl rfl dL_law_1028 ?_
  refine r_iload_n (j := 0) rfl rfl dL_law_1029 ?_
  refine r_iconst (v := 2) rfl dL_law_1030 ?_
  refine r_iadd dL_law_1031 ?_
  refine r_sld (i2) dL_law_1032 ?_
  refine w_run2 (h1019) (Nat.le_of_ble_eq_true rfl) lL_134 vmX12_up rfl (Nat.le_of_ble_eq_true rfl) (Nat.le_of_ble_eq_true rfl) (Nat.le_of_ble_eq_true rfl) dL_law_1033 ⟨rfl, rfl⟩ rfl (fun v1033 J1033 K1033 t1033 h1033 => ?_)
  refine r_icmp_eq (tgt := 1353) dL_law_1036 (by decide) (fun c1036 => ?_) (fun c1036 => ?_)
  · exact K _ _ _ h1033.2
  · exact absurd h1033.1.symm c1036
theorem cs_join (h : Inv n I L) (h6 : n ≤ 600) (i1 : vp_in (x + 1) sc.1) (i2 : vp_in (x + 2) sc.1) (i3 : vp_in (x + 3) sc.1) (i4 : vp_in (x + 4) sc.1) (i5 : vp_in (x + 5) sc.1) (i6 : vp_in (x + 6) sc.1) (K : ∀ J M tq, Inv (n + 1) J M → RR sc mL_law 30 600000 7302250 PL 151 4218 1353 [(3, .int x), (2, .ref 95), (1, .ref 0), (0, .ref 1300)] [] (XW J M tq)) : RR sc mL_law 30 600000 7302250 PL 151 4218 1041 [(3, .int x), (2, .ref 95), (1, .ref 0), (0, .ref 1300)] [] (XW I L tg) := by
  refine r_aload_n (j := 2) rfl rfl dL_law_1041 ?_
  refine r_aload_n (j := 3) rfl rfl dL_law_1042 ?_
  refine r_iload_n (j := 0) rfl rfl dL_law_1043 ?_
  refine r_iconst (v := 1) rfl dL_law_1044 ?_
  refine r_iadd dL_law_1045 ?_
  refine r_sld (i1) dL_law_1046 ?_
  refine r_aload_n (j := 3) rfl rfl dL_law_1047 ?_
  refine r_iload_n (j := 0) rfl rfl dL_law_1048 ?_
  refine r_iconst (v := 2) rfl dL_law_1049 ?_
  refine r_iadd dL_law_1050 ?_
  refine r_sld (i2) dL_law_1051 ?_
  refine w_run2 (st_join h) (Nat.le_of_ble_eq_true rfl) lL_135 vmX11_join rfl (Nat.le_of_ble_eq_true rfl) (Nat.le_of_ble_eq_true rfl) (Nat.le_of_ble_eq_true rfl) dL_law_1052 ⟨rfl, rfl⟩ rfl (fun v1052 J1052 K1052 t1052 h1052 => ?_)
  refine r_aload_n (j := 1) rfl rfl dL_law_1055 ?_
  refine r_aload_n (j := 3) rfl rfl dL_law_1056 ?_
  refine r_iload_n (j := 0) rfl rfl dL_law_1057 ?_
  refine r_iconst (v := 1) rfl dL_law_1058 ?_
  refine r_iadd dL_law_1059 ?_
  refine r_sld (i1) dL_law_1060 ?_
  refine r_aload_n (j := 3) rfl rfl dL_law_1061 ?_
  refine r_iload_n (j := 0) rfl rfl dL_law_1062 ?_
  refine r_iconst (v := 2) rfl dL_law_1063 ?_
  refine r_iadd dL_law_1064 ?_
  refine r_sld (i2) dL_law_1065 ?_
  refine w_run2 (h1052) (Nat.le_of_ble_eq_true rfl) lL_138 vmX12_join rfl (Nat.le_of_ble_eq_true rfl) (Nat.le_of_ble_eq_true rfl) (Nat.le_of_ble_eq_true rfl) dL_law_1066 ⟨rfl, rfl⟩ rfl (fun v1066 J1066 K1066 t1066 h1066 => ?_)
  refine r_icmp_eq (tgt := 1353) dL_law_1069 (by decide) (fun c1069 => ?_) (fun c1069 => ?_)
  · exact K _ _ _ h1066.2
  · exact absurd h1066.1.symm c1069
theorem cs_round (h : Inv n I L) (h6 : n ≤ 600) (i1 : vp_in (x + 1) sc.1) (i2 : vp_in (x + 2) sc.1) (i3 : vp_in (x + 3) sc.1) (i4 : vp_in (x + 4) sc.1) (i5 : vp_in (x + 5) sc.1) (i6 : vp_in (x + 6) sc.1) (K : ∀ J M tq, Inv (n + 1) J M → RR sc mL_law 30 600000 7302250 PL 151 4218 1353 [(3, .int x), (2, .ref 95), (1, .ref 0), (0, .ref 1300)] [] (XW J M tq)) : RR sc mL_law 30 600000 7302250 PL 151 4218 1074 [(3, .int x), (2, .ref 95), (1, .ref 0), (0, .ref 1300)] [] (XW I L tg) := by
  refine r_aload_n (j := 2) rfl rfl dL_law_1074 ?_
  refine r_aload_n (j := 3) rfl rfl dL_law_1075 ?_
  refine r_iload_n (j := 0) rfl rfl dL_law_1076 ?_
  refine r_iconst (v := 1) rfl dL_law_1077 ?_
  refine r_iadd dL_law_1078 ?_
  refine r_sld (i1) dL_law_1079 ?_
  refine r_aload_n (j := 3) rfl rfl dL_law_1080 ?_
  refine r_iload_n (j := 0) rfl rfl dL_law_1081 ?_
  refine r_iconst (v := 2) rfl dL_law_1082 ?_
  refine r_iadd dL_law_1083 ?_
  refine r_sld (i2) dL_law_1084 ?_
  refine w_run2 (st_round h) (Nat.le_of_ble_eq_true rfl) lL_139 vmX11_round rfl (Nat.le_of_ble_eq_true rfl) (Nat.le_of_ble_eq_true rfl) (Nat.le_of_ble_eq_true rfl) dL_law_1085 ⟨rfl, rfl⟩ rfl (fun v1085 J1085 K1085 t1085 h1085 => ?_)
  refine r_aload_n (j := 1) rfl rfl dL_law_1088 ?_
  refine r_aload_n (j := 3) rfl rfl dL_law_1089 ?_
  refine r_iload_n (j := 0) rfl rfl dL_law_1090 ?_
  refine r_iconst (v := 1) rfl dL_law_1091 ?_
  refine r_iadd dL_law_1092 ?_
  refine r_sld (i1) dL_law_1093 ?_
  refine r_aload_n (j := 3) rfl rfl dL_law_1094 ?_
  refine r_iload_n (j := 0) rfl rfl dL_law_1095 ?_
  refine r_iconst (v := 2) rfl dL_law_1096 ?_
  refine r_iadd dL_law_1097 ?_
  refine r_sld (i2) dL_law_1098 ?_
  refine w_run2 (h1085) (Nat.le_of_ble_eq_true rfl) lL_142 vmX12_round rfl (Nat.le_of_ble_eq_true rfl) (Nat.le_of_ble_eq_true rfl) (Nat.le_of_ble_eq_true rfl) dL_law_1099 ⟨rfl, rfl⟩ rfl (fun v1099 J1099 K1099 t1099 h1099 => ?_)
  refine r_icmp_eq (tgt := 1353) dL_law_1102 (by decide) (fun c1102 => ?_) (fun c1102 => ?_)
  · exact K _ _ _ h1099.2
  · exact absurd h1099.1.symm c1102
theorem cs_morning (h : Inv n I L) (h6 : n ≤ 600) (i1 : vp_in (x + 1) sc.1) (i2 : vp_in (x + 2) sc.1) (i3 : vp_in (x + 3) sc.1) (i4 : vp_in (x + 4) sc.1) (i5 : vp_in (x + 5) sc.1) (i6 : vp_in (x + 6) sc.1) (K : ∀ J M tq, Inv (n + 1) J M → RR sc mL_law 30 600000 7302250 PL 151 4218 1353 [(3, .int x), (2, .ref 95), (1, .ref 0), (0, .ref 1300)] [] (XW J M tq)) : RR sc mL_law 30 600000 7302250 PL 151 4218 1107 [(3, .int x), (2, .ref 95), (1, .ref 0), (0, .ref 1300)] [] (XW I L tg) := by
  refine r_aload_n (j := 2) rfl rfl dL_law_1107 ?_
  refine w_run0 (st_morning h) (Nat.le_of_ble_eq_true rfl) lL_143 vmX11_morning rfl (Nat.le_of_ble_eq_true rfl) (Nat.le_of_ble_eq_true rfl) (Nat.le_of_ble_eq_true rfl) dL_law_1108 ⟨rfl, rfl⟩ rfl (fun v1108 J1108 K1108 t1108 h1108 => ?_)
  refine r_aload_n (j := 1) rfl rfl dL_law_1111 ?_
  refine w_run0 (h1108) (Nat.le_of_ble_eq_true rfl) lL_146 vmX12_morning rfl (Nat.le_of_ble_eq_true rfl) (Nat.le_of_ble_eq_true rfl) (Nat.le_of_ble_eq_true rfl) dL_law_1112 ⟨rfl, rfl⟩ rfl (fun v1112 J1112 K1112 t1112 h1112 => ?_)
  refine r_icmp_eq (tgt := 1353) dL_law_1115 (by decide) (fun c1115 => ?_) (fun c1115 => ?_)
  · exact K _ _ _ h1112.2
  · exact absurd h1112.1.symm c1115
theorem cs_order (h : Inv n I L) (h6 : n ≤ 600) (i1 : vp_in (x + 1) sc.1) (i2 : vp_in (x + 2) sc.1) (i3 : vp_in (x + 3) sc.1) (i4 : vp_in (x + 4) sc.1) (i5 : vp_in (x + 5) sc.1) (i6 : vp_in (x + 6) sc.1) (K : ∀ J M tq, Inv (n + 1) J M → RR sc mL_law 30 600000 7302250 PL 151 4218 1353 [(3, .int x), (2, .ref 95), (1, .ref 0), (0, .ref 1300)] [] (XW J M tq)) : RR sc mL_law 30 600000 7302250 PL 151 4218 1120 [(3, .int x), (2, .ref 95), (1, .ref 0), (0, .ref 1300)] [] (XW I L tg) := by
  refine r_aload_n (j := 2) rfl rfl dL_law_1120 ?_
  refine w_run0 (st_order h) (Nat.le_of_ble_eq_true rfl) lL_147 vmX11_order rfl (Nat.le_of_ble_eq_true rfl) (Nat.le_of_ble_eq_true rfl) (Nat.le_of_ble_eq_true rfl) dL_law_1121 ⟨rfl, rfl⟩ rfl (fun v1121 J1121 K1121 t1121 h1121 => ?_)
  refine r_aload_n (j := 1) rfl rfl dL_law_1124 ?_
  refine w_run0 (h1121) (Nat.le_of_ble_eq_true rfl) lL_150 vmX12_order rfl (Nat.le_of_ble_eq_true rfl) (Nat.le_of_ble_eq_true rfl) (Nat.le_of_ble_eq_true rfl) dL_law_1125 ⟨rfl, rfl⟩ rfl (fun v1125 J1125 K1125 t1125 h1125 => ?_)
  refine r_icmp_eq (tgt := 1353) dL_law_1128 (by decide) (fun c1128 => ?_) (fun c1128 => ?_)
  · exact K _ _ _ h1125.2
  · exact absurd h1125.1.symm c1128
theorem cs_best (h : Inv n I L) (h6 : n ≤ 600) (i1 : vp_in (x + 1) sc.1) (i2 : vp_in (x + 2) sc.1) (i3 : vp_in (x + 3) sc.1) (i4 : vp_in (x + 4) sc.1) (i5 : vp_in (x + 5) sc.1) (i6 : vp_in (x + 6) sc.1) (K : ∀ J M tq, Inv (n + 1) J M → RR sc mL_law 30 600000 7302250 PL 151 4218 1353 [(3, .int x), (2, .ref 95), (1, .ref 0), (0, .ref 1300)] [] (XW J M tq)) : RR sc mL_law 30 600000 7302250 PL 151 4218 1133 [(3, .int x), (2, .ref 95), (1, .ref 0), (0, .ref 1300)] [] (XW I L tg) := by
  refine r_aload_n (j := 2) rfl rfl dL_law_1133 ?_
  refine r_aload_n (j := 3) rfl rfl dL_law_1134 ?_
  refine r_iload_n (j := 0) rfl rfl dL_law_1135 ?_
  refine r_iconst (v := 1) rfl dL_law_1136 ?_
  refine r_iadd dL_law_1137 ?_
  refine r_sld (i1) dL_law_1138 ?_
  refine w_run1 (st_best h) (Nat.le_of_ble_eq_true rfl) lL_151 vmX11_best rfl (Nat.le_of_ble_eq_true rfl) (Nat.le_of_ble_eq_true rfl) (Nat.le_of_ble_eq_true rfl) dL_law_1139 ⟨rfl, rfl⟩ rfl (fun v1139 J1139 K1139 t1139 h1139 => ?_)
  refine r_aload_n (j := 1) rfl rfl dL_law_1142 ?_
  refine r_aload_n (j := 3) rfl rfl dL_law_1143 ?_
  refine r_iload_n (j := 0) rfl rfl dL_law_1144 ?_
  refine r_iconst (v := 1) rfl dL_law_1145 ?_
  refine r_iadd dL_law_1146 ?_
  refine r_sld (i1) dL_law_1147 ?_
  refine w_run1 (h1139) (Nat.le_of_ble_eq_true rfl) lL_154 vmX12_best rfl (Nat.le_of_ble_eq_true rfl) (Nat.le_of_ble_eq_true rfl) (Nat.le_of_ble_eq_true rfl) dL_law_1148 ⟨rfl, rfl⟩ rfl (fun v1148 J1148 K1148 t1148 h1148 => ?_)
  refine r_icmp_eq (tgt := 1353) dL_law_1151 (by decide) (fun c1151 => ?_) (fun c1151 => ?_)
  · exact K _ _ _ h1148.2
  · exact absurd h1148.1.symm c1151
theorem cs_goes (h : Inv n I L) (h6 : n ≤ 600) (i1 : vp_in (x + 1) sc.1) (i2 : vp_in (x + 2) sc.1) (i3 : vp_in (x + 3) sc.1) (i4 : vp_in (x + 4) sc.1) (i5 : vp_in (x + 5) sc.1) (i6 : vp_in (x + 6) sc.1) (K : ∀ J M tq, Inv (n + 1) J M → RR sc mL_law 30 600000 7302250 PL 151 4218 1353 [(3, .int x), (2, .ref 95), (1, .ref 0), (0, .ref 1300)] [] (XW J M tq)) : RR sc mL_law 30 600000 7302250 PL 151 4218 1156 [(3, .int x), (2, .ref 95), (1, .ref 0), (0, .ref 1300)] [] (XW I L tg) := by
  refine r_aload_n (j := 2) rfl rfl dL_law_1156 ?_
  refine r_aload_n (j := 3) rfl rfl dL_law_1157 ?_
  refine r_iload_n (j := 0) rfl rfl dL_law_1158 ?_
  refine r_iconst (v := 1) rfl dL_law_1159 ?_
  refine r_iadd dL_law_1160 ?_
  refine r_sld (i1) dL_law_1161 ?_
  refine r_aload_n (j := 3) rfl rfl dL_law_1162 ?_
  refine r_iload_n (j := 0) rfl rfl dL_law_1163 ?_
  refine r_iconst (v := 2) rfl dL_law_1164 ?_
  refine r_iadd dL_law_1165 ?_
  refine r_sld (i2) dL_law_1166 ?_
  refine w_run2 (st_goes h) (Nat.le_of_ble_eq_true rfl) lL_155 vmX11_goes rfl (Nat.le_of_ble_eq_true rfl) (Nat.le_of_ble_eq_true rfl) (Nat.le_of_ble_eq_true rfl) dL_law_1167 ⟨rfl, rfl⟩ rfl (fun v1167 J1167 K1167 t1167 h1167 => ?_)
  refine r_aload_n (j := 1) rfl rfl dL_law_1170 ?_
  refine r_aload_n (j := 3) rfl rfl dL_law_1171 ?_
  refine r_iload_n (j := 0) rfl rfl dL_law_1172 ?_
  refine r_iconst (v := 1) rfl dL_law_1173 ?_
  refine r_iadd dL_law_1174 ?_
  refine r_sld (i1) dL_law_1175 ?_
  refine r_aload_n (j := 3) rfl rfl dL_law_1176 ?_
  refine r_iload_n (j := 0) rfl rfl dL_law_1177 ?_
  refine r_iconst (v := 2) rfl dL_law_1178 ?_
  refine r_iadd dL_law_1179 ?_
  refine r_sld (i2) dL_law_1180 ?_
  refine w_run2 (h1167) (Nat.le_of_ble_eq_true rfl) lL_158 vmX12_goes rfl (Nat.le_of_ble_eq_true rfl) (Nat.le_of_ble_eq_true rfl) (Nat.le_of_ble_eq_true rfl) dL_law_1181 ⟨rfl, rfl⟩ rfl (fun v1181 J1181 K1181 t1181 h1181 => ?_)
  refine r_icmp_eq (tgt := 1353) dL_law_1184 (by decide) (fun c1184 => ?_) (fun c1184 => ?_)
  · exact K _ _ _ h1181.2
  · exact absurd h1181.1.symm c1184
theorem cs_list (h : Inv n I L) (h6 : n ≤ 600) (i1 : vp_in (x + 1) sc.1) (i2 : vp_in (x + 2) sc.1) (i3 : vp_in (x + 3) sc.1) (i4 : vp_in (x + 4) sc.1) (i5 : vp_in (x + 5) sc.1) (i6 : vp_in (x + 6) sc.1) (K : ∀ J M tq, Inv (n + 1) J M → RR sc mL_law 30 600000 7302250 PL 151 4218 1353 [(3, .int x), (2, .ref 95), (1, .ref 0), (0, .ref 1300)] [] (XW J M tq)) : RR sc mL_law 30 600000 7302250 PL 151 4218 1189 [(3, .int x), (2, .ref 95), (1, .ref 0), (0, .ref 1300)] [] (XW I L tg) := by
  refine r_aload_n (j := 2) rfl rfl dL_law_1189 ?_
  refine r_aload_n (j := 3) rfl rfl dL_law_1190 ?_
  refine r_iload_n (j := 0) rfl rfl dL_law_1191 ?_
  refine r_iconst (v := 1) rfl dL_law_1192 ?_
  refine r_iadd dL_law_1193 ?_
  refine r_sld (i1) dL_law_1194 ?_
  refine r_aload_n (j := 3) rfl rfl dL_law_1195 ?_
  refine r_iload_n (j := 0) rfl rfl dL_law_1196 ?_
  refine r_iconst (v := 2) rfl dL_law_1197 ?_
  refine r_iadd dL_law_1198 ?_
  refine r_sld (i2) dL_law_1199 ?_
  refine r_aload_n (j := 3) rfl rfl dL_law_1200 ?_
  refine r_iload_n (j := 0) rfl rfl dL_law_1201 ?_
  refine r_iconst (v := 3) rfl dL_law_1202 ?_
  refine r_iadd dL_law_1203 ?_
  refine r_sld (i3) dL_law_1204 ?_
  refine r_aload_n (j := 3) rfl rfl dL_law_1205 ?_
  refine r_iload_n (j := 0) rfl rfl dL_law_1206 ?_
  refine r_iconst (v := 4) rfl dL_law_1207 ?_
  refine r_iadd dL_law_1208 ?_
  refine r_sld (i4) dL_law_1209 ?_
  refine r_aload_n (j := 3) rfl rfl dL_law_1210 ?_
  refine r_iload_n (j := 0) rfl rfl dL_law_1211 ?_
  refine r_iconst (v := 5) rfl dL_law_1212 ?_
  refine r_iadd dL_law_1213 ?_
  refine r_sld (i5) dL_law_1214 ?_
  refine r_aload_n (j := 3) rfl rfl dL_law_1215 ?_
  refine r_iload_n (j := 0) rfl rfl dL_law_1216 ?_
  refine r_bipush (v := 6) rfl dL_law_1217 ?_
  refine r_iadd dL_law_1219 ?_
  refine r_sld (i6) dL_law_1220 ?_
  refine w_run6 (st_list h) (Nat.le_of_ble_eq_true rfl) lL_159 vmX11_list rfl (Nat.le_of_ble_eq_true rfl) (Nat.le_of_ble_eq_true rfl) (Nat.le_of_ble_eq_true rfl) dL_law_1221 ⟨rfl, rfl⟩ rfl (fun v1221 J1221 K1221 t1221 h1221 => ?_)
  refine r_aload_n (j := 1) rfl rfl dL_law_1224 ?_
  refine r_aload_n (j := 3) rfl rfl dL_law_1225 ?_
  refine r_iload_n (j := 0) rfl rfl dL_law_1226 ?_
  refine r_iconst (v := 1) rfl dL_law_1227 ?_
  refine r_iadd dL_law_1228 ?_
  refine r_sld (i1) dL_law_1229 ?_
  refine r_aload_n (j := 3) rfl rfl dL_law_1230 ?_
  refine r_iload_n (j := 0) rfl rfl dL_law_1231 ?_
  refine r_iconst (v := 2) rfl dL_law_1232 ?_
  refine r_iadd dL_law_1233 ?_
  refine r_sld (i2) dL_law_1234 ?_
  refine r_aload_n (j := 3) rfl rfl dL_law_1235 ?_
  refine r_iload_n (j := 0) rfl rfl dL_law_1236 ?_
  refine r_iconst (v := 3) rfl dL_law_1237 ?_
  refine r_iadd dL_law_1238 ?_
  refine r_sld (i3) dL_law_1239 ?_
  refine r_aload_n (j := 3) rfl rfl dL_law_1240 ?_
  refine r_iload_n (j := 0) rfl rfl dL_law_1241 ?_
  refine r_iconst (v := 4) rfl dL_law_1242 ?_
  refine r_iadd dL_law_1243 ?_
  refine r_sld (i4) dL_law_1244 ?_
  refine r_aload_n (j := 3) rfl rfl dL_law_1245 ?_
  refine r_iload_n (j := 0) rfl rfl dL_law_1246 ?_
  refine r_iconst (v := 5) rfl dL_law_1247 ?_
  refine r_iadd dL_law_1248 ?_
  refine r_sld (i5) dL_law_1249 ?_
  refine r_aload_n (j := 3) rfl rfl dL_law_1250 ?_
  refine r_iload_n (j := 0) rfl rfl dL_law_1251 ?_
  refine r_bipush (v := 6) rfl dL_law_1252 ?_
  refine r_iadd dL_law_1254 ?_
  refine r_sld (i6) dL_law_1255 ?_
  refine w_run6 (h1221) (Nat.le_of_ble_eq_true rfl) lL_163 vmX12_list rfl (Nat.le_of_ble_eq_true rfl) (Nat.le_of_ble_eq_true rfl) (Nat.le_of_ble_eq_true rfl) dL_law_1256 ⟨rfl, rfl⟩ rfl (fun v1256 J1256 K1256 t1256 h1256 => ?_)
  refine r_icmp_eq (tgt := 1353) dL_law_1259 (by decide) (fun c1259 => ?_) (fun c1259 => ?_)
  · exact K _ _ _ h1256.2
  · exact absurd h1256.1.symm c1259
theorem cs_listed (h : Inv n I L) (h6 : n ≤ 600) (i1 : vp_in (x + 1) sc.1) (i2 : vp_in (x + 2) sc.1) (i3 : vp_in (x + 3) sc.1) (i4 : vp_in (x + 4) sc.1) (i5 : vp_in (x + 5) sc.1) (i6 : vp_in (x + 6) sc.1) (K : ∀ J M tq, Inv (n + 1) J M → RR sc mL_law 30 600000 7302250 PL 151 4218 1353 [(3, .int x), (2, .ref 95), (1, .ref 0), (0, .ref 1300)] [] (XW J M tq)) : RR sc mL_law 30 600000 7302250 PL 151 4218 1264 [(3, .int x), (2, .ref 95), (1, .ref 0), (0, .ref 1300)] [] (XW I L tg) := by
  refine r_aload_n (j := 2) rfl rfl dL_law_1264 ?_
  refine r_aload_n (j := 3) rfl rfl dL_law_1265 ?_
  refine r_iload_n (j := 0) rfl rfl dL_law_1266 ?_
  refine r_iconst (v := 1) rfl dL_law_1267 ?_
  refine r_iadd dL_law_1268 ?_
  refine r_sld (i1) dL_law_1269 ?_
  refine w_run1 (st_listed h) (Nat.le_of_ble_eq_true rfl) lL_164 vmX11_listed rfl (Nat.le_of_ble_eq_true rfl) (Nat.le_of_ble_eq_true rfl) (Nat.le_of_ble_eq_true rfl) dL_law_1270 ⟨rfl, rfl⟩ rfl (fun v1270 J1270 K1270 t1270 h1270 => ?_)
  refine r_aload_n (j := 1) rfl rfl dL_law_1273 ?_
  refine r_aload_n (j := 3) rfl rfl dL_law_1274 ?_
  refine r_iload_n (j := 0) rfl rfl dL_law_1275 ?_
  refine r_iconst (v := 1) rfl dL_law_1276 ?_
  refine r_iadd dL_law_1277 ?_
  refine r_sld (i1) dL_law_1278 ?_
  refine w_run1 (h1270) (Nat.le_of_ble_eq_true rfl) lL_167 vmX12_listed rfl (Nat.le_of_ble_eq_true rfl) (Nat.le_of_ble_eq_true rfl) (Nat.le_of_ble_eq_true rfl) dL_law_1279 ⟨rfl, rfl⟩ rfl (fun v1279 J1279 K1279 t1279 h1279 => ?_)
  refine r_icmp_eq (tgt := 1353) dL_law_1282 (by decide) (fun c1282 => ?_) (fun c1282 => ?_)
  · exact K _ _ _ h1279.2
  · exact absurd h1279.1.symm c1282
theorem cs_across (h : Inv n I L) (h6 : n ≤ 600) (i1 : vp_in (x + 1) sc.1) (i2 : vp_in (x + 2) sc.1) (i3 : vp_in (x + 3) sc.1) (i4 : vp_in (x + 4) sc.1) (i5 : vp_in (x + 5) sc.1) (i6 : vp_in (x + 6) sc.1) (K : ∀ J M tq, Inv (n + 1) J M → RR sc mL_law 30 600000 7302250 PL 151 4218 1353 [(3, .int x), (2, .ref 95), (1, .ref 0), (0, .ref 1300)] [] (XW J M tq)) : RR sc mL_law 30 600000 7302250 PL 151 4218 1287 [(3, .int x), (2, .ref 95), (1, .ref 0), (0, .ref 1300)] [] (XW I L tg) := by
  refine r_aload_n (j := 2) rfl rfl dL_law_1287 ?_
  refine r_aload_n (j := 3) rfl rfl dL_law_1288 ?_
  refine r_iload_n (j := 0) rfl rfl dL_law_1289 ?_
  refine r_iconst (v := 1) rfl dL_law_1290 ?_
  refine r_iadd dL_law_1291 ?_
  refine r_sld (i1) dL_law_1292 ?_
  refine r_aload_n (j := 3) rfl rfl dL_law_1293 ?_
  refine r_iload_n (j := 0) rfl rfl dL_law_1294 ?_
  refine r_iconst (v := 2) rfl dL_law_1295 ?_
  refine r_iadd dL_law_1296 ?_
  refine r_sld (i2) dL_law_1297 ?_
  refine r_aload_n (j := 3) rfl rfl dL_law_1298 ?_
  refine r_iload_n (j := 0) rfl rfl dL_law_1299 ?_
  refine r_iconst (v := 3) rfl dL_law_1300 ?_
  refine r_iadd dL_law_1301 ?_
  refine r_sld (i3) dL_law_1302 ?_
  refine w_run3 (st_across h) (Nat.le_of_ble_eq_true rfl) lL_168 vmX11_across rfl (Nat.le_of_ble_eq_true rfl) (Nat.le_of_ble_eq_true rfl) (Nat.le_of_ble_eq_true rfl) dL_law_1303 ⟨rfl, rfl⟩ rfl (fun v1303 J1303 K1303 t1303 h1303 => ?_)
  refine r_aload_n (j := 1) rfl rfl dL_law_1306 ?_
  refine r_aload_n (j := 3) rfl rfl dL_law_1307 ?_
  refine r_iload_n (j := 0) rfl rfl dL_law_1308 ?_
  refine r_iconst (v := 1) rfl dL_law_1309 ?_
  refine r_iadd dL_law_1310 ?_
  refine r_sld (i1) dL_law_1311 ?_
  refine r_aload_n (j := 3) rfl rfl dL_law_1312 ?_
  refine r_iload_n (j := 0) rfl rfl dL_law_1313 ?_
  refine r_iconst (v := 2) rfl dL_law_1314 ?_
  refine r_iadd dL_law_1315 ?_
  refine r_sld (i2) dL_law_1316 ?_
  refine r_aload_n (j := 3) rfl rfl dL_law_1317 ?_
  refine r_iload_n (j := 0) rfl rfl dL_law_1318 ?_
  refine r_iconst (v := 3) rfl dL_law_1319 ?_
  refine r_iadd dL_law_1320 ?_
  refine r_sld (i3) dL_law_1321 ?_
  refine w_run3 (h1303) (Nat.le_of_ble_eq_true rfl) lL_171 vmX12_across rfl (Nat.le_of_ble_eq_true rfl) (Nat.le_of_ble_eq_true rfl) (Nat.le_of_ble_eq_true rfl) dL_law_1322 ⟨rfl, rfl⟩ rfl (fun v1322 J1322 K1322 t1322 h1322 => ?_)
  refine r_icmp_eq (tgt := 1353) dL_law_1325 (by decide) (fun c1325 => ?_) (fun c1325 => ?_)
  · exact K _ _ _ h1322.2
  · exact absurd h1322.1.symm c1325
theorem cs_count (h : Inv n I L) (h6 : n ≤ 600) (i1 : vp_in (x + 1) sc.1) (i2 : vp_in (x + 2) sc.1) (i3 : vp_in (x + 3) sc.1) (i4 : vp_in (x + 4) sc.1) (i5 : vp_in (x + 5) sc.1) (i6 : vp_in (x + 6) sc.1) (K : ∀ J M tq, Inv (n + 1) J M → RR sc mL_law 30 600000 7302250 PL 151 4218 1353 [(3, .int x), (2, .ref 95), (1, .ref 0), (0, .ref 1300)] [] (XW J M tq)) : RR sc mL_law 30 600000 7302250 PL 151 4218 1330 [(3, .int x), (2, .ref 95), (1, .ref 0), (0, .ref 1300)] [] (XW I L tg) := by
  refine r_aload_n (j := 2) rfl rfl dL_law_1330 ?_
  refine r_aload_n (j := 3) rfl rfl dL_law_1331 ?_
  refine r_iload_n (j := 0) rfl rfl dL_law_1332 ?_
  refine r_iconst (v := 1) rfl dL_law_1333 ?_
  refine r_iadd dL_law_1334 ?_
  refine r_sld (i1) dL_law_1335 ?_
  refine w_run1 (st_count h) (Nat.le_of_ble_eq_true rfl) lL_172 vmX11_count rfl (Nat.le_of_ble_eq_true rfl) (Nat.le_of_ble_eq_true rfl) (Nat.le_of_ble_eq_true rfl) dL_law_1336 ⟨rfl, rfl⟩ rfl (fun v1336 J1336 K1336 t1336 h1336 => ?_)
  refine r_aload_n (j := 1) rfl rfl dL_law_1339 ?_
  refine r_aload_n (j := 3) rfl rfl dL_law_1340 ?_
  refine r_iload_n (j := 0) rfl rfl dL_law_1341 ?_
  refine r_iconst (v := 1) rfl dL_law_1342 ?_
  refine r_iadd dL_law_1343 ?_
  refine r_sld (i1) dL_law_1344 ?_
  refine w_run1 (h1336) (Nat.le_of_ble_eq_true rfl) lL_175 vmX12_count rfl (Nat.le_of_ble_eq_true rfl) (Nat.le_of_ble_eq_true rfl) (Nat.le_of_ble_eq_true rfl) dL_law_1345 ⟨rfl, rfl⟩ rfl (fun v1345 J1345 K1345 t1345 h1345 => ?_)
  refine r_icmp_eq (tgt := 1353) dL_law_1348 (by decide) (fun c1348 => ?_) (fun c1348 => ?_)
  · exact K _ _ _ h1345.2
  · exact absurd h1345.1.symm c1348
end
