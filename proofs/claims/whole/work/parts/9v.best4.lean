/-! best: what the component's rows give -/
section
variable {I : Is}
theorem rd_i {P : Nat} (h : iN I) (hP : I 84 7 = nI P) (h8 : P ≤ 8) : rdOk (I 86) (I 87) (nN (I 84 8)) ∧ ∀ p, p < P → ndOk (I 85 p) := by
  obtain ⟨P', R, q, p8, r5, q8, e1, e2, e3, e4, e5, e6, hp, hr, ⟨o1, o2, o3⟩, hg⟩ := h
  have n8 : nN (I 84 8) = R := by rw [e3]; exact nI_clamp (by omega)
  have n9 : nN (I 95 84) = R := by rw [e4]; exact nI_clamp (by omega)
  have eP : P' = P := (nI_ij (by omega) (by omega)).mp (e1.symm.trans hP)
  subst eP
  rw [n8]
  rw [n9] at o2
  refine ⟨⟨o2.1, fun r hrr => ?_⟩, fun p hpp => ?_⟩
  · rw [(hr r hrr).1, (hr r hrr).2]; exact o2.2 r hrr
  · rw [hp p hpp]; exact o3 p hpp
theorem ob_ok {P : Nat} (h : iN I) (hP : I 84 7 = nI P) (h8 : P ≤ 8) : outOk (outI I) P ∧ befOk (outI I) (befI I) P := by
  obtain ⟨hr, hn⟩ := rd_i h hP h8
  refine ⟨fun p hp => ⟨fun m m0 m1 => ?_, fun m m' m0 m1 m2 => ?_⟩, fun p hp m u m0 m1 u0 u1 => ⟨?_, ?_⟩⟩
  · have := ou_rng hr (hn p hp) (m := m) ⟨m0, by omega⟩
    show m.toInt ≤ (ouR (I 85) (I 86) (I 87) (nN (I 84 8)) p m).toInt ∧ (ouR (I 85) (I 86) (I 87) (nN (I 84 8)) p m).toInt ≤ m.toInt + 623
    omega
  · exact ou_mono hr (hn p hp) m0 m1 (by omega)
  · exact ou_be hr (hn p hp) ⟨m0, by omega⟩ ⟨u0, by omega⟩
  · have b := (beR_ok hr (hn p hp) (u := u) ⟨u0, by omega⟩).1
    have n1 := (hn p hp).1
    show (beR (I 85) (I 86) (I 87) (nN (I 84 8)) p u).toInt ≤ u.toInt
    have := b.1.1
    omega
end
