/-! WHAT IS THERE BEFORE THE LAW BEGINS -/
def FW : List Cond := flatC (Jvm.Cond.and given_1 narrow_1)
theorem fw_at {ws : Nat → Cond} {N : Nat} {ix : List Nat} (h : (List.range N).all (fun k => decide (FW[ix.getD k 0]? = some (ws k))) = true) : ∀ k, k < N → ws k ∈ FW := by
  intro k hk
  have h1 := of_decide_eq_true (List.all_eq_true.mp h k (List.mem_range.mpr hk))
  exact List.mem_of_getElem? h1
theorem tw_at {ws : Nat → Cond} {N : Nat} {ix : List Nat} (h : (List.range N).all (fun k => decide (tables_1[ix.getD k 0]? = some (ws k))) = true) : ∀ k, k < N → ws k ∈ lw_tbl := by
  intro k hk
  have h1 := of_decide_eq_true (List.all_eq_true.mp h k (List.mem_range.mpr hk))
  exact List.mem_append_right _ (List.mem_of_getElem? h1)
theorem st_tab {args : Array Value} {s : State} {A : Nat → Prop} {C n : String} {t : List Int32} (hs : ∀ c ∈ FW, c.before args s = true) (h31 : t.length < 2 ^ 31) (h1 : Cond.arrayOf (.static C n "[I") .int ∈ FW) (h2 : Cond.eq (.length (.static C n "[I")) (.int (Int32.ofNat t.length)) ∈ FW) (h3 : ∀ j, j < t.length → Cond.eq (.elem (.static C n "[I") (.int (Int32.ofNat j))) (.int (t.getD j 0)) ∈ FW) (hA : ∀ a : Nat, a < s.heap.size → ¬ A a) : ∃ q : Nat, (Term.static C n "[I").eval args s none [] s = some (.ref q) ∧ va_T .int q t.length (fun k => .int (t.getD k 0)) A s s.heap :=
  va_Tof h31 (hs _ h1) (va_eqt (hs _ h2)) (fun j hj => va_eqt (hs _ (h3 j hj))) hA
theorem fwt0_a : Cond.arrayOf (.static RX0 "UNTOLD" "[I") .int ∈ FW := fw_at (N := 1) (ws := fun _ => Cond.arrayOf (.static RX0 "UNTOLD" "[I") .int) (ix := [5]) (by decide +kernel) 0 (by decide)
theorem fwt0_l : Cond.eq (.length (.static RX0 "UNTOLD" "[I")) (.int (Int32.ofNat tb0.length)) ∈ FW := fw_at (N := 1) (ws := fun _ => Cond.eq (.length (.static RX0 "UNTOLD" "[I")) (.int (Int32.ofNat tb0.length))) (ix := [6]) (by decide +kernel) 0 (by decide)
theorem fwt0_e : ∀ j, j < tb0.length → Cond.eq (.elem (.static RX0 "UNTOLD" "[I") (.int (Int32.ofNat j))) (.int (tb0.getD j 0)) ∈ FW := fw_at (N := tb0.length) (ws := fun j => Cond.eq (.elem (.static RX0 "UNTOLD" "[I") (.int (Int32.ofNat j))) (.int (tb0.getD j 0))) (ix := [7, 8, 9, 10, 11, 12, 13, 14, 15, 16, 17, 18, 19, 20]) (by decide +kernel)
theorem fwt1_a : Cond.arrayOf (.static RX8 "WORDS" "[I") .int ∈ FW := fw_at (N := 1) (ws := fun _ => Cond.arrayOf (.static RX8 "WORDS" "[I") .int) (ix := [22]) (by decide +kernel) 0 (by decide)
theorem fwt1_l : Cond.eq (.length (.static RX8 "WORDS" "[I")) (.int (Int32.ofNat tb1.length)) ∈ FW := fw_at (N := 1) (ws := fun _ => Cond.eq (.length (.static RX8 "WORDS" "[I")) (.int (Int32.ofNat tb1.length))) (ix := [23]) (by decide +kernel) 0 (by decide)
theorem fwt1_e : ∀ j, j < tb1.length → Cond.eq (.elem (.static RX8 "WORDS" "[I") (.int (Int32.ofNat j))) (.int (tb1.getD j 0)) ∈ FW := fw_at (N := tb1.length) (ws := fun j => Cond.eq (.elem (.static RX8 "WORDS" "[I") (.int (Int32.ofNat j))) (.int (tb1.getD j 0))) (ix := [24, 25, 26, 27, 28, 29, 30, 31, 32, 33, 34, 35, 36, 37, 38]) (by decide +kernel)
theorem fwt2_a : Cond.arrayOf (.static RX8 "NUMBERS" "[I") .int ∈ FW := fw_at (N := 1) (ws := fun _ => Cond.arrayOf (.static RX8 "NUMBERS" "[I") .int) (ix := [45]) (by decide +kernel) 0 (by decide)
theorem fwt2_l : Cond.eq (.length (.static RX8 "NUMBERS" "[I")) (.int (Int32.ofNat tb2.length)) ∈ FW := fw_at (N := 1) (ws := fun _ => Cond.eq (.length (.static RX8 "NUMBERS" "[I")) (.int (Int32.ofNat tb2.length))) (ix := [46]) (by decide +kernel) 0 (by decide)
theorem fwt2_e : ∀ j, j < tb2.length → Cond.eq (.elem (.static RX8 "NUMBERS" "[I") (.int (Int32.ofNat j))) (.int (tb2.getD j 0)) ∈ FW := fw_at (N := tb2.length) (ws := fun j => Cond.eq (.elem (.static RX8 "NUMBERS" "[I") (.int (Int32.ofNat j))) (.int (tb2.getD j 0))) (ix := [47, 48, 49, 50, 51, 52, 53, 54, 55, 56, 57, 58, 59, 60, 61]) (by decide +kernel)
theorem fwt3_a : Cond.arrayOf (.static RX8 "LEAST" "[I") .int ∈ FW := fw_at (N := 1) (ws := fun _ => Cond.arrayOf (.static RX8 "LEAST" "[I") .int) (ix := [81]) (by decide +kernel) 0 (by decide)
theorem fwt3_l : Cond.eq (.length (.static RX8 "LEAST" "[I")) (.int (Int32.ofNat tb3.length)) ∈ FW := fw_at (N := 1) (ws := fun _ => Cond.eq (.length (.static RX8 "LEAST" "[I")) (.int (Int32.ofNat tb3.length))) (ix := [82]) (by decide +kernel) 0 (by decide)
theorem fwt3_e : ∀ j, j < tb3.length → Cond.eq (.elem (.static RX8 "LEAST" "[I") (.int (Int32.ofNat j))) (.int (tb3.getD j 0)) ∈ FW := fw_at (N := tb3.length) (ws := fun j => Cond.eq (.elem (.static RX8 "LEAST" "[I") (.int (Int32.ofNat j))) (.int (tb3.getD j 0))) (ix := [83, 84, 85, 86, 87, 88, 89, 90, 91, 92, 93, 94, 95, 96, 97, 98, 99, 100, 101, 102]) (by decide +kernel)
theorem fwt4_a : Cond.arrayOf (.static RX8 "GREATEST" "[I") .int ∈ FW := fw_at (N := 1) (ws := fun _ => Cond.arrayOf (.static RX8 "GREATEST" "[I") .int) (ix := [104]) (by decide +kernel) 0 (by decide)
theorem fwt4_l : Cond.eq (.length (.static RX8 "GREATEST" "[I")) (.int (Int32.ofNat tb4.length)) ∈ FW := fw_at (N := 1) (ws := fun _ => Cond.eq (.length (.static RX8 "GREATEST" "[I")) (.int (Int32.ofNat tb4.length))) (ix := [105]) (by decide +kernel) 0 (by decide)
theorem fwt4_e : ∀ j, j < tb4.length → Cond.eq (.elem (.static RX8 "GREATEST" "[I") (.int (Int32.ofNat j))) (.int (tb4.getD j 0)) ∈ FW := fw_at (N := tb4.length) (ws := fun j => Cond.eq (.elem (.static RX8 "GREATEST" "[I") (.int (Int32.ofNat j))) (.int (tb4.getD j 0))) (ix := [106, 107, 108, 109, 110, 111, 112, 113, 114, 115, 116, 117, 118, 119, 120, 121, 122, 123, 124, 125]) (by decide +kernel)
theorem fwt5_a : Cond.arrayOf (.static RX9 "ALONG" "[I") .int ∈ FW := fw_at (N := 1) (ws := fun _ => Cond.arrayOf (.static RX9 "ALONG" "[I") .int) (ix := [127]) (by decide +kernel) 0 (by decide)
theorem fwt5_l : Cond.eq (.length (.static RX9 "ALONG" "[I")) (.int (Int32.ofNat tb5.length)) ∈ FW := fw_at (N := 1) (ws := fun _ => Cond.eq (.length (.static RX9 "ALONG" "[I")) (.int (Int32.ofNat tb5.length))) (ix := [128]) (by decide +kernel) 0 (by decide)
theorem fwt5_e : ∀ j, j < tb5.length → Cond.eq (.elem (.static RX9 "ALONG" "[I") (.int (Int32.ofNat j))) (.int (tb5.getD j 0)) ∈ FW := fw_at (N := tb5.length) (ws := fun j => Cond.eq (.elem (.static RX9 "ALONG" "[I") (.int (Int32.ofNat j))) (.int (tb5.getD j 0))) (ix := [129, 130, 131, 132, 133, 134, 135, 136]) (by decide +kernel)
theorem fwt6_a : Cond.arrayOf (.static RX9 "TOWARD" "[I") .int ∈ FW := fw_at (N := 1) (ws := fun _ => Cond.arrayOf (.static RX9 "TOWARD" "[I") .int) (ix := [138]) (by decide +kernel) 0 (by decide)
theorem fwt6_l : Cond.eq (.length (.static RX9 "TOWARD" "[I")) (.int (Int32.ofNat tb6.length)) ∈ FW := fw_at (N := 1) (ws := fun _ => Cond.eq (.length (.static RX9 "TOWARD" "[I")) (.int (Int32.ofNat tb6.length))) (ix := [139]) (by decide +kernel) 0 (by decide)
theorem fwt6_e : ∀ j, j < tb6.length → Cond.eq (.elem (.static RX9 "TOWARD" "[I") (.int (Int32.ofNat j))) (.int (tb6.getD j 0)) ∈ FW := fw_at (N := tb6.length) (ws := fun j => Cond.eq (.elem (.static RX9 "TOWARD" "[I") (.int (Int32.ofNat j))) (.int (tb6.getD j 0))) (ix := [140, 141, 142, 143, 144, 145, 146, 147]) (by decide +kernel)
theorem fwt7_a : Cond.arrayOf (.static RX8 "BOUNDS_FROM" "[I") .int ∈ FW := fw_at (N := 1) (ws := fun _ => Cond.arrayOf (.static RX8 "BOUNDS_FROM" "[I") .int) (ix := [63]) (by decide +kernel) 0 (by decide)
theorem fwt7_l : Cond.eq (.length (.static RX8 "BOUNDS_FROM" "[I")) (.int (Int32.ofNat tb7.length)) ∈ FW := fw_at (N := 1) (ws := fun _ => Cond.eq (.length (.static RX8 "BOUNDS_FROM" "[I")) (.int (Int32.ofNat tb7.length))) (ix := [64]) (by decide +kernel) 0 (by decide)
theorem fwt7_e : ∀ j, j < tb7.length → Cond.eq (.elem (.static RX8 "BOUNDS_FROM" "[I") (.int (Int32.ofNat j))) (.int (tb7.getD j 0)) ∈ FW := fw_at (N := tb7.length) (ws := fun j => Cond.eq (.elem (.static RX8 "BOUNDS_FROM" "[I") (.int (Int32.ofNat j))) (.int (tb7.getD j 0))) (ix := [65, 66, 67, 68, 69, 70, 71, 72, 73, 74, 75, 76, 77, 78, 79]) (by decide +kernel)
theorem lsw0 : Cond.laysStatic RX0 "UNTOLD" "[I" ∈ lw_tbl := tw_at (N := 1) (ws := fun _ => Cond.laysStatic RX0 "UNTOLD" "[I") (ix := [54]) (by decide +kernel) 0 (by decide)
theorem lsw1 : Cond.laysStatic RX8 "WORDS" "[I" ∈ lw_tbl := tw_at (N := 1) (ws := fun _ => Cond.laysStatic RX8 "WORDS" "[I") (ix := [154]) (by decide +kernel) 0 (by decide)
theorem lsw2 : Cond.laysStatic RX8 "NUMBERS" "[I" ∈ lw_tbl := tw_at (N := 1) (ws := fun _ => Cond.laysStatic RX8 "NUMBERS" "[I") (ix := [616]) (by decide +kernel) 0 (by decide)
theorem lsw3 : Cond.laysStatic RX8 "LEAST" "[I" ∈ lw_tbl := tw_at (N := 1) (ws := fun _ => Cond.laysStatic RX8 "LEAST" "[I") (ix := [624]) (by decide +kernel) 0 (by decide)
theorem lsw4 : Cond.laysStatic RX8 "GREATEST" "[I" ∈ lw_tbl := tw_at (N := 1) (ws := fun _ => Cond.laysStatic RX8 "GREATEST" "[I") (ix := [626]) (by decide +kernel) 0 (by decide)
theorem lsw5 : Cond.laysStatic RX9 "ALONG" "[I" ∈ lw_tbl := tw_at (N := 1) (ws := fun _ => Cond.laysStatic RX9 "ALONG" "[I") (ix := [986]) (by decide +kernel) 0 (by decide)
theorem lsw6 : Cond.laysStatic RX9 "TOWARD" "[I" ∈ lw_tbl := tw_at (N := 1) (ws := fun _ => Cond.laysStatic RX9 "TOWARD" "[I") (ix := [1000]) (by decide +kernel) 0 (by decide)
theorem lsw7 : Cond.laysStatic RX8 "BOUNDS_FROM" "[I" ∈ lw_tbl := tw_at (N := 1) (ws := fun _ => Cond.laysStatic RX8 "BOUNDS_FROM" "[I") (ix := [622]) (by decide +kernel) 0 (by decide)
theorem lsw8 : Cond.laysStatic RJ0 "COMPACT_STRINGS" "Z" ∈ lw_tbl := tw_at (N := 1) (ws := fun _ => Cond.laysStatic RJ0 "COMPACT_STRINGS" "Z") (ix := [168]) (by decide +kernel) 0 (by decide)
theorem lsw9 : Cond.laysStatic RJ3 "SIOOBE_FORMATTER" "Ljava/util/function/BiFunction;" ∈ lw_tbl := tw_at (N := 1) (ws := fun _ => Cond.laysStatic RJ3 "SIOOBE_FORMATTER" "Ljava/util/function/BiFunction;") (ix := [184]) (by decide +kernel) 0 (by decide)
theorem fwcs : Cond.eq (.static RJ0 "COMPACT_STRINGS" "Z") (.int 1) ∈ FW := fw_at (N := 1) (ws := fun _ => Cond.eq (.static RJ0 "COMPACT_STRINGS" "Z") (.int 1)) (ix := [39]) (by decide +kernel) 0 (by decide)
theorem fwfm : Cond.isRef (.static RJ3 "SIOOBE_FORMATTER" "Ljava/util/function/BiFunction;") ∈ FW := fw_at (N := 1) (ws := fun _ => Cond.isRef (.static RJ3 "SIOOBE_FORMATTER" "Ljava/util/function/BiFunction;")) (ix := [40]) (by decide +kernel) 0 (by decide)
def tmR (i : Nat) : Term := .string (oR.getD i ("", 0, "", 0)).1 (oR.getD i ("", 0, "", 0)).2.1
theorem fws_ex : ∀ i, i < 16 → Cond.exactly (tmR i) "java/lang/String" ∈ FW := fw_at (ix := [148, 328, 342, 357, 373, 390, 409, 429, 448, 469, 491, 272, 280, 292, 304, 315]) (by decide +kernel)
theorem fws_co : ∀ i, i < 16 → Cond.eq (.field (tmR i) "java/lang/String" "coder" "B") (.int 0) ∈ FW := fw_at (ix := [149, 329, 343, 358, 374, 391, 410, 430, 449, 470, 492, 273, 281, 293, 305, 316]) (by decide +kernel)
theorem fws_ar : ∀ i, i < 16 → Cond.arrayOf (.field (tmR i) "java/lang/String" "value" "[B") .byte ∈ FW := fw_at (ix := [150, 330, 344, 359, 375, 392, 411, 431, 450, 471, 493, 274, 282, 294, 306, 317]) (by decide +kernel)
theorem fws_le : ∀ i, i < 16 → Cond.eq (.length (.field (tmR i) "java/lang/String" "value" "[B")) (.int (Int32.ofNat (oL.getD i 0))) ∈ FW := fw_at (ix := [151, 331, 345, 360, 376, 393, 412, 432, 451, 472, 494, 275, 283, 295, 307, 318]) (by decide +kernel)
theorem fws_e0 : ∀ j, j < oL.getD 0 0 → Cond.eq (.elem (.field (tmR 0) "java/lang/String" "value" "[B") (.int (Int32.ofNat j))) (.int ((oB.getD 0 []).getD j 0)) ∈ FW := fw_at (ix := [152, 153, 154, 155, 156, 157, 158, 159, 160, 161, 162, 163, 164, 165, 166, 167, 168, 169, 170, 171, 172, 173, 174, 175, 176, 177, 178, 179, 180, 181, 182, 183, 184, 185, 186, 187, 188, 189, 190, 191, 192, 193, 194, 195, 196, 197, 198, 199, 200, 201, 202, 203, 204, 205, 206, 207, 208, 209, 210, 211, 212, 213, 214, 215, 216, 217, 218, 219, 220, 221, 222, 223, 224, 225, 226, 227, 228, 229, 230, 231, 232, 233, 234, 235, 236, 237, 238, 239, 240, 241, 242, 243, 244, 245, 246, 247, 248, 249, 250, 251, 252, 253, 254, 255, 256, 257, 258, 259, 260, 261, 262, 263, 264, 265, 266, 267, 268, 269, 270, 271]) (by decide +kernel)
theorem fws_e1 : ∀ j, j < oL.getD 1 0 → Cond.eq (.elem (.field (tmR 1) "java/lang/String" "value" "[B") (.int (Int32.ofNat j))) (.int ((oB.getD 1 []).getD j 0)) ∈ FW := fw_at (ix := [332, 333, 334, 335]) (by decide +kernel)
theorem fws_e2 : ∀ j, j < oL.getD 2 0 → Cond.eq (.elem (.field (tmR 2) "java/lang/String" "value" "[B") (.int (Int32.ofNat j))) (.int ((oB.getD 2 []).getD j 0)) ∈ FW := fw_at (ix := [346, 347, 348, 349]) (by decide +kernel)
theorem fws_e3 : ∀ j, j < oL.getD 3 0 → Cond.eq (.elem (.field (tmR 3) "java/lang/String" "value" "[B") (.int (Int32.ofNat j))) (.int ((oB.getD 3 []).getD j 0)) ∈ FW := fw_at (ix := [361, 362, 363, 364]) (by decide +kernel)
theorem fws_e4 : ∀ j, j < oL.getD 4 0 → Cond.eq (.elem (.field (tmR 4) "java/lang/String" "value" "[B") (.int (Int32.ofNat j))) (.int ((oB.getD 4 []).getD j 0)) ∈ FW := fw_at (ix := [377, 378, 379, 380]) (by decide +kernel)
theorem fws_e5 : ∀ j, j < oL.getD 5 0 → Cond.eq (.elem (.field (tmR 5) "java/lang/String" "value" "[B") (.int (Int32.ofNat j))) (.int ((oB.getD 5 []).getD j 0)) ∈ FW := fw_at (ix := [394, 395, 396, 397, 398]) (by decide +kernel)
theorem fws_e6 : ∀ j, j < oL.getD 6 0 → Cond.eq (.elem (.field (tmR 6) "java/lang/String" "value" "[B") (.int (Int32.ofNat j))) (.int ((oB.getD 6 []).getD j 0)) ∈ FW := fw_at (ix := [413, 414, 415, 416, 417]) (by decide +kernel)
theorem fws_e7 : ∀ j, j < oL.getD 7 0 → Cond.eq (.elem (.field (tmR 7) "java/lang/String" "value" "[B") (.int (Int32.ofNat j))) (.int ((oB.getD 7 []).getD j 0)) ∈ FW := fw_at (ix := [433, 434, 435]) (by decide +kernel)
theorem fws_e8 : ∀ j, j < oL.getD 8 0 → Cond.eq (.elem (.field (tmR 8) "java/lang/String" "value" "[B") (.int (Int32.ofNat j))) (.int ((oB.getD 8 []).getD j 0)) ∈ FW := fw_at (ix := [452, 453, 454, 455]) (by decide +kernel)
theorem fws_e9 : ∀ j, j < oL.getD 9 0 → Cond.eq (.elem (.field (tmR 9) "java/lang/String" "value" "[B") (.int (Int32.ofNat j))) (.int ((oB.getD 9 []).getD j 0)) ∈ FW := fw_at (ix := [473, 474, 475, 476]) (by decide +kernel)
theorem fws_e10 : ∀ j, j < oL.getD 10 0 → Cond.eq (.elem (.field (tmR 10) "java/lang/String" "value" "[B") (.int (Int32.ofNat j))) (.int ((oB.getD 10 []).getD j 0)) ∈ FW := fw_at (ix := [495, 496, 497]) (by decide +kernel)
theorem fws_e11 : ∀ j, j < oL.getD 11 0 → Cond.eq (.elem (.field (tmR 11) "java/lang/String" "value" "[B") (.int (Int32.ofNat j))) (.int ((oB.getD 11 []).getD j 0)) ∈ FW := fw_at (ix := [276, 277, 278]) (by decide +kernel)
theorem fws_e12 : ∀ j, j < oL.getD 12 0 → Cond.eq (.elem (.field (tmR 12) "java/lang/String" "value" "[B") (.int (Int32.ofNat j))) (.int ((oB.getD 12 []).getD j 0)) ∈ FW := fw_at (ix := [284, 285, 286, 287, 288, 289]) (by decide +kernel)
theorem fws_e13 : ∀ j, j < oL.getD 13 0 → Cond.eq (.elem (.field (tmR 13) "java/lang/String" "value" "[B") (.int (Int32.ofNat j))) (.int ((oB.getD 13 []).getD j 0)) ∈ FW := fw_at (ix := [296, 297, 298, 299, 300]) (by decide +kernel)
theorem fws_e14 : ∀ j, j < oL.getD 14 0 → Cond.eq (.elem (.field (tmR 14) "java/lang/String" "value" "[B") (.int (Int32.ofNat j))) (.int ((oB.getD 14 []).getD j 0)) ∈ FW := fw_at (ix := [308, 309, 310]) (by decide +kernel)
theorem fws_e15 : ∀ j, j < oL.getD 15 0 → Cond.eq (.elem (.field (tmR 15) "java/lang/String" "value" "[B") (.int (Int32.ofNat j))) (.int ((oB.getD 15 []).getD j 0)) ∈ FW := fw_at (ix := [319, 320, 321, 322]) (by decide +kernel)
theorem fws_el : ∀ i, i < 16 → ∀ j, j < oL.getD i 0 → Cond.eq (.elem (.field (tmR i) "java/lang/String" "value" "[B") (.int (Int32.ofNat j))) (.int ((oB.getD i []).getD j 0)) ∈ FW := by
  intro i hi
  rcases (show i = 0 ∨ i = 1 ∨ i = 2 ∨ i = 3 ∨ i = 4 ∨ i = 5 ∨ i = 6 ∨ i = 7 ∨ i = 8 ∨ i = 9 ∨ i = 10 ∨ i = 11 ∨ i = 12 ∨ i = 13 ∨ i = 14 ∨ i = 15 by omega) with rfl | rfl | rfl | rfl | rfl | rfl | rfl | rfl | rfl | rfl | rfl | rfl | rfl | rfl | rfl | rfl
  · exact fws_e0
  · exact fws_e1
  · exact fws_e2
  · exact fws_e3
  · exact fws_e4
  · exact fws_e5
  · exact fws_e6
  · exact fws_e7
  · exact fws_e8
  · exact fws_e9
  · exact fws_e10
  · exact fws_e11
  · exact fws_e12
  · exact fws_e13
  · exact fws_e14
  · exact fws_e15
def pix : List Nat := [0, 336, 350, 365, 381, 399, 418, 436, 456, 477, 498, 279, 290, 301, 311, 323, 336, 0, 356, 371, 387, 405, 424, 442, 462, 483, 504, 337, 338, 339, 340, 341, 350, 356, 0, 372, 388, 406, 425, 443, 463, 484, 505, 351, 352, 353, 354, 355, 365, 371, 372, 0, 389, 407, 426, 444, 464, 485, 506, 366, 367, 368, 369, 370, 381, 387, 388, 389, 0, 408, 427, 445, 465, 486, 507, 382, 383, 384, 385, 386, 399, 405, 406, 407, 408, 0, 428, 446, 466, 487, 508, 400, 401, 402, 403, 404, 418, 424, 425, 426, 427, 428, 0, 447, 467, 488, 509, 419, 420, 421, 422, 423, 436, 442, 443, 444, 445, 446, 447, 0, 468, 489, 510, 437, 438, 439, 440, 441, 456, 462, 463, 464, 465, 466, 467, 468, 0, 490, 511, 457, 458, 459, 460, 461, 477, 483, 484, 485, 486, 487, 488, 489, 490, 0, 512, 478, 479, 480, 481, 482, 498, 504, 505, 506, 507, 508, 509, 510, 511, 512, 0, 499, 500, 501, 502, 503, 279, 337, 351, 366, 382, 400, 419, 437, 457, 478, 499, 0, 291, 302, 312, 324, 290, 338, 352, 367, 383, 401, 420, 438, 458, 479, 500, 291, 0, 303, 313, 325, 301, 339, 353, 368, 384, 402, 421, 439, 459, 480, 501, 302, 303, 0, 314, 326, 311, 340, 354, 369, 385, 403, 422, 440, 460, 481, 502, 312, 313, 314, 0, 327, 323, 341, 355, 370, 386, 404, 423, 441, 461, 482, 503, 324, 325, 326, 327, 0]
theorem fws_ne0 : (List.range 16).all (fun i => (List.range 16).all (fun j => decide (i = j) || decide (FW[pix.getD (16 * i + j) 0]? = some (Cond.not (Cond.eq (tmR i) (tmR j)))) || decide (FW[pix.getD (16 * i + j) 0]? = some (Cond.not (Cond.eq (tmR j) (tmR i)))))) = true := by decide +kernel
theorem fws_ne : ∀ i j : Nat, i < 16 → j < 16 → i ≠ j → Cond.not (Cond.eq (tmR i) (tmR j)) ∈ FW ∨ Cond.not (Cond.eq (tmR j) (tmR i)) ∈ FW := by
  intro i j hi hj hij
  have h := List.all_eq_true.mp (List.all_eq_true.mp fws_ne0 i (List.mem_range.mpr hi)) j (List.mem_range.mpr hj)
  simp only [Bool.or_eq_true, decide_eq_true_eq] at h
  rcases h with (h | h) | h
  · exact absurd h hij
  · exact Or.inl (List.mem_of_getElem? h)
  · exact Or.inr (List.mem_of_getElem? h)
theorem tws_r : ∀ i, i < 16 → Cond.stringRef (oR.getD i ("", 0, "", 0)).1 (oR.getD i ("", 0, "", 0)).2.1 (oR.getD i ("", 0, "", 0)).2.2.1 ∈ lw_tbl := tw_at (ix := [158, 1534, 1535, 1536, 1537, 1538, 1539, 1540, 1541, 1542, 1543, 1475, 1506, 1511, 1516, 1521]) (by decide +kernel)
def nFd : String × Nat × String × String × String × String := ("", 0, "", "", "", "")
def nMd : String × Nat × MethodName × String := ("", 0, ⟨"", "", ""⟩, "")
theorem tws_f : ∀ k, k < 58 → Cond.fieldLinkNest (nF.getD k nFd).1 (nF.getD k nFd).2.1 (nF.getD k nFd).2.2.1 (nF.getD k nFd).2.2.2.1 (nF.getD k nFd).2.2.2.2.1 (nF.getD k nFd).2.2.2.2.2 ∈ lw_tbl := tw_at (ix := [37, 39, 40, 68, 71, 73, 74, 75, 77, 78, 81, 84, 86, 88, 90, 91, 93, 94, 95, 96, 98, 99, 100, 101, 103, 104, 106, 107, 218, 221, 279, 280, 281, 291, 293, 295, 297, 299, 331, 332, 334, 335, 337, 338, 353, 373, 375, 377, 400, 402, 405, 441, 443, 447, 449, 451, 482, 486]) (by decide +kernel)
theorem tws_m : ∀ k, k < 11 → Cond.methodLinkNest (nM.getD k nMd).1 (nM.getD k nMd).2.1 (nM.getD k nMd).2.2.1 (nM.getD k nMd).2.2.2 ∈ lw_tbl := tw_at (ix := [32, 268, 274, 326, 348, 368, 387, 433, 475, 480, 956]) (by decide +kernel)
theorem tws_o : Cond.arrayOver (.object RX3) ∈ lw_tbl := tw_at (N := 1) (ws := fun _ => Cond.arrayOver (.object RX3)) (ix := [323]) (by decide +kernel) 0 (by decide)
theorem gtb_lw {w : Cond} (h : w ∈ gtb) : w ∈ lw_tbl := (List.mem_filter.mp h).1
theorem mem_gd {α : Type} {l : List α} {q d : α} (h : q ∈ l) : ∃ k, k < l.length ∧ l.getD k d = q := by
  obtain ⟨k, hk, e⟩ := List.getElem_of_mem h
  exact ⟨k, hk, by rw [List.getD_eq_getElem?_getD, List.getElem?_eq_getElem hk, e]; rfl⟩
theorem ST_at {s : State} {b L : Nat} {xs : Nat → Int32} (hts : ∀ w ∈ lw_tbl, w.before #[Value.ref b] s = true) (hX : va_X b L xs s s.heap) (hbl : b < s.heap.size) (hgv : (Jvm.Cond.and given_1 narrow_1).before #[Value.ref b] s = true) : ∃ ad : Nat → Nat, ad 1300 = b ∧ ST (L, xs) ad (fun q => s.heap.size ≤ q) s s.heap := by
  have hs : ∀ c ∈ FW, c.before #[Value.ref b] s = true := flat_of_before _ hgv
  have hA : ∀ a : Nat, a < s.heap.size → ¬ (fun q : Nat => s.heap.size ≤ q) a := fun a ha => Nat.not_le.mpr ha
  obtain ⟨t0, ht0, hT0⟩ := st_tab (A := fun q : Nat => s.heap.size ≤ q) hs (by decide) fwt0_a fwt0_l fwt0_e hA
  obtain ⟨t1, ht1, hT1⟩ := st_tab (A := fun q : Nat => s.heap.size ≤ q) hs (by decide) fwt1_a fwt1_l fwt1_e hA
  obtain ⟨t2, ht2, hT2⟩ := st_tab (A := fun q : Nat => s.heap.size ≤ q) hs (by decide) fwt2_a fwt2_l fwt2_e hA
  obtain ⟨t3, ht3, hT3⟩ := st_tab (A := fun q : Nat => s.heap.size ≤ q) hs (by decide) fwt3_a fwt3_l fwt3_e hA
  obtain ⟨t4, ht4, hT4⟩ := st_tab (A := fun q : Nat => s.heap.size ≤ q) hs (by decide) fwt4_a fwt4_l fwt4_e hA
  obtain ⟨t5, ht5, hT5⟩ := st_tab (A := fun q : Nat => s.heap.size ≤ q) hs (by decide) fwt5_a fwt5_l fwt5_e hA
  obtain ⟨t6, ht6, hT6⟩ := st_tab (A := fun q : Nat => s.heap.size ≤ q) hs (by decide) fwt6_a fwt6_l fwt6_e hA
  obtain ⟨t7, ht7, hT7⟩ := st_tab (A := fun q : Nat => s.heap.size ≤ q) hs (by decide) fwt7_a fwt7_l fwt7_e hA
  obtain ⟨adK, adV, hS, hE⟩ := vk_Sof (args := #[Value.ref b]) (s := s) (N := 16) (tm := tmR) (len := oL) (byt := oB) (A := fun q : Nat => s.heap.size ≤ q) (by decide) (fun i hi => hs _ (fws_ex i hi)) (fun i hi => hs _ (fws_co i hi)) (fun i hi => hs _ (fws_ar i hi)) (fun i hi => hs _ (fws_le i hi)) (fun i hi j hj => hs _ (fws_el i hi j hj)) (fun i j hi hj hij => (fws_ne i j hi hj hij).imp (hs _) (hs _)) hA
  obtain ⟨f0, hF0⟩ : ∃ f0 : Nat, va_Z RJ3 "SIOOBE_FORMATTER" "Ljava/util/function/BiFunction;" .null (fun q : Nat => s.heap.size ≤ q) s s.heap ∨ va_Z RJ3 "SIOOBE_FORMATTER" "Ljava/util/function/BiFunction;" (.ref f0) (fun q : Nat => s.heap.size ≤ q) s s.heap := by
    rcases va_Zqof (hts _ lsw9) (hts _ (gtb_lw iniRJ3)) (hs _ fwfm) hA with h | ⟨t, h⟩
    · exact ⟨0, Or.inl h⟩
    · exact ⟨t, Or.inr h⟩
  let ad : Nat → Nat := fun a => if a < 1100 then [t0, t1, t2, t3, t4, t5, t6, t7].getD (a - 1000) 0 else if a < 1200 then adK (a - 1100) else if a < 1300 then adV (a - 1200) else if a = 1300 then b else f0
  refine ⟨ad, rfl, ⟨⟨?_, ?_, ?_, ?_, hF0⟩, ?_, ?_, ?_, ?_⟩⟩
  · intro q hq
    simp only [oT, List.mem_cons, List.not_mem_nil, or_false] at hq
    rcases hq with rfl | rfl | rfl | rfl | rfl | rfl | rfl | rfl
    · exact hT0
    · exact hT1
    · exact hT2
    · exact hT3
    · exact hT4
    · exact hT5
    · exact hT6
    · exact hT7
  · obtain ⟨scr, h1, h2, h3, h4, h5⟩ := hX
    exact ⟨scr, h1, h2, h3, Nat.le_of_eq h4.symm, by rw [h4], h5, hA b hbl⟩
  · intro q hq
    simp only [oS, List.mem_cons, List.not_mem_nil, or_false] at hq
    rcases hq with rfl | rfl | rfl | rfl | rfl | rfl | rfl | rfl | rfl
    · exact va_Zof (hts _ lsw0) (hts _ (gtb_lw iniRX0)) ht0 hA
    · exact va_Zof (hts _ lsw1) (hts _ (gtb_lw iniRX8)) ht1 hA
    · exact va_Zof (hts _ lsw2) (hts _ (gtb_lw iniRX8)) ht2 hA
    · exact va_Zof (hts _ lsw3) (hts _ (gtb_lw iniRX8)) ht3 hA
    · exact va_Zof (hts _ lsw4) (hts _ (gtb_lw iniRX8)) ht4 hA
    · exact va_Zof (hts _ lsw5) (hts _ (gtb_lw iniRX9)) ht5 hA
    · exact va_Zof (hts _ lsw6) (hts _ (gtb_lw iniRX9)) ht6 hA
    · exact va_Zof (hts _ lsw7) (hts _ (gtb_lw iniRX8)) ht7 hA
    · exact va_Zof (hts _ lsw8) (hts _ (gtb_lw iniRJ0)) (va_eqi (hs _ fwcs)) hA
  · have e1 : ∀ i, i < 16 → ad (1100 + i) = adK i := fun i hi => by
      show (if 1100 + i < 1100 then _ else if 1100 + i < 1200 then adK (1100 + i - 1100) else _) = _
      rw [if_neg (by omega), if_pos (by omega), Nat.add_sub_cancel_left]
    have e2 : ∀ i, i < 16 → ad (1200 + i) = adV i := fun i hi => by
      show (if 1200 + i < 1100 then _ else if 1200 + i < 1200 then _ else if 1200 + i < 1300 then adV (1200 + i - 1200) else _) = _
      rw [if_neg (by omega), if_neg (by omega), if_pos (by omega), Nat.add_sub_cancel_left]
    refine ⟨fun i hi => ?_, fun i j hi hj e => hS.2 i j hi hj ?_⟩
    · show va_O "java/lang/String" (ad (1100 + i)) _ s s.heap ∧ va_OF "java/lang/String" "coder" "B" (.int 0) (ad (1100 + i)) _ s s.heap ∧ va_OF "java/lang/String" "value" "[B" (.ref (ad (1200 + i))) (ad (1100 + i)) _ s s.heap ∧ va_T .byte (ad (1200 + i)) (oL.getD i 0) (fun j => .int ((oB.getD i []).getD j 0)) _ s s.heap
      rw [e1 i hi, e2 i hi]
      exact hS.1 i hi
    · have e : ad (1100 + i) = ad (1100 + j) := e
      rw [e1 i hi, e1 j hj] at e
      exact e
  · intro q hq
    obtain ⟨k, hk, e⟩ := mem_gd (d := ("", 0, "", 0)) hq
    have hk : k < 16 := hk
    have ek : ad (oR.getD k ("", 0, "", 0)).2.2.2 = adK k := by
      have : (oR.getD k ("", 0, "", 0)).2.2.2 = 1100 + k := by
        have : ∀ k, k < 16 → (oR.getD k ("", 0, "", 0)).2.2.2 = 1100 + k := by decide +kernel
        exact this k hk
      rw [this]
      show (if 1100 + k < 1100 then _ else if 1100 + k < 1200 then adK (1100 + k - 1100) else _) = _
      rw [if_neg (by omega), if_pos (by omega), Nat.add_sub_cancel_left]
    rw [← e, ek]
    exact vk_R.of (hts _ (tws_r k hk)) (hE k hk)
  · intro q hq
    obtain ⟨k, hk, e⟩ := mem_gd (d := nFd) hq
    rw [← e]
    exact va_Nw.of rfl (hts _ (tws_f k hk))
  · intro q hq
    obtain ⟨k, hk, e⟩ := mem_gd (d := nMd) hq
    rw [← e]
    exact va_Nw.of rfl (hts _ (tws_m k hk))
  · exact va_AO.of (hts _ tws_o)
