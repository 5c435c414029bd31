theorem tg1 {c : Cond} {i : Nat} (h : tables_1_1[i]? = some c) (g : goodWord c = true) : c ∈ gtb := gt_in (List.mem_append_right _ (show c ∈ tables_1 from List.mem_append_left _ (List.mem_of_getElem? h))) g
theorem tg2 {c : Cond} {i : Nat} (h : tables_1_2[i]? = some c) (g : goodWord c = true) : c ∈ gtb := gt_in (List.mem_append_right _ (show c ∈ tables_1 from List.mem_append_right _ (List.mem_append_left _ (List.mem_of_getElem? h)))) g
theorem tg3 {c : Cond} {i : Nat} (h : tables_1_3[i]? = some c) (g : goodWord c = true) : c ∈ gtb := gt_in (List.mem_append_right _ (show c ∈ tables_1 from List.mem_append_right _ (List.mem_append_right _ (List.mem_append_left _ (List.mem_of_getElem? h))))) g
theorem tg4 {c : Cond} {i : Nat} (h : tables_1_4[i]? = some c) (g : goodWord c = true) : c ∈ gtb := gt_in (List.mem_append_right _ (show c ∈ tables_1 from List.mem_append_right _ (List.mem_append_right _ (List.mem_append_right _ (List.mem_append_left _ (List.mem_of_getElem? h)))))) g
theorem tg5 {c : Cond} {i : Nat} (h : tables_1_5[i]? = some c) (g : goodWord c = true) : c ∈ gtb := gt_in (List.mem_append_right _ (show c ∈ tables_1 from List.mem_append_right _ (List.mem_append_right _ (List.mem_append_right _ (List.mem_append_right _ (List.mem_append_left _ (List.mem_of_getElem? h))))))) g
theorem tg6 {c : Cond} {i : Nat} (h : tables_1_6[i]? = some c) (g : goodWord c = true) : c ∈ gtb := gt_in (List.mem_append_right _ (show c ∈ tables_1 from List.mem_append_right _ (List.mem_append_right _ (List.mem_append_right _ (List.mem_append_right _ (List.mem_append_right _ (List.mem_append_left _ (List.mem_of_getElem? h)))))))) g
theorem tg7 {c : Cond} {i : Nat} (h : tables_1_7[i]? = some c) (g : goodWord c = true) : c ∈ gtb := gt_in (List.mem_append_right _ (show c ∈ tables_1 from List.mem_append_right _ (List.mem_append_right _ (List.mem_append_right _ (List.mem_append_right _ (List.mem_append_right _ (List.mem_append_right _ (List.mem_append_left _ (List.mem_of_getElem? h))))))))) g
theorem tg8 {c : Cond} {i : Nat} (h : tables_1_8[i]? = some c) (g : goodWord c = true) : c ∈ gtb := gt_in (List.mem_append_right _ (show c ∈ tables_1 from List.mem_append_right _ (List.mem_append_right _ (List.mem_append_right _ (List.mem_append_right _ (List.mem_append_right _ (List.mem_append_right _ (List.mem_append_right _ (List.mem_of_getElem? h))))))))) g
theorem tg {c : Cond} {i : Nat} (h : tables_1[i]? = some c) (g : goodWord c = true) : c ∈ gtb := gt_in (List.mem_append_right _ (List.mem_of_getElem? h)) g
theorem tinS {c : Cond} (h : c ∈ k2_sels lw_privs) (g : goodWord c = true) : c ∈ gtb := gt_in (List.mem_append_left _ h) g
theorem tgs {C : String} {T : u_T} {N : Nat} {ix : List Nat} (h : (List.range N).all (fun k => decide (tables_1[ix.getD k 0]? = some (u_lay C T k)) && goodWord (u_lay C T k)) = true) : ∀ w ∈ u_ws C T N, w ∈ gtb := by
  intro w hw
  obtain ⟨k, hk, rfl⟩ := List.mem_map.mp hw
  have h1 := List.all_eq_true.mp h k hk
  simp only [Bool.and_eq_true, decide_eq_true_eq] at h1
  exact tg h1.1 h1.2
theorem inq0 : ∀ w ∈ u_ws RX0 TX0 18, w ∈ gtb := tgs (ix := [108, 110, 112, 114, 116, 118, 120, 122, 124, 126, 128, 130, 132, 134, 136, 138, 140, 142]) (by decide +kernel)
set_option maxRecDepth 100000 in
theorem inz0 : Cond.instantiable RX0 18 ∈ gtb := tg1 (i := 48) rfl rfl
theorem inq1 : ∀ w ∈ u_ws RX1 TX1 1, w ∈ gtb := tgs (ix := [282]) (by decide +kernel)
set_option maxRecDepth 100000 in
theorem inz1 : Cond.instantiable RX1 1 ∈ gtb := tg2 (i := 33) rfl rfl
theorem inq2 : ∀ w ∈ u_ws RX2 TX2 4, w ∈ gtb := tgs (ix := [357, 359, 361, 363]) (by decide +kernel)
set_option maxRecDepth 100000 in
theorem inz2 : Cond.instantiable RX2 4 ∈ gtb := tg2 (i := 107) rfl rfl
theorem inq3 : ∀ w ∈ u_ws RX3 TX3 11, w ∈ gtb := tgs (ix := [300, 302, 304, 306, 308, 310, 312, 314, 316, 318, 320]) (by decide +kernel)
set_option maxRecDepth 100000 in
theorem inz3 : Cond.instantiable RX3 11 ∈ gtb := tg2 (i := 27) rfl rfl
theorem inq4 : ∀ w ∈ u_ws RX4 TX4 3, w ∈ gtb := tgs (ix := [339, 341, 343]) (by decide +kernel)
set_option maxRecDepth 100000 in
theorem inz4 : Cond.instantiable RX4 3 ∈ gtb := tg2 (i := 85) rfl rfl
theorem inq5 : ∀ w ∈ u_ws RX5 TX5 3, w ∈ gtb := tgs (ix := [378, 380, 382]) (by decide +kernel)
set_option maxRecDepth 100000 in
theorem inz5 : Cond.instantiable RX5 3 ∈ gtb := tg2 (i := 127) rfl rfl
theorem inq6 : ∀ w ∈ u_ws RX6 TX6 4, w ∈ gtb := tgs (ix := [487, 489, 491, 493]) (by decide +kernel)
set_option maxRecDepth 100000 in
theorem inz6 : Cond.instantiable RX6 4 ∈ gtb := tg2 (i := 234) rfl rfl
theorem inq7 : ∀ w ∈ u_ws RX7 TX7 10, w ∈ gtb := tgs (ix := [452, 454, 456, 458, 460, 462, 464, 466, 468, 470]) (by decide +kernel)
set_option maxRecDepth 100000 in
theorem inz7 : Cond.instantiable RX7 10 ∈ gtb := tg2 (i := 192) rfl rfl
theorem inq8 : ∀ w ∈ u_ws RX8 TX8 16, w ∈ gtb := tgs (ix := [232, 234, 236, 238, 240, 242, 244, 246, 248, 250, 252, 254, 256, 258, 260, 262]) (by decide +kernel)
set_option maxRecDepth 100000 in
theorem inz8 : Cond.instantiable RX8 16 ∈ gtb := tg1 (i := 148) rfl rfl
theorem inq9 : ∀ w ∈ u_ws RX9 TX9 12, w ∈ gtb := tgs (ix := [406, 408, 410, 412, 414, 416, 418, 420, 422, 424, 426, 428]) (by decide +kernel)
set_option maxRecDepth 100000 in
theorem inz9 : Cond.instantiable RX9 12 ∈ gtb := tg2 (i := 146) rfl rfl
theorem inq10 : ∀ w ∈ u_ws RX10 TX10 2, w ∈ gtb := tgs (ix := [41, 43]) (by decide +kernel)
set_option maxRecDepth 100000 in
theorem inz10 : Cond.instantiable RX10 2 ∈ gtb := tg1 (i := 31) rfl rfl
theorem inq11 : ∀ w ∈ u_ws RX11 TX11 12, w ∈ gtb := tgs (ix := [508, 510, 512, 514, 516, 518, 520, 522, 524, 526, 528, 530]) (by decide +kernel)
set_option maxRecDepth 100000 in
theorem inz11 : Cond.instantiable RX11 12 ∈ gtb := tg1 (i := 23) rfl rfl
theorem inq12 : ∀ w ∈ u_ws RX12 TX12 94, w ∈ gtb := tgs (ix := [1246, 1248, 1250, 1252, 1254, 1256, 1258, 1260, 1262, 1264, 1266, 1268, 1270, 1272, 1274, 1276, 1278, 1280, 1282, 1284, 1286, 1288, 1290, 1292, 1294, 1296, 1298, 1300, 1302, 1304, 1306, 1308, 1310, 1312, 1314, 1316, 1318, 1320, 1322, 1324, 1326, 1328, 1330, 1332, 1334, 1336, 1338, 1340, 1342, 1344, 1346, 1348, 1350, 1352, 1354, 1356, 1358, 1360, 1362, 1364, 1366, 1368, 1370, 1372, 1374, 1376, 1378, 1380, 1382, 1384, 1386, 1388, 1390, 1392, 1394, 1396, 1398, 1400, 1402, 1404, 1406, 1408, 1410, 1412, 1414, 1416, 1418, 1420, 1422, 1424, 1426, 1428, 1430, 1432]) (by decide +kernel)
set_option maxRecDepth 100000 in
theorem inz12 : Cond.instantiable RX12 94 ∈ gtb := tg5 (i := 187) rfl rfl
set_option maxRecDepth 100000 in
theorem iniRL : Cond.initialized RL ∈ gtb := tg1 (i := 0) rfl rfl
set_option maxRecDepth 100000 in
theorem iniRX11 : Cond.initialized RX11 ∈ gtb := tg1 (i := 1) rfl rfl
set_option maxRecDepth 100000 in
theorem iniRX10 : Cond.initialized RX10 ∈ gtb := tg1 (i := 2) rfl rfl
set_option maxRecDepth 100000 in
theorem iniRX0 : Cond.initialized RX0 ∈ gtb := tg1 (i := 3) rfl rfl
set_option maxRecDepth 100000 in
theorem iniRJ10 : Cond.initialized RJ10 ∈ gtb := tg1 (i := 4) rfl rfl
set_option maxRecDepth 100000 in
theorem iniRJ7 : Cond.initialized RJ7 ∈ gtb := tg1 (i := 5) rfl rfl
set_option maxRecDepth 100000 in
theorem iniRX8 : Cond.initialized RX8 ∈ gtb := tg1 (i := 6) rfl rfl
set_option maxRecDepth 100000 in
theorem iniRJ0 : Cond.initialized RJ0 ∈ gtb := tg1 (i := 7) rfl rfl
set_option maxRecDepth 100000 in
theorem iniRJ1 : Cond.initialized RJ1 ∈ gtb := tg1 (i := 8) rfl rfl
set_option maxRecDepth 100000 in
theorem iniRJ3 : Cond.initialized RJ3 ∈ gtb := tg1 (i := 9) rfl rfl
set_option maxRecDepth 100000 in
theorem iniRJ2 : Cond.initialized RJ2 ∈ gtb := tg1 (i := 10) rfl rfl
set_option maxRecDepth 100000 in
theorem iniRX3 : Cond.initialized RX3 ∈ gtb := tg1 (i := 11) rfl rfl
set_option maxRecDepth 100000 in
theorem iniRX1 : Cond.initialized RX1 ∈ gtb := tg1 (i := 12) rfl rfl
set_option maxRecDepth 100000 in
theorem iniRX4 : Cond.initialized RX4 ∈ gtb := tg1 (i := 13) rfl rfl
set_option maxRecDepth 100000 in
theorem iniRX2 : Cond.initialized RX2 ∈ gtb := tg1 (i := 14) rfl rfl
set_option maxRecDepth 100000 in
theorem iniRX5 : Cond.initialized RX5 ∈ gtb := tg1 (i := 15) rfl rfl
set_option maxRecDepth 100000 in
theorem iniRX9 : Cond.initialized RX9 ∈ gtb := tg1 (i := 16) rfl rfl
set_option maxRecDepth 100000 in
theorem iniRX7 : Cond.initialized RX7 ∈ gtb := tg1 (i := 17) rfl rfl
set_option maxRecDepth 100000 in
theorem iniRX6 : Cond.initialized RX6 ∈ gtb := tg1 (i := 18) rfl rfl
set_option maxRecDepth 100000 in
theorem iniRX12 : Cond.initialized RX12 ∈ gtb := tg1 (i := 19) rfl rfl
set_option maxRecDepth 100000 in
theorem iniRJ9 : Cond.initialized RJ9 ∈ gtb := tg1 (i := 20) rfl rfl
set_option maxRecDepth 100000 in
theorem iniRJ6 : Cond.initialized RJ6 ∈ gtb := tg1 (i := 21) rfl rfl
set_option maxRecDepth 100000 in
theorem arc_int : Cond.arrayClass .int ∈ gtb := tg1 (i := 46) rfl rfl
set_option maxRecDepth 100000 in
theorem arc_boolean : Cond.arrayClass .boolean ∈ gtb := tg1 (i := 145) rfl rfl
set_option maxRecDepth 100000 in
theorem arc_long : Cond.arrayClass .long ∈ gtb := tg1 (i := 146) rfl rfl
set_option maxRecDepth 100000 in
theorem arc_byte : Cond.arrayClass .byte ∈ gtb := tg2 (i := 25) rfl rfl
set_option maxRecDepth 100000 in
theorem objI1 : Cond.instanceMethod Lib.objectInit ∈ gtb := tg1 (i := 28) rfl rfl
set_option maxRecDepth 100000 in
theorem objI2 : Cond.code Lib.objectInit ⟨#[0xb1]⟩ 1 none ∈ gtb := tg1 (i := 29) rfl rfl
set_option maxRecDepth 100000 in
theorem acn : Cond.native arraycopyName ∈ gtb := tg1 (i := 61) rfl rfl
set_option maxRecDepth 100000 in
theorem acs : Cond.static arraycopyName ∈ gtb := tg1 (i := 60) rfl rfl
set_option maxRecDepth 100000 in
theorem fX11_10 : FL RX11 10 11 0 2 (.object "TrouserSand$Tape") true true := ⟨RX11, TX11, 12, tyX11, ⟨rfl, inq11, Nat.le_of_ble_eq_true rfl, rfl, Nat.le_of_ble_eq_true rfl, Or.inl (tg3 (i := 16) rfl rfl)⟩, rfl, tyX11_ok 0 (Nat.le_of_ble_eq_true rfl), tyX11_ok, nmX11, fun _ _ => rfl⟩
set_option maxRecDepth 100000 in
theorem fX11_19 : FL RX11 19 11 2 2 (.object "TrouserSand$Camp") false true := ⟨RX11, TX11, 12, tyX11, ⟨rfl, inq11, Nat.le_of_ble_eq_true rfl, rfl, Nat.le_of_ble_eq_true rfl, Or.inl (tg3 (i := 18) rfl rfl)⟩, rfl, tyX11_ok 2 (Nat.le_of_ble_eq_true rfl), tyX11_ok, nmX11, fun _ h => absurd h Bool.false_ne_true⟩
set_option maxRecDepth 100000 in
theorem fX11_23 : FL RX11 23 11 3 2 (.object "TrouserSand$Camp") false true := ⟨RX11, TX11, 12, tyX11, ⟨rfl, inq11, Nat.le_of_ble_eq_true rfl, rfl, Nat.le_of_ble_eq_true rfl, Or.inl (tg3 (i := 19) rfl rfl)⟩, rfl, tyX11_ok 3 (Nat.le_of_ble_eq_true rfl), tyX11_ok, nmX11, fun _ h => absurd h Bool.false_ne_true⟩
set_option maxRecDepth 100000 in
theorem fX11_31 : FL RX11 31 11 1 2 (.object "TrouserSand$Reader") true true := ⟨RX11, TX11, 12, tyX11, ⟨rfl, inq11, Nat.le_of_ble_eq_true rfl, rfl, Nat.le_of_ble_eq_true rfl, Or.inl (tg3 (i := 17) rfl rfl)⟩, rfl, tyX11_ok 1 (Nat.le_of_ble_eq_true rfl), tyX11_ok, nmX11, fun _ _ => rfl⟩
set_option maxRecDepth 100000 in
theorem fX11_38 : FL RX11 38 11 4 2 (.object "TrouserSand$Digging") true true := ⟨RX11, TX11, 12, tyX11, ⟨rfl, inq11, Nat.le_of_ble_eq_true rfl, rfl, Nat.le_of_ble_eq_true rfl, Or.inl (tg3 (i := 20) rfl rfl)⟩, rfl, tyX11_ok 4 (Nat.le_of_ble_eq_true rfl), tyX11_ok, nmX11, fun _ _ => rfl⟩
set_option maxRecDepth 100000 in
theorem fX11_42 : FL RX11 42 11 5 2 (.array (.object "TrouserSand$Digging")) true true := ⟨RX11, TX11, 12, tyX11, ⟨rfl, inq11, Nat.le_of_ble_eq_true rfl, rfl, Nat.le_of_ble_eq_true rfl, Or.inl (tg3 (i := 21) rfl rfl)⟩, rfl, tyX11_ok 5 (Nat.le_of_ble_eq_true rfl), tyX11_ok, nmX11, fun _ _ => rfl⟩
set_option maxRecDepth 100000 in
theorem fX11_49 : FL RX11 49 11 6 2 (.object "TrouserSand$Flow") true true := ⟨RX11, TX11, 12, tyX11, ⟨rfl, inq11, Nat.le_of_ble_eq_true rfl, rfl, Nat.le_of_ble_eq_true rfl, Or.inl (tg3 (i := 22) rfl rfl)⟩, rfl, tyX11_ok 6 (Nat.le_of_ble_eq_true rfl), tyX11_ok, nmX11, fun _ _ => rfl⟩
set_option maxRecDepth 100000 in
theorem fX11_56 : FL RX11 56 11 7 2 (.object "TrouserSand$Counting") true true := ⟨RX11, TX11, 12, tyX11, ⟨rfl, inq11, Nat.le_of_ble_eq_true rfl, rfl, Nat.le_of_ble_eq_true rfl, Or.inl (tg3 (i := 23) rfl rfl)⟩, rfl, tyX11_ok 7 (Nat.le_of_ble_eq_true rfl), tyX11_ok, nmX11, fun _ _ => rfl⟩
set_option maxRecDepth 100000 in
theorem fX11_63 : FL RX11 63 11 8 2 (.object "TrouserSand$Looks") true true := ⟨RX11, TX11, 12, tyX11, ⟨rfl, inq11, Nat.le_of_ble_eq_true rfl, rfl, Nat.le_of_ble_eq_true rfl, Or.inl (tg3 (i := 24) rfl rfl)⟩, rfl, tyX11_ok 8 (Nat.le_of_ble_eq_true rfl), tyX11_ok, nmX11, fun _ _ => rfl⟩
set_option maxRecDepth 100000 in
theorem fX11_70 : FL RX11 70 11 9 2 (.object "TrouserSand$Strings") true true := ⟨RX11, TX11, 12, tyX11, ⟨rfl, inq11, Nat.le_of_ble_eq_true rfl, rfl, Nat.le_of_ble_eq_true rfl, Or.inl (tg3 (i := 25) rfl rfl)⟩, rfl, tyX11_ok 9 (Nat.le_of_ble_eq_true rfl), tyX11_ok, nmX11, fun _ _ => rfl⟩
set_option maxRecDepth 100000 in
theorem fX11_77 : FL RX11 77 11 10 2 (.object "TrouserSand$Night") true true := ⟨RX11, TX11, 12, tyX11, ⟨rfl, inq11, Nat.le_of_ble_eq_true rfl, rfl, Nat.le_of_ble_eq_true rfl, Or.inl (tg3 (i := 26) rfl rfl)⟩, rfl, tyX11_ok 10 (Nat.le_of_ble_eq_true rfl), tyX11_ok, nmX11, fun _ _ => rfl⟩
set_option maxRecDepth 100000 in
theorem fX11_84 : FL RX11 84 11 11 2 (.object "TrouserSand$Lottery") true true := ⟨RX11, TX11, 12, tyX11, ⟨rfl, inq11, Nat.le_of_ble_eq_true rfl, rfl, Nat.le_of_ble_eq_true rfl, Or.inl (tg3 (i := 27) rfl rfl)⟩, rfl, tyX11_ok 11 (Nat.le_of_ble_eq_true rfl), tyX11_ok, nmX11, fun _ _ => rfl⟩
theorem fX11_88 : FL RX11 88 10 1 0 .int false true := ⟨RX10, TX10, 2, tyX10, ⟨rfl, inq10, Nat.le_of_ble_eq_true rfl, rfl, Nat.le_of_ble_eq_true rfl, Or.inr ⟨RX11, by decide +kernel⟩⟩, rfl, tyX10_ok 1 (Nat.le_of_ble_eq_true rfl), tyX10_ok, nmX10, fun _ h => absurd h Bool.false_ne_true⟩
theorem fX11_103 : FL RX11 103 3 10 0 .boolean false true := ⟨RX3, TX3, 11, tyX3, ⟨rfl, inq3, Nat.le_of_ble_eq_true rfl, rfl, Nat.le_of_ble_eq_true rfl, Or.inr ⟨RX11, by decide +kernel⟩⟩, rfl, tyX3_ok 10 (Nat.le_of_ble_eq_true rfl), tyX3_ok, nmX3, fun _ h => absurd h Bool.false_ne_true⟩
theorem fX11_113 : FL RX11 113 0 17 0 .int false true := ⟨RX0, TX0, 18, tyX0, ⟨rfl, inq0, Nat.le_of_ble_eq_true rfl, rfl, Nat.le_of_ble_eq_true rfl, Or.inr ⟨RX11, by decide +kernel⟩⟩, rfl, tyX0_ok 17 (Nat.le_of_ble_eq_true rfl), tyX0_ok, nmX0, fun _ h => absurd h Bool.false_ne_true⟩
theorem fX11_116 : FL RX11 116 8 4 0 .int false true := ⟨RX8, TX8, 16, tyX8, ⟨rfl, inq8, Nat.le_of_ble_eq_true rfl, rfl, Nat.le_of_ble_eq_true rfl, Or.inr ⟨RX11, by decide +kernel⟩⟩, rfl, tyX8_ok 4 (Nat.le_of_ble_eq_true rfl), tyX8_ok, nmX8, fun _ h => absurd h Bool.false_ne_true⟩
theorem fX11_119 : FL RX11 119 8 5 0 .int false true := ⟨RX8, TX8, 16, tyX8, ⟨rfl, inq8, Nat.le_of_ble_eq_true rfl, rfl, Nat.le_of_ble_eq_true rfl, Or.inr ⟨RX11, by decide +kernel⟩⟩, rfl, tyX8_ok 5 (Nat.le_of_ble_eq_true rfl), tyX8_ok, nmX8, fun _ h => absurd h Bool.false_ne_true⟩
theorem fX11_133 : FL RX11 133 0 16 0 .int false true := ⟨RX0, TX0, 18, tyX0, ⟨rfl, inq0, Nat.le_of_ble_eq_true rfl, rfl, Nat.le_of_ble_eq_true rfl, Or.inr ⟨RX11, by decide +kernel⟩⟩, rfl, tyX0_ok 16 (Nat.le_of_ble_eq_true rfl), tyX0_ok, nmX0, fun _ h => absurd h Bool.false_ne_true⟩
theorem fX11_136 : FL RX11 136 0 13 2 (.array .int) true false := ⟨RX0, TX0, 18, tyX0, ⟨rfl, inq0, Nat.le_of_ble_eq_true rfl, rfl, Nat.le_of_ble_eq_true rfl, Or.inr ⟨RX11, by decide +kernel⟩⟩, rfl, tyX0_ok 13 (Nat.le_of_ble_eq_true rfl), tyX0_ok, nmX0, fun h _ => absurd h Bool.false_ne_true⟩
theorem fX11_147 : FL RX11 147 3 7 2 (.object "TrouserSand$Chance") true false := ⟨RX3, TX3, 11, tyX3, ⟨rfl, inq3, Nat.le_of_ble_eq_true rfl, rfl, Nat.le_of_ble_eq_true rfl, Or.inr ⟨RX11, by decide +kernel⟩⟩, rfl, tyX3_ok 7 (Nat.le_of_ble_eq_true rfl), tyX3_ok, nmX3, fun h _ => absurd h Bool.false_ne_true⟩
theorem fX11_151 : FL RX11 151 1 0 1 .long false true := ⟨RX1, TX1, 1, tyX1, ⟨rfl, inq1, Nat.le_of_ble_eq_true rfl, rfl, Nat.le_of_ble_eq_true rfl, Or.inr ⟨RX11, by decide +kernel⟩⟩, rfl, tyX1_ok 0 (Nat.le_of_ble_eq_true rfl), tyX1_ok, nmX1, fun _ h => absurd h Bool.false_ne_true⟩
theorem fX11_157 : FL RX11 157 3 8 0 .int false true := ⟨RX3, TX3, 11, tyX3, ⟨rfl, inq3, Nat.le_of_ble_eq_true rfl, rfl, Nat.le_of_ble_eq_true rfl, Or.inr ⟨RX11, by decide +kernel⟩⟩, rfl, tyX3_ok 8 (Nat.le_of_ble_eq_true rfl), tyX3_ok, nmX3, fun _ h => absurd h Bool.false_ne_true⟩
theorem fX11_181 : FL RX11 181 3 5 2 (.array .int) true false := ⟨RX3, TX3, 11, tyX3, ⟨rfl, inq3, Nat.le_of_ble_eq_true rfl, rfl, Nat.le_of_ble_eq_true rfl, Or.inr ⟨RX11, by decide +kernel⟩⟩, rfl, tyX3_ok 5 (Nat.le_of_ble_eq_true rfl), tyX3_ok, nmX3, fun h _ => absurd h Bool.false_ne_true⟩
theorem fX11_191 : FL RX11 191 3 6 2 (.array .int) true false := ⟨RX3, TX3, 11, tyX3, ⟨rfl, inq3, Nat.le_of_ble_eq_true rfl, rfl, Nat.le_of_ble_eq_true rfl, Or.inr ⟨RX11, by decide +kernel⟩⟩, rfl, tyX3_ok 6 (Nat.le_of_ble_eq_true rfl), tyX3_ok, nmX3, fun h _ => absurd h Bool.false_ne_true⟩
theorem fX11_210 : FL RX11 210 0 5 2 (.array .int) true false := ⟨RX0, TX0, 18, tyX0, ⟨rfl, inq0, Nat.le_of_ble_eq_true rfl, rfl, Nat.le_of_ble_eq_true rfl, Or.inr ⟨RX11, by decide +kernel⟩⟩, rfl, tyX0_ok 5 (Nat.le_of_ble_eq_true rfl), tyX0_ok, nmX0, fun h _ => absurd h Bool.false_ne_true⟩
theorem fX11_213 : FL RX11 213 2 0 2 (.array .int) true false := ⟨RX2, TX2, 4, tyX2, ⟨rfl, inq2, Nat.le_of_ble_eq_true rfl, rfl, Nat.le_of_ble_eq_true rfl, Or.inr ⟨RX11, by decide +kernel⟩⟩, rfl, tyX2_ok 0 (Nat.le_of_ble_eq_true rfl), tyX2_ok, nmX2, fun h _ => absurd h Bool.false_ne_true⟩
theorem fX11_229 : FL RX11 229 5 0 2 (.array .int) true false := ⟨RX5, TX5, 3, tyX5, ⟨rfl, inq5, Nat.le_of_ble_eq_true rfl, rfl, Nat.le_of_ble_eq_true rfl, Or.inr ⟨RX11, by decide +kernel⟩⟩, rfl, tyX5_ok 0 (Nat.le_of_ble_eq_true rfl), tyX5_ok, nmX5, fun h _ => absurd h Bool.false_ne_true⟩
theorem fX11_239 : FL RX11 239 5 1 0 .int false true := ⟨RX5, TX5, 3, tyX5, ⟨rfl, inq5, Nat.le_of_ble_eq_true rfl, rfl, Nat.le_of_ble_eq_true rfl, Or.inr ⟨RX11, by decide +kernel⟩⟩, rfl, tyX5_ok 1 (Nat.le_of_ble_eq_true rfl), tyX5_ok, nmX5, fun _ h => absurd h Bool.false_ne_true⟩
theorem fX11_242 : FL RX11 242 5 2 0 .int false true := ⟨RX5, TX5, 3, tyX5, ⟨rfl, inq5, Nat.le_of_ble_eq_true rfl, rfl, Nat.le_of_ble_eq_true rfl, Or.inr ⟨RX11, by decide +kernel⟩⟩, rfl, tyX5_ok 2 (Nat.le_of_ble_eq_true rfl), tyX5_ok, nmX5, fun _ h => absurd h Bool.false_ne_true⟩
theorem fX11_245 : FL RX11 245 9 11 0 .int false true := ⟨RX9, TX9, 12, tyX9, ⟨rfl, inq9, Nat.le_of_ble_eq_true rfl, rfl, Nat.le_of_ble_eq_true rfl, Or.inr ⟨RX11, by decide +kernel⟩⟩, rfl, tyX9_ok 11 (Nat.le_of_ble_eq_true rfl), tyX9_ok, nmX9, fun _ h => absurd h Bool.false_ne_true⟩
theorem fX11_255 : FL RX11 255 9 8 0 .int false true := ⟨RX9, TX9, 12, tyX9, ⟨rfl, inq9, Nat.le_of_ble_eq_true rfl, rfl, Nat.le_of_ble_eq_true rfl, Or.inr ⟨RX11, by decide +kernel⟩⟩, rfl, tyX9_ok 8 (Nat.le_of_ble_eq_true rfl), tyX9_ok, nmX9, fun _ h => absurd h Bool.false_ne_true⟩
theorem fX11_288 : FL RX11 288 7 7 0 .int false true := ⟨RX7, TX7, 10, tyX7, ⟨rfl, inq7, Nat.le_of_ble_eq_true rfl, rfl, Nat.le_of_ble_eq_true rfl, Or.inr ⟨RX11, by decide +kernel⟩⟩, rfl, tyX7_ok 7 (Nat.le_of_ble_eq_true rfl), tyX7_ok, nmX7, fun _ h => absurd h Bool.false_ne_true⟩
theorem fX11_291 : FL RX11 291 7 8 0 .int false true := ⟨RX7, TX7, 10, tyX7, ⟨rfl, inq7, Nat.le_of_ble_eq_true rfl, rfl, Nat.le_of_ble_eq_true rfl, Or.inr ⟨RX11, by decide +kernel⟩⟩, rfl, tyX7_ok 8 (Nat.le_of_ble_eq_true rfl), tyX7_ok, nmX7, fun _ h => absurd h Bool.false_ne_true⟩
theorem fX11_301 : FL RX11 301 7 9 0 .int false true := ⟨RX7, TX7, 10, tyX7, ⟨rfl, inq7, Nat.le_of_ble_eq_true rfl, rfl, Nat.le_of_ble_eq_true rfl, Or.inr ⟨RX11, by decide +kernel⟩⟩, rfl, tyX7_ok 9 (Nat.le_of_ble_eq_true rfl), tyX7_ok, nmX7, fun _ h => absurd h Bool.false_ne_true⟩
theorem fX11_304 : FL RX11 304 7 3 2 (.array .int) true false := ⟨RX7, TX7, 10, tyX7, ⟨rfl, inq7, Nat.le_of_ble_eq_true rfl, rfl, Nat.le_of_ble_eq_true rfl, Or.inr ⟨RX11, by decide +kernel⟩⟩, rfl, tyX7_ok 3 (Nat.le_of_ble_eq_true rfl), tyX7_ok, nmX7, fun h _ => absurd h Bool.false_ne_true⟩
theorem fX11_307 : FL RX11 307 7 4 2 (.array .int) true false := ⟨RX7, TX7, 10, tyX7, ⟨rfl, inq7, Nat.le_of_ble_eq_true rfl, rfl, Nat.le_of_ble_eq_true rfl, Or.inr ⟨RX11, by decide +kernel⟩⟩, rfl, tyX7_ok 4 (Nat.le_of_ble_eq_true rfl), tyX7_ok, nmX7, fun h _ => absurd h Bool.false_ne_true⟩
theorem fX11_321 : FL RX11 321 6 3 0 .int false true := ⟨RX6, TX6, 4, tyX6, ⟨rfl, inq6, Nat.le_of_ble_eq_true rfl, rfl, Nat.le_of_ble_eq_true rfl, Or.inr ⟨RX11, by decide +kernel⟩⟩, rfl, tyX6_ok 3 (Nat.le_of_ble_eq_true rfl), tyX6_ok, nmX6, fun _ h => absurd h Bool.false_ne_true⟩
theorem fX11_322 : FL RX11 322 6 0 2 (.array .int) true false := ⟨RX6, TX6, 4, tyX6, ⟨rfl, inq6, Nat.le_of_ble_eq_true rfl, rfl, Nat.le_of_ble_eq_true rfl, Or.inr ⟨RX11, by decide +kernel⟩⟩, rfl, tyX6_ok 0 (Nat.le_of_ble_eq_true rfl), tyX6_ok, nmX6, fun h _ => absurd h Bool.false_ne_true⟩
theorem fX11_334 : FL RX11 334 9 9 0 .int false true := ⟨RX9, TX9, 12, tyX9, ⟨rfl, inq9, Nat.le_of_ble_eq_true rfl, rfl, Nat.le_of_ble_eq_true rfl, Or.inr ⟨RX11, by decide +kernel⟩⟩, rfl, tyX9_ok 9 (Nat.le_of_ble_eq_true rfl), tyX9_ok, nmX9, fun _ h => absurd h Bool.false_ne_true⟩
theorem fX11_340 : FL RX11 340 0 14 0 .int false true := ⟨RX0, TX0, 18, tyX0, ⟨rfl, inq0, Nat.le_of_ble_eq_true rfl, rfl, Nat.le_of_ble_eq_true rfl, Or.inr ⟨RX11, by decide +kernel⟩⟩, rfl, tyX0_ok 14 (Nat.le_of_ble_eq_true rfl), tyX0_ok, nmX0, fun _ h => absurd h Bool.false_ne_true⟩
theorem fX11_343 : FL RX11 343 0 15 0 .int false true := ⟨RX0, TX0, 18, tyX0, ⟨rfl, inq0, Nat.le_of_ble_eq_true rfl, rfl, Nat.le_of_ble_eq_true rfl, Or.inr ⟨RX11, by decide +kernel⟩⟩, rfl, tyX0_ok 15 (Nat.le_of_ble_eq_true rfl), tyX0_ok, nmX0, fun _ h => absurd h Bool.false_ne_true⟩
set_option maxRecDepth 100000 in
theorem fX0_15 : FL RX0 15 0 0 2 (.array .int) true true := ⟨RX0, TX0, 18, tyX0, ⟨rfl, inq0, Nat.le_of_ble_eq_true rfl, rfl, Nat.le_of_ble_eq_true rfl, Or.inl (tg1 (i := 65) rfl rfl)⟩, rfl, tyX0_ok 0 (Nat.le_of_ble_eq_true rfl), tyX0_ok, nmX0, fun _ _ => rfl⟩
set_option maxRecDepth 100000 in
theorem fX0_18 : FL RX0 18 0 1 2 (.array .boolean) true true := ⟨RX0, TX0, 18, tyX0, ⟨rfl, inq0, Nat.le_of_ble_eq_true rfl, rfl, Nat.le_of_ble_eq_true rfl, Or.inl (tg1 (i := 66) rfl rfl)⟩, rfl, tyX0_ok 1 (Nat.le_of_ble_eq_true rfl), tyX0_ok, nmX0, fun _ _ => rfl⟩
set_option maxRecDepth 100000 in
theorem fX0_22 : FL RX0 22 0 2 2 (.array .long) true true := ⟨RX0, TX0, 18, tyX0, ⟨rfl, inq0, Nat.le_of_ble_eq_true rfl, rfl, Nat.le_of_ble_eq_true rfl, Or.inl (tg1 (i := 67) rfl rfl)⟩, rfl, tyX0_ok 2 (Nat.le_of_ble_eq_true rfl), tyX0_ok, nmX0, fun _ _ => rfl⟩
set_option maxRecDepth 100000 in
theorem fX0_26 : FL RX0 26 0 3 2 (.array .int) true true := ⟨RX0, TX0, 18, tyX0, ⟨rfl, inq0, Nat.le_of_ble_eq_true rfl, rfl, Nat.le_of_ble_eq_true rfl, Or.inl (tg1 (i := 69) rfl rfl)⟩, rfl, tyX0_ok 3 (Nat.le_of_ble_eq_true rfl), tyX0_ok, nmX0, fun _ _ => rfl⟩
set_option maxRecDepth 100000 in
theorem fX0_29 : FL RX0 29 0 4 2 (.array .int) true true := ⟨RX0, TX0, 18, tyX0, ⟨rfl, inq0, Nat.le_of_ble_eq_true rfl, rfl, Nat.le_of_ble_eq_true rfl, Or.inl (tg1 (i := 70) rfl rfl)⟩, rfl, tyX0_ok 4 (Nat.le_of_ble_eq_true rfl), tyX0_ok, nmX0, fun _ _ => rfl⟩
set_option maxRecDepth 100000 in
theorem fX0_32 : FL RX0 32 0 5 2 (.array .int) true true := ⟨RX0, TX0, 18, tyX0, ⟨rfl, inq0, Nat.le_of_ble_eq_true rfl, rfl, Nat.le_of_ble_eq_true rfl, Or.inl (tg1 (i := 72) rfl rfl)⟩, rfl, tyX0_ok 5 (Nat.le_of_ble_eq_true rfl), tyX0_ok, nmX0, fun _ _ => rfl⟩
set_option maxRecDepth 100000 in
theorem fX0_35 : FL RX0 35 0 6 2 (.array .int) true true := ⟨RX0, TX0, 18, tyX0, ⟨rfl, inq0, Nat.le_of_ble_eq_true rfl, rfl, Nat.le_of_ble_eq_true rfl, Or.inl (tg1 (i := 76) rfl rfl)⟩, rfl, tyX0_ok 6 (Nat.le_of_ble_eq_true rfl), tyX0_ok, nmX0, fun _ _ => rfl⟩
set_option maxRecDepth 100000 in
theorem fX0_38 : FL RX0 38 0 7 2 (.array .int) true true := ⟨RX0, TX0, 18, tyX0, ⟨rfl, inq0, Nat.le_of_ble_eq_true rfl, rfl, Nat.le_of_ble_eq_true rfl, Or.inl (tg1 (i := 79) rfl rfl)⟩, rfl, tyX0_ok 7 (Nat.le_of_ble_eq_true rfl), tyX0_ok, nmX0, fun _ _ => rfl⟩
set_option maxRecDepth 100000 in
theorem fX0_41 : FL RX0 41 0 8 2 (.array .long) true true := ⟨RX0, TX0, 18, tyX0, ⟨rfl, inq0, Nat.le_of_ble_eq_true rfl, rfl, Nat.le_of_ble_eq_true rfl, Or.inl (tg1 (i := 80) rfl rfl)⟩, rfl, tyX0_ok 8 (Nat.le_of_ble_eq_true rfl), tyX0_ok, nmX0, fun _ _ => rfl⟩
set_option maxRecDepth 100000 in
theorem fX0_44 : FL RX0 44 0 9 2 (.array .int) true true := ⟨RX0, TX0, 18, tyX0, ⟨rfl, inq0, Nat.le_of_ble_eq_true rfl, rfl, Nat.le_of_ble_eq_true rfl, Or.inl (tg1 (i := 82) rfl rfl)⟩, rfl, tyX0_ok 9 (Nat.le_of_ble_eq_true rfl), tyX0_ok, nmX0, fun _ _ => rfl⟩
set_option maxRecDepth 100000 in
theorem fX0_47 : FL RX0 47 0 10 2 (.array .int) true true := ⟨RX0, TX0, 18, tyX0, ⟨rfl, inq0, Nat.le_of_ble_eq_true rfl, rfl, Nat.le_of_ble_eq_true rfl, Or.inl (tg1 (i := 83) rfl rfl)⟩, rfl, tyX0_ok 10 (Nat.le_of_ble_eq_true rfl), tyX0_ok, nmX0, fun _ _ => rfl⟩
set_option maxRecDepth 100000 in
theorem fX0_50 : FL RX0 50 0 11 2 (.array .int) true true := ⟨RX0, TX0, 18, tyX0, ⟨rfl, inq0, Nat.le_of_ble_eq_true rfl, rfl, Nat.le_of_ble_eq_true rfl, Or.inl (tg1 (i := 85) rfl rfl)⟩, rfl, tyX0_ok 11 (Nat.le_of_ble_eq_true rfl), tyX0_ok, nmX0, fun _ _ => rfl⟩
set_option maxRecDepth 100000 in
theorem fX0_53 : FL RX0 53 0 12 2 (.array .long) true true := ⟨RX0, TX0, 18, tyX0, ⟨rfl, inq0, Nat.le_of_ble_eq_true rfl, rfl, Nat.le_of_ble_eq_true rfl, Or.inl (tg1 (i := 87) rfl rfl)⟩, rfl, tyX0_ok 12 (Nat.le_of_ble_eq_true rfl), tyX0_ok, nmX0, fun _ _ => rfl⟩
set_option maxRecDepth 100000 in
theorem fX0_56 : FL RX0 56 0 13 2 (.array .int) true true := ⟨RX0, TX0, 18, tyX0, ⟨rfl, inq0, Nat.le_of_ble_eq_true rfl, rfl, Nat.le_of_ble_eq_true rfl, Or.inl (tg1 (i := 89) rfl rfl)⟩, rfl, tyX0_ok 13 (Nat.le_of_ble_eq_true rfl), tyX0_ok, nmX0, fun _ _ => rfl⟩
set_option maxRecDepth 100000 in
theorem fX0_74 : FL RX0 74 0 14 0 .int false true := ⟨RX0, TX0, 18, tyX0, ⟨rfl, inq0, Nat.le_of_ble_eq_true rfl, rfl, Nat.le_of_ble_eq_true rfl, Or.inl (tg1 (i := 92) rfl rfl)⟩, rfl, tyX0_ok 14 (Nat.le_of_ble_eq_true rfl), tyX0_ok, nmX0, fun _ h => absurd h Bool.false_ne_true⟩
set_option maxRecDepth 100000 in
theorem fX0_78 : FL RX0 78 0 15 0 .int false true := ⟨RX0, TX0, 18, tyX0, ⟨rfl, inq0, Nat.le_of_ble_eq_true rfl, rfl, Nat.le_of_ble_eq_true rfl, Or.inl (tg1 (i := 97) rfl rfl)⟩, rfl, tyX0_ok 15 (Nat.le_of_ble_eq_true rfl), tyX0_ok, nmX0, fun _ h => absurd h Bool.false_ne_true⟩
set_option maxRecDepth 100000 in
theorem fX0_81 : FL RX0 81 0 16 0 .int false true := ⟨RX0, TX0, 18, tyX0, ⟨rfl, inq0, Nat.le_of_ble_eq_true rfl, rfl, Nat.le_of_ble_eq_true rfl, Or.inl (tg1 (i := 102) rfl rfl)⟩, rfl, tyX0_ok 16 (Nat.le_of_ble_eq_true rfl), tyX0_ok, nmX0, fun _ h => absurd h Bool.false_ne_true⟩
set_option maxRecDepth 100000 in
theorem fX0_84 : FL RX0 84 0 17 0 .int false true := ⟨RX0, TX0, 18, tyX0, ⟨rfl, inq0, Nat.le_of_ble_eq_true rfl, rfl, Nat.le_of_ble_eq_true rfl, Or.inl (tg1 (i := 105) rfl rfl)⟩, rfl, tyX0_ok 17 (Nat.le_of_ble_eq_true rfl), tyX0_ok, nmX0, fun _ h => absurd h Bool.false_ne_true⟩
set_option maxRecDepth 100000 in
theorem fX1_7 : FL RX1 7 1 0 1 .long false true := ⟨RX1, TX1, 1, tyX1, ⟨rfl, inq1, Nat.le_of_ble_eq_true rfl, rfl, Nat.le_of_ble_eq_true rfl, Or.inl (tg2 (i := 38) rfl rfl)⟩, rfl, tyX1_ok 0 (Nat.le_of_ble_eq_true rfl), tyX1_ok, nmX1, fun _ h => absurd h Bool.false_ne_true⟩
set_option maxRecDepth 100000 in
theorem fX2_9 : FL RX2 9 2 0 2 (.array .int) true true := ⟨RX2, TX2, 4, tyX2, ⟨rfl, inq2, Nat.le_of_ble_eq_true rfl, rfl, Nat.le_of_ble_eq_true rfl, Or.inl (tg2 (i := 112) rfl rfl)⟩, rfl, tyX2_ok 0 (Nat.le_of_ble_eq_true rfl), tyX2_ok, nmX2, fun _ _ => rfl⟩
set_option maxRecDepth 100000 in
theorem fX2_15 : FL RX2 15 2 1 2 (.array .int) true true := ⟨RX2, TX2, 4, tyX2, ⟨rfl, inq2, Nat.le_of_ble_eq_true rfl, rfl, Nat.le_of_ble_eq_true rfl, Or.inl (tg2 (i := 114) rfl rfl)⟩, rfl, tyX2_ok 1 (Nat.le_of_ble_eq_true rfl), tyX2_ok, nmX2, fun _ _ => rfl⟩
set_option maxRecDepth 100000 in
theorem fX2_18 : FL RX2 18 2 2 2 (.array .int) true true := ⟨RX2, TX2, 4, tyX2, ⟨rfl, inq2, Nat.le_of_ble_eq_true rfl, rfl, Nat.le_of_ble_eq_true rfl, Or.inl (tg2 (i := 115) rfl rfl)⟩, rfl, tyX2_ok 2 (Nat.le_of_ble_eq_true rfl), tyX2_ok, nmX2, fun _ _ => rfl⟩
set_option maxRecDepth 100000 in
theorem fX2_21 : FL RX2 21 2 3 2 (.array .int) true true := ⟨RX2, TX2, 4, tyX2, ⟨rfl, inq2, Nat.le_of_ble_eq_true rfl, rfl, Nat.le_of_ble_eq_true rfl, Or.inl (tg2 (i := 116) rfl rfl)⟩, rfl, tyX2_ok 3 (Nat.le_of_ble_eq_true rfl), tyX2_ok, nmX2, fun _ _ => rfl⟩
theorem fX2_30 : FL RX2 30 0 14 0 .int false true := ⟨RX0, TX0, 18, tyX0, ⟨rfl, inq0, Nat.le_of_ble_eq_true rfl, rfl, Nat.le_of_ble_eq_true rfl, Or.inr ⟨RX11, by decide +kernel⟩⟩, rfl, tyX0_ok 14 (Nat.le_of_ble_eq_true rfl), tyX0_ok, nmX0, fun _ h => absurd h Bool.false_ne_true⟩
theorem fX2_36 : FL RX2 36 0 6 2 (.array .int) true false := ⟨RX0, TX0, 18, tyX0, ⟨rfl, inq0, Nat.le_of_ble_eq_true rfl, rfl, Nat.le_of_ble_eq_true rfl, Or.inr ⟨RX11, by decide +kernel⟩⟩, rfl, tyX0_ok 6 (Nat.le_of_ble_eq_true rfl), tyX0_ok, nmX0, fun h _ => absurd h Bool.false_ne_true⟩
theorem fX2_53 : FL RX2 53 4 0 2 (.array .int) true false := ⟨RX4, TX4, 3, tyX4, ⟨rfl, inq4, Nat.le_of_ble_eq_true rfl, rfl, Nat.le_of_ble_eq_true rfl, Or.inr ⟨RX11, by decide +kernel⟩⟩, rfl, tyX4_ok 0 (Nat.le_of_ble_eq_true rfl), tyX4_ok, nmX4, fun h _ => absurd h Bool.false_ne_true⟩
theorem fX2_58 : FL RX2 58 4 1 2 (.array .int) true false := ⟨RX4, TX4, 3, tyX4, ⟨rfl, inq4, Nat.le_of_ble_eq_true rfl, rfl, Nat.le_of_ble_eq_true rfl, Or.inr ⟨RX11, by decide +kernel⟩⟩, rfl, tyX4_ok 1 (Nat.le_of_ble_eq_true rfl), tyX4_ok, nmX4, fun h _ => absurd h Bool.false_ne_true⟩
theorem fX2_68 : FL RX2 68 0 5 2 (.array .int) true false := ⟨RX0, TX0, 18, tyX0, ⟨rfl, inq0, Nat.le_of_ble_eq_true rfl, rfl, Nat.le_of_ble_eq_true rfl, Or.inr ⟨RX11, by decide +kernel⟩⟩, rfl, tyX0_ok 5 (Nat.le_of_ble_eq_true rfl), tyX0_ok, nmX0, fun h _ => absurd h Bool.false_ne_true⟩
theorem fX2_71 : FL RX2 71 4 2 2 (.array .int) true false := ⟨RX4, TX4, 3, tyX4, ⟨rfl, inq4, Nat.le_of_ble_eq_true rfl, rfl, Nat.le_of_ble_eq_true rfl, Or.inr ⟨RX11, by decide +kernel⟩⟩, rfl, tyX4_ok 2 (Nat.le_of_ble_eq_true rfl), tyX4_ok, nmX4, fun h _ => absurd h Bool.false_ne_true⟩
set_option maxRecDepth 100000 in
theorem fX3_9 : FL RX3 9 3 0 2 (.array .int) true true := ⟨RX3, TX3, 11, tyX3, ⟨rfl, inq3, Nat.le_of_ble_eq_true rfl, rfl, Nat.le_of_ble_eq_true rfl, Or.inl (tg2 (i := 45) rfl rfl)⟩, rfl, tyX3_ok 0 (Nat.le_of_ble_eq_true rfl), tyX3_ok, nmX3, fun _ _ => rfl⟩
set_option maxRecDepth 100000 in
theorem fX3_15 : FL RX3 15 3 1 2 (.array .int) true true := ⟨RX3, TX3, 11, tyX3, ⟨rfl, inq3, Nat.le_of_ble_eq_true rfl, rfl, Nat.le_of_ble_eq_true rfl, Or.inl (tg2 (i := 46) rfl rfl)⟩, rfl, tyX3_ok 1 (Nat.le_of_ble_eq_true rfl), tyX3_ok, nmX3, fun _ _ => rfl⟩
set_option maxRecDepth 100000 in
theorem fX3_18 : FL RX3 18 3 2 2 (.array .int) true true := ⟨RX3, TX3, 11, tyX3, ⟨rfl, inq3, Nat.le_of_ble_eq_true rfl, rfl, Nat.le_of_ble_eq_true rfl, Or.inl (tg2 (i := 47) rfl rfl)⟩, rfl, tyX3_ok 2 (Nat.le_of_ble_eq_true rfl), tyX3_ok, nmX3, fun _ _ => rfl⟩
set_option maxRecDepth 100000 in
theorem fX3_21 : FL RX3 21 3 3 2 (.array .int) true true := ⟨RX3, TX3, 11, tyX3, ⟨rfl, inq3, Nat.le_of_ble_eq_true rfl, rfl, Nat.le_of_ble_eq_true rfl, Or.inl (tg2 (i := 48) rfl rfl)⟩, rfl, tyX3_ok 3 (Nat.le_of_ble_eq_true rfl), tyX3_ok, nmX3, fun _ _ => rfl⟩
set_option maxRecDepth 100000 in
theorem fX3_24 : FL RX3 24 3 4 2 (.array .int) true true := ⟨RX3, TX3, 11, tyX3, ⟨rfl, inq3, Nat.le_of_ble_eq_true rfl, rfl, Nat.le_of_ble_eq_true rfl, Or.inl (tg2 (i := 49) rfl rfl)⟩, rfl, tyX3_ok 4 (Nat.le_of_ble_eq_true rfl), tyX3_ok, nmX3, fun _ _ => rfl⟩
set_option maxRecDepth 100000 in
theorem fX3_27 : FL RX3 27 3 5 2 (.array .int) true true := ⟨RX3, TX3, 11, tyX3, ⟨rfl, inq3, Nat.le_of_ble_eq_true rfl, rfl, Nat.le_of_ble_eq_true rfl, Or.inl (tg2 (i := 50) rfl rfl)⟩, rfl, tyX3_ok 5 (Nat.le_of_ble_eq_true rfl), tyX3_ok, nmX3, fun _ _ => rfl⟩
set_option maxRecDepth 100000 in
theorem fX3_30 : FL RX3 30 3 6 2 (.array .int) true true := ⟨RX3, TX3, 11, tyX3, ⟨rfl, inq3, Nat.le_of_ble_eq_true rfl, rfl, Nat.le_of_ble_eq_true rfl, Or.inl (tg2 (i := 52) rfl rfl)⟩, rfl, tyX3_ok 6 (Nat.le_of_ble_eq_true rfl), tyX3_ok, nmX3, fun _ _ => rfl⟩
set_option maxRecDepth 100000 in
theorem fX3_36 : FL RX3 36 3 7 2 (.object "TrouserSand$Chance") true true := ⟨RX3, TX3, 11, tyX3, ⟨rfl, inq3, Nat.le_of_ble_eq_true rfl, rfl, Nat.le_of_ble_eq_true rfl, Or.inl (tg2 (i := 54) rfl rfl)⟩, rfl, tyX3_ok 7 (Nat.le_of_ble_eq_true rfl), tyX3_ok, nmX3, fun _ _ => rfl⟩
set_option maxRecDepth 100000 in
theorem fX3_40 : FL RX3 40 3 8 0 .int false true := ⟨RX3, TX3, 11, tyX3, ⟨rfl, inq3, Nat.le_of_ble_eq_true rfl, rfl, Nat.le_of_ble_eq_true rfl, Or.inl (tg2 (i := 56) rfl rfl)⟩, rfl, tyX3_ok 8 (Nat.le_of_ble_eq_true rfl), tyX3_ok, nmX3, fun _ h => absurd h Bool.false_ne_true⟩
set_option maxRecDepth 100000 in
theorem fX3_44 : FL RX3 44 3 9 0 .int false true := ⟨RX3, TX3, 11, tyX3, ⟨rfl, inq3, Nat.le_of_ble_eq_true rfl, rfl, Nat.le_of_ble_eq_true rfl, Or.inl (tg2 (i := 58) rfl rfl)⟩, rfl, tyX3_ok 9 (Nat.le_of_ble_eq_true rfl), tyX3_ok, nmX3, fun _ h => absurd h Bool.false_ne_true⟩
theorem fX3_59 : FL RX3 59 1 0 1 .long false true := ⟨RX1, TX1, 1, tyX1, ⟨rfl, inq1, Nat.le_of_ble_eq_true rfl, rfl, Nat.le_of_ble_eq_true rfl, Or.inr ⟨RX11, by decide +kernel⟩⟩, rfl, tyX1_ok 0 (Nat.le_of_ble_eq_true rfl), tyX1_ok, nmX1, fun _ h => absurd h Bool.false_ne_true⟩
theorem fX3_103 : FL RX3 103 0 11 2 (.array .int) true false := ⟨RX0, TX0, 18, tyX0, ⟨rfl, inq0, Nat.le_of_ble_eq_true rfl, rfl, Nat.le_of_ble_eq_true rfl, Or.inr ⟨RX11, by decide +kernel⟩⟩, rfl, tyX0_ok 11 (Nat.le_of_ble_eq_true rfl), tyX0_ok, nmX0, fun h _ => absurd h Bool.false_ne_true⟩
theorem fX3_111 : FL RX3 111 0 14 0 .int false true := ⟨RX0, TX0, 18, tyX0, ⟨rfl, inq0, Nat.le_of_ble_eq_true rfl, rfl, Nat.le_of_ble_eq_true rfl, Or.inr ⟨RX11, by decide +kernel⟩⟩, rfl, tyX0_ok 14 (Nat.le_of_ble_eq_true rfl), tyX0_ok, nmX0, fun _ h => absurd h Bool.false_ne_true⟩
theorem fX3_114 : FL RX3 114 0 5 2 (.array .int) true false := ⟨RX0, TX0, 18, tyX0, ⟨rfl, inq0, Nat.le_of_ble_eq_true rfl, rfl, Nat.le_of_ble_eq_true rfl, Or.inr ⟨RX11, by decide +kernel⟩⟩, rfl, tyX0_ok 5 (Nat.le_of_ble_eq_true rfl), tyX0_ok, nmX0, fun h _ => absurd h Bool.false_ne_true⟩
theorem fX3_117 : FL RX3 117 4 0 2 (.array .int) true false := ⟨RX4, TX4, 3, tyX4, ⟨rfl, inq4, Nat.le_of_ble_eq_true rfl, rfl, Nat.le_of_ble_eq_true rfl, Or.inr ⟨RX11, by decide +kernel⟩⟩, rfl, tyX4_ok 0 (Nat.le_of_ble_eq_true rfl), tyX4_ok, nmX4, fun h _ => absurd h Bool.false_ne_true⟩
theorem fX3_120 : FL RX3 120 0 15 0 .int false true := ⟨RX0, TX0, 18, tyX0, ⟨rfl, inq0, Nat.le_of_ble_eq_true rfl, rfl, Nat.le_of_ble_eq_true rfl, Or.inr ⟨RX11, by decide +kernel⟩⟩, rfl, tyX0_ok 15 (Nat.le_of_ble_eq_true rfl), tyX0_ok, nmX0, fun _ h => absurd h Bool.false_ne_true⟩
theorem fX3_123 : FL RX3 123 4 2 2 (.array .int) true false := ⟨RX4, TX4, 3, tyX4, ⟨rfl, inq4, Nat.le_of_ble_eq_true rfl, rfl, Nat.le_of_ble_eq_true rfl, Or.inr ⟨RX11, by decide +kernel⟩⟩, rfl, tyX4_ok 2 (Nat.le_of_ble_eq_true rfl), tyX4_ok, nmX4, fun h _ => absurd h Bool.false_ne_true⟩
theorem fX3_126 : FL RX3 126 4 1 2 (.array .int) true false := ⟨RX4, TX4, 3, tyX4, ⟨rfl, inq4, Nat.le_of_ble_eq_true rfl, rfl, Nat.le_of_ble_eq_true rfl, Or.inr ⟨RX11, by decide +kernel⟩⟩, rfl, tyX4_ok 1 (Nat.le_of_ble_eq_true rfl), tyX4_ok, nmX4, fun h _ => absurd h Bool.false_ne_true⟩
theorem fX3_129 : FL RX3 129 0 10 2 (.array .int) true false := ⟨RX0, TX0, 18, tyX0, ⟨rfl, inq0, Nat.le_of_ble_eq_true rfl, rfl, Nat.le_of_ble_eq_true rfl, Or.inr ⟨RX11, by decide +kernel⟩⟩, rfl, tyX0_ok 10 (Nat.le_of_ble_eq_true rfl), tyX0_ok, nmX0, fun h _ => absurd h Bool.false_ne_true⟩
set_option maxRecDepth 100000 in
theorem fX4_9 : FL RX4 9 4 0 2 (.array .int) true true := ⟨RX4, TX4, 3, tyX4, ⟨rfl, inq4, Nat.le_of_ble_eq_true rfl, rfl, Nat.le_of_ble_eq_true rfl, Or.inl (tg2 (i := 90) rfl rfl)⟩, rfl, tyX4_ok 0 (Nat.le_of_ble_eq_true rfl), tyX4_ok, nmX4, fun _ _ => rfl⟩
set_option maxRecDepth 100000 in
theorem fX4_15 : FL RX4 15 4 1 2 (.array .int) true true := ⟨RX4, TX4, 3, tyX4, ⟨rfl, inq4, Nat.le_of_ble_eq_true rfl, rfl, Nat.le_of_ble_eq_true rfl, Or.inl (tg2 (i := 93) rfl rfl)⟩, rfl, tyX4_ok 1 (Nat.le_of_ble_eq_true rfl), tyX4_ok, nmX4, fun _ _ => rfl⟩
set_option maxRecDepth 100000 in
theorem fX4_18 : FL RX4 18 4 2 2 (.array .int) true true := ⟨RX4, TX4, 3, tyX4, ⟨rfl, inq4, Nat.le_of_ble_eq_true rfl, rfl, Nat.le_of_ble_eq_true rfl, Or.inl (tg2 (i := 96) rfl rfl)⟩, rfl, tyX4_ok 2 (Nat.le_of_ble_eq_true rfl), tyX4_ok, nmX4, fun _ _ => rfl⟩
set_option maxRecDepth 100000 in
theorem fX5_9 : FL RX5 9 5 0 2 (.array .int) true true := ⟨RX5, TX5, 3, tyX5, ⟨rfl, inq5, Nat.le_of_ble_eq_true rfl, rfl, Nat.le_of_ble_eq_true rfl, Or.inl (tg2 (i := 132) rfl rfl)⟩, rfl, tyX5_ok 0 (Nat.le_of_ble_eq_true rfl), tyX5_ok, nmX5, fun _ _ => rfl⟩
theorem fX5_16 : FL RX5 16 0 16 0 .int false true := ⟨RX0, TX0, 18, tyX0, ⟨rfl, inq0, Nat.le_of_ble_eq_true rfl, rfl, Nat.le_of_ble_eq_true rfl, Or.inr ⟨RX11, by decide +kernel⟩⟩, rfl, tyX0_ok 16 (Nat.le_of_ble_eq_true rfl), tyX0_ok, nmX0, fun _ h => absurd h Bool.false_ne_true⟩
theorem fX5_22 : FL RX5 22 0 13 2 (.array .int) true false := ⟨RX0, TX0, 18, tyX0, ⟨rfl, inq0, Nat.le_of_ble_eq_true rfl, rfl, Nat.le_of_ble_eq_true rfl, Or.inr ⟨RX11, by decide +kernel⟩⟩, rfl, tyX0_ok 13 (Nat.le_of_ble_eq_true rfl), tyX0_ok, nmX0, fun h _ => absurd h Bool.false_ne_true⟩
set_option maxRecDepth 100000 in
theorem fX5_25 : FL RX5 25 5 1 0 .int false true := ⟨RX5, TX5, 3, tyX5, ⟨rfl, inq5, Nat.le_of_ble_eq_true rfl, rfl, Nat.le_of_ble_eq_true rfl, Or.inl (tg2 (i := 134) rfl rfl)⟩, rfl, tyX5_ok 1 (Nat.le_of_ble_eq_true rfl), tyX5_ok, nmX5, fun _ h => absurd h Bool.false_ne_true⟩
set_option maxRecDepth 100000 in
theorem fX5_28 : FL RX5 28 5 2 0 .int false true := ⟨RX5, TX5, 3, tyX5, ⟨rfl, inq5, Nat.le_of_ble_eq_true rfl, rfl, Nat.le_of_ble_eq_true rfl, Or.inl (tg2 (i := 136) rfl rfl)⟩, rfl, tyX5_ok 2 (Nat.le_of_ble_eq_true rfl), tyX5_ok, nmX5, fun _ h => absurd h Bool.false_ne_true⟩
set_option maxRecDepth 100000 in
theorem fX6_9 : FL RX6 9 6 0 2 (.array .int) true true := ⟨RX6, TX6, 4, tyX6, ⟨rfl, inq6, Nat.le_of_ble_eq_true rfl, rfl, Nat.le_of_ble_eq_true rfl, Or.inl (tg3 (i := 1) rfl rfl)⟩, rfl, tyX6_ok 0 (Nat.le_of_ble_eq_true rfl), tyX6_ok, nmX6, fun _ _ => rfl⟩
set_option maxRecDepth 100000 in
theorem fX6_16 : FL RX6 16 6 1 2 (.object "TrouserSand$Chance") true true := ⟨RX6, TX6, 4, tyX6, ⟨rfl, inq6, Nat.le_of_ble_eq_true rfl, rfl, Nat.le_of_ble_eq_true rfl, Or.inl (tg3 (i := 3) rfl rfl)⟩, rfl, tyX6_ok 1 (Nat.le_of_ble_eq_true rfl), tyX6_ok, nmX6, fun _ _ => rfl⟩
set_option maxRecDepth 100000 in
theorem fX6_20 : FL RX6 20 6 3 0 .int false true := ⟨RX6, TX6, 4, tyX6, ⟨rfl, inq6, Nat.le_of_ble_eq_true rfl, rfl, Nat.le_of_ble_eq_true rfl, Or.inl (tg3 (i := 5) rfl rfl)⟩, rfl, tyX6_ok 3 (Nat.le_of_ble_eq_true rfl), tyX6_ok, nmX6, fun _ h => absurd h Bool.false_ne_true⟩
theorem fX6_24 : FL RX6 24 1 0 1 .long false true := ⟨RX1, TX1, 1, tyX1, ⟨rfl, inq1, Nat.le_of_ble_eq_true rfl, rfl, Nat.le_of_ble_eq_true rfl, Or.inr ⟨RX11, by decide +kernel⟩⟩, rfl, tyX1_ok 0 (Nat.le_of_ble_eq_true rfl), tyX1_ok, nmX1, fun _ h => absurd h Bool.false_ne_true⟩
set_option maxRecDepth 100000 in
theorem fX6_28 : FL RX6 28 6 2 0 .int false true := ⟨RX6, TX6, 4, tyX6, ⟨rfl, inq6, Nat.le_of_ble_eq_true rfl, rfl, Nat.le_of_ble_eq_true rfl, Or.inl (tg3 (i := 4) rfl rfl)⟩, rfl, tyX6_ok 2 (Nat.le_of_ble_eq_true rfl), tyX6_ok, nmX6, fun _ h => absurd h Bool.false_ne_true⟩
set_option maxRecDepth 100000 in
theorem fX7_11 : FL RX7 11 7 0 2 (.array .int) true true := ⟨RX7, TX7, 10, tyX7, ⟨rfl, inq7, Nat.le_of_ble_eq_true rfl, rfl, Nat.le_of_ble_eq_true rfl, Or.inl (tg2 (i := 197) rfl rfl)⟩, rfl, tyX7_ok 0 (Nat.le_of_ble_eq_true rfl), tyX7_ok, nmX7, fun _ _ => rfl⟩
set_option maxRecDepth 100000 in
theorem fX7_15 : FL RX7 15 7 1 2 (.array .int) true true := ⟨RX7, TX7, 10, tyX7, ⟨rfl, inq7, Nat.le_of_ble_eq_true rfl, rfl, Nat.le_of_ble_eq_true rfl, Or.inl (tg2 (i := 198) rfl rfl)⟩, rfl, tyX7_ok 1 (Nat.le_of_ble_eq_true rfl), tyX7_ok, nmX7, fun _ _ => rfl⟩
set_option maxRecDepth 100000 in
theorem fX7_18 : FL RX7 18 7 2 2 (.array .int) true true := ⟨RX7, TX7, 10, tyX7, ⟨rfl, inq7, Nat.le_of_ble_eq_true rfl, rfl, Nat.le_of_ble_eq_true rfl, Or.inl (tg2 (i := 199) rfl rfl)⟩, rfl, tyX7_ok 2 (Nat.le_of_ble_eq_true rfl), tyX7_ok, nmX7, fun _ _ => rfl⟩
set_option maxRecDepth 100000 in
theorem fX7_21 : FL RX7 21 7 3 2 (.array .int) true true := ⟨RX7, TX7, 10, tyX7, ⟨rfl, inq7, Nat.le_of_ble_eq_true rfl, rfl, Nat.le_of_ble_eq_true rfl, Or.inl (tg2 (i := 200) rfl rfl)⟩, rfl, tyX7_ok 3 (Nat.le_of_ble_eq_true rfl), tyX7_ok, nmX7, fun _ _ => rfl⟩
set_option maxRecDepth 100000 in
theorem fX7_24 : FL RX7 24 7 4 2 (.array .int) true true := ⟨RX7, TX7, 10, tyX7, ⟨rfl, inq7, Nat.le_of_ble_eq_true rfl, rfl, Nat.le_of_ble_eq_true rfl, Or.inl (tg2 (i := 202) rfl rfl)⟩, rfl, tyX7_ok 4 (Nat.le_of_ble_eq_true rfl), tyX7_ok, nmX7, fun _ _ => rfl⟩
set_option maxRecDepth 100000 in
theorem fX7_27 : FL RX7 27 7 5 2 (.array .int) true true := ⟨RX7, TX7, 10, tyX7, ⟨rfl, inq7, Nat.le_of_ble_eq_true rfl, rfl, Nat.le_of_ble_eq_true rfl, Or.inl (tg2 (i := 204) rfl rfl)⟩, rfl, tyX7_ok 5 (Nat.le_of_ble_eq_true rfl), tyX7_ok, nmX7, fun _ _ => rfl⟩
set_option maxRecDepth 100000 in
theorem fX7_30 : FL RX7 30 7 6 2 (.array .int) true true := ⟨RX7, TX7, 10, tyX7, ⟨rfl, inq7, Nat.le_of_ble_eq_true rfl, rfl, Nat.le_of_ble_eq_true rfl, Or.inl (tg2 (i := 205) rfl rfl)⟩, rfl, tyX7_ok 6 (Nat.le_of_ble_eq_true rfl), tyX7_ok, nmX7, fun _ _ => rfl⟩
set_option maxRecDepth 100000 in
theorem fX7_33 : FL RX7 33 7 9 0 .int false true := ⟨RX7, TX7, 10, tyX7, ⟨rfl, inq7, Nat.le_of_ble_eq_true rfl, rfl, Nat.le_of_ble_eq_true rfl, Or.inl (tg2 (i := 210) rfl rfl)⟩, rfl, tyX7_ok 9 (Nat.le_of_ble_eq_true rfl), tyX7_ok, nmX7, fun _ h => absurd h Bool.false_ne_true⟩
set_option maxRecDepth 100000 in
theorem fX7_37 : FL RX7 37 7 7 0 .int false true := ⟨RX7, TX7, 10, tyX7, ⟨rfl, inq7, Nat.le_of_ble_eq_true rfl, rfl, Nat.le_of_ble_eq_true rfl, Or.inl (tg2 (i := 206) rfl rfl)⟩, rfl, tyX7_ok 7 (Nat.le_of_ble_eq_true rfl), tyX7_ok, nmX7, fun _ h => absurd h Bool.false_ne_true⟩
set_option maxRecDepth 100000 in
theorem fX7_44 : FL RX7 44 7 8 0 .int false true := ⟨RX7, TX7, 10, tyX7, ⟨rfl, inq7, Nat.le_of_ble_eq_true rfl, rfl, Nat.le_of_ble_eq_true rfl, Or.inl (tg2 (i := 208) rfl rfl)⟩, rfl, tyX7_ok 8 (Nat.le_of_ble_eq_true rfl), tyX7_ok, nmX7, fun _ h => absurd h Bool.false_ne_true⟩
theorem fX7_47 : FL RX7 47 10 1 0 .int false true := ⟨RX10, TX10, 2, tyX10, ⟨rfl, inq10, Nat.le_of_ble_eq_true rfl, rfl, Nat.le_of_ble_eq_true rfl, Or.inr ⟨RX11, by decide +kernel⟩⟩, rfl, tyX10_ok 1 (Nat.le_of_ble_eq_true rfl), tyX10_ok, nmX10, fun _ h => absurd h Bool.false_ne_true⟩
set_option maxRecDepth 100000 in
theorem fX8_15 : FL RX8 15 8 0 2 (.array .long) true true := ⟨RX8, TX8, 16, tyX8, ⟨rfl, inq8, Nat.le_of_ble_eq_true rfl, rfl, Nat.le_of_ble_eq_true rfl, Or.inl (tg1 (i := 214) rfl rfl)⟩, rfl, tyX8_ok 0 (Nat.le_of_ble_eq_true rfl), tyX8_ok, nmX8, fun _ _ => rfl⟩
set_option maxRecDepth 100000 in
theorem fX8_19 : FL RX8 19 8 1 2 (.array .int) true true := ⟨RX8, TX8, 16, tyX8, ⟨rfl, inq8, Nat.le_of_ble_eq_true rfl, rfl, Nat.le_of_ble_eq_true rfl, Or.inl (tg1 (i := 215) rfl rfl)⟩, rfl, tyX8_ok 1 (Nat.le_of_ble_eq_true rfl), tyX8_ok, nmX8, fun _ _ => rfl⟩
set_option maxRecDepth 100000 in
theorem fX8_22 : FL RX8 22 8 5 0 .int false true := ⟨RX8, TX8, 16, tyX8, ⟨rfl, inq8, Nat.le_of_ble_eq_true rfl, rfl, Nat.le_of_ble_eq_true rfl, Or.inl (tg1 (i := 220) rfl rfl)⟩, rfl, tyX8_ok 5 (Nat.le_of_ble_eq_true rfl), tyX8_ok, nmX8, fun _ h => absurd h Bool.false_ne_true⟩
set_option maxRecDepth 100000 in
theorem fX8_26 : FL RX8 26 8 2 2 (.object "TrouserSand$Tape") true true := ⟨RX8, TX8, 16, tyX8, ⟨rfl, inq8, Nat.le_of_ble_eq_true rfl, rfl, Nat.le_of_ble_eq_true rfl, Or.inl (tg1 (i := 216) rfl rfl)⟩, rfl, tyX8_ok 2 (Nat.le_of_ble_eq_true rfl), tyX8_ok, nmX8, fun _ _ => rfl⟩
set_option maxRecDepth 100000 in
theorem fX8_30 : FL RX8 30 8 3 2 (.object "TrouserSand$Camp") false true := ⟨RX8, TX8, 16, tyX8, ⟨rfl, inq8, Nat.le_of_ble_eq_true rfl, rfl, Nat.le_of_ble_eq_true rfl, Or.inl (tg1 (i := 217) rfl rfl)⟩, rfl, tyX8_ok 3 (Nat.le_of_ble_eq_true rfl), tyX8_ok, nmX8, fun _ h => absurd h Bool.false_ne_true⟩
set_option maxRecDepth 100000 in
theorem fX8_65 : FL RX8 65 8 6 0 .int false true := ⟨RX8, TX8, 16, tyX8, ⟨rfl, inq8, Nat.le_of_ble_eq_true rfl, rfl, Nat.le_of_ble_eq_true rfl, Or.inl (tg1 (i := 222) rfl rfl)⟩, rfl, tyX8_ok 6 (Nat.le_of_ble_eq_true rfl), tyX8_ok, nmX8, fun _ h => absurd h Bool.false_ne_true⟩
set_option maxRecDepth 100000 in
theorem fX8_68 : FL RX8 68 8 11 0 .int false true := ⟨RX8, TX8, 16, tyX8, ⟨rfl, inq8, Nat.le_of_ble_eq_true rfl, rfl, Nat.le_of_ble_eq_true rfl, Or.inl (tg1 (i := 227) rfl rfl)⟩, rfl, tyX8_ok 11 (Nat.le_of_ble_eq_true rfl), tyX8_ok, nmX8, fun _ h => absurd h Bool.false_ne_true⟩
set_option maxRecDepth 100000 in
theorem fX8_71 : FL RX8 71 8 12 0 .int false true := ⟨RX8, TX8, 16, tyX8, ⟨rfl, inq8, Nat.le_of_ble_eq_true rfl, rfl, Nat.le_of_ble_eq_true rfl, Or.inl (tg1 (i := 228) rfl rfl)⟩, rfl, tyX8_ok 12 (Nat.le_of_ble_eq_true rfl), tyX8_ok, nmX8, fun _ h => absurd h Bool.false_ne_true⟩
set_option maxRecDepth 100000 in
theorem fX8_74 : FL RX8 74 8 4 0 .int false true := ⟨RX8, TX8, 16, tyX8, ⟨rfl, inq8, Nat.le_of_ble_eq_true rfl, rfl, Nat.le_of_ble_eq_true rfl, Or.inl (tg1 (i := 219) rfl rfl)⟩, rfl, tyX8_ok 4 (Nat.le_of_ble_eq_true rfl), tyX8_ok, nmX8, fun _ h => absurd h Bool.false_ne_true⟩
set_option maxRecDepth 100000 in
theorem fX8_80 : FL RX8 80 8 7 0 .int false true := ⟨RX8, TX8, 16, tyX8, ⟨rfl, inq8, Nat.le_of_ble_eq_true rfl, rfl, Nat.le_of_ble_eq_true rfl, Or.inl (tg1 (i := 223) rfl rfl)⟩, rfl, tyX8_ok 7 (Nat.le_of_ble_eq_true rfl), tyX8_ok, nmX8, fun _ h => absurd h Bool.false_ne_true⟩
set_option maxRecDepth 100000 in
theorem fX8_86 : FL RX8 86 8 8 0 .int false true := ⟨RX8, TX8, 16, tyX8, ⟨rfl, inq8, Nat.le_of_ble_eq_true rfl, rfl, Nat.le_of_ble_eq_true rfl, Or.inl (tg1 (i := 224) rfl rfl)⟩, rfl, tyX8_ok 8 (Nat.le_of_ble_eq_true rfl), tyX8_ok, nmX8, fun _ h => absurd h Bool.false_ne_true⟩
theorem fX8_106 : FL RX8 106 10 1 0 .int false true := ⟨RX10, TX10, 2, tyX10, ⟨rfl, inq10, Nat.le_of_ble_eq_true rfl, rfl, Nat.le_of_ble_eq_true rfl, Or.inr ⟨RX11, by decide +kernel⟩⟩, rfl, tyX10_ok 1 (Nat.le_of_ble_eq_true rfl), tyX10_ok, nmX10, fun _ h => absurd h Bool.false_ne_true⟩
set_option maxRecDepth 100000 in
theorem fX8_108 : FL RX8 108 8 9 1 .long false true := ⟨RX8, TX8, 16, tyX8, ⟨rfl, inq8, Nat.le_of_ble_eq_true rfl, rfl, Nat.le_of_ble_eq_true rfl, Or.inl (tg1 (i := 225) rfl rfl)⟩, rfl, tyX8_ok 9 (Nat.le_of_ble_eq_true rfl), tyX8_ok, nmX8, fun _ h => absurd h Bool.false_ne_true⟩
set_option maxRecDepth 100000 in
theorem fX8_112 : FL RX8 112 8 10 0 .int false true := ⟨RX8, TX8, 16, tyX8, ⟨rfl, inq8, Nat.le_of_ble_eq_true rfl, rfl, Nat.le_of_ble_eq_true rfl, Or.inl (tg1 (i := 226) rfl rfl)⟩, rfl, tyX8_ok 10 (Nat.le_of_ble_eq_true rfl), tyX8_ok, nmX8, fun _ h => absurd h Bool.false_ne_true⟩
theorem fX8_144 : FL RX8 144 0 14 0 .int false true := ⟨RX0, TX0, 18, tyX0, ⟨rfl, inq0, Nat.le_of_ble_eq_true rfl, rfl, Nat.le_of_ble_eq_true rfl, Or.inr ⟨RX11, by decide +kernel⟩⟩, rfl, tyX0_ok 14 (Nat.le_of_ble_eq_true rfl), tyX0_ok, nmX0, fun _ h => absurd h Bool.false_ne_true⟩
theorem fX8_147 : FL RX8 147 0 15 0 .int false true := ⟨RX0, TX0, 18, tyX0, ⟨rfl, inq0, Nat.le_of_ble_eq_true rfl, rfl, Nat.le_of_ble_eq_true rfl, Or.inr ⟨RX11, by decide +kernel⟩⟩, rfl, tyX0_ok 15 (Nat.le_of_ble_eq_true rfl), tyX0_ok, nmX0, fun _ h => absurd h Bool.false_ne_true⟩
theorem fX8_150 : FL RX8 150 0 16 0 .int false true := ⟨RX0, TX0, 18, tyX0, ⟨rfl, inq0, Nat.le_of_ble_eq_true rfl, rfl, Nat.le_of_ble_eq_true rfl, Or.inr ⟨RX11, by decide +kernel⟩⟩, rfl, tyX0_ok 16 (Nat.le_of_ble_eq_true rfl), tyX0_ok, nmX0, fun _ h => absurd h Bool.false_ne_true⟩
theorem fX8_153 : FL RX8 153 0 2 2 (.array .long) true false := ⟨RX0, TX0, 18, tyX0, ⟨rfl, inq0, Nat.le_of_ble_eq_true rfl, rfl, Nat.le_of_ble_eq_true rfl, Or.inr ⟨RX11, by decide +kernel⟩⟩, rfl, tyX0_ok 2 (Nat.le_of_ble_eq_true rfl), tyX0_ok, nmX0, fun h _ => absurd h Bool.false_ne_true⟩
theorem fX8_160 : FL RX8 160 0 8 2 (.array .long) true false := ⟨RX0, TX0, 18, tyX0, ⟨rfl, inq0, Nat.le_of_ble_eq_true rfl, rfl, Nat.le_of_ble_eq_true rfl, Or.inr ⟨RX11, by decide +kernel⟩⟩, rfl, tyX0_ok 8 (Nat.le_of_ble_eq_true rfl), tyX0_ok, nmX0, fun h _ => absurd h Bool.false_ne_true⟩
theorem fX8_163 : FL RX8 163 0 12 2 (.array .long) true false := ⟨RX0, TX0, 18, tyX0, ⟨rfl, inq0, Nat.le_of_ble_eq_true rfl, rfl, Nat.le_of_ble_eq_true rfl, Or.inr ⟨RX11, by decide +kernel⟩⟩, rfl, tyX0_ok 12 (Nat.le_of_ble_eq_true rfl), tyX0_ok, nmX0, fun h _ => absurd h Bool.false_ne_true⟩
set_option maxRecDepth 100000 in
theorem fX8_169 : FL RX8 169 8 13 1 .long false true := ⟨RX8, TX8, 16, tyX8, ⟨rfl, inq8, Nat.le_of_ble_eq_true rfl, rfl, Nat.le_of_ble_eq_true rfl, Or.inl (tg1 (i := 229) rfl rfl)⟩, rfl, tyX8_ok 13 (Nat.le_of_ble_eq_true rfl), tyX8_ok, nmX8, fun _ h => absurd h Bool.false_ne_true⟩
set_option maxRecDepth 100000 in
theorem fX8_172 : FL RX8 172 8 14 0 .int false true := ⟨RX8, TX8, 16, tyX8, ⟨rfl, inq8, Nat.le_of_ble_eq_true rfl, rfl, Nat.le_of_ble_eq_true rfl, Or.inl (tg1 (i := 230) rfl rfl)⟩, rfl, tyX8_ok 14 (Nat.le_of_ble_eq_true rfl), tyX8_ok, nmX8, fun _ h => absurd h Bool.false_ne_true⟩
theorem fX8_175 : FL RX8 175 0 6 2 (.array .int) true false := ⟨RX0, TX0, 18, tyX0, ⟨rfl, inq0, Nat.le_of_ble_eq_true rfl, rfl, Nat.le_of_ble_eq_true rfl, Or.inr ⟨RX11, by decide +kernel⟩⟩, rfl, tyX0_ok 6 (Nat.le_of_ble_eq_true rfl), tyX0_ok, nmX0, fun h _ => absurd h Bool.false_ne_true⟩
set_option maxRecDepth 100000 in
theorem fX8_178 : FL RX8 178 8 15 0 .int false true := ⟨RX8, TX8, 16, tyX8, ⟨rfl, inq8, Nat.le_of_ble_eq_true rfl, rfl, Nat.le_of_ble_eq_true rfl, Or.inl (tg1 (i := 231) rfl rfl)⟩, rfl, tyX8_ok 15 (Nat.le_of_ble_eq_true rfl), tyX8_ok, nmX8, fun _ h => absurd h Bool.false_ne_true⟩
theorem fX8_194 : FL RX8 194 0 17 0 .int false true := ⟨RX0, TX0, 18, tyX0, ⟨rfl, inq0, Nat.le_of_ble_eq_true rfl, rfl, Nat.le_of_ble_eq_true rfl, Or.inr ⟨RX11, by decide +kernel⟩⟩, rfl, tyX0_ok 17 (Nat.le_of_ble_eq_true rfl), tyX0_ok, nmX0, fun _ h => absurd h Bool.false_ne_true⟩
set_option maxRecDepth 100000 in
theorem fX9_11 : FL RX9 11 9 0 2 (.array .int) true true := ⟨RX9, TX9, 12, tyX9, ⟨rfl, inq9, Nat.le_of_ble_eq_true rfl, rfl, Nat.le_of_ble_eq_true rfl, Or.inl (tg2 (i := 151) rfl rfl)⟩, rfl, tyX9_ok 0 (Nat.le_of_ble_eq_true rfl), tyX9_ok, nmX9, fun _ _ => rfl⟩
set_option maxRecDepth 100000 in
theorem fX9_15 : FL RX9 15 9 1 2 (.array .int) true true := ⟨RX9, TX9, 12, tyX9, ⟨rfl, inq9, Nat.le_of_ble_eq_true rfl, rfl, Nat.le_of_ble_eq_true rfl, Or.inl (tg2 (i := 152) rfl rfl)⟩, rfl, tyX9_ok 1 (Nat.le_of_ble_eq_true rfl), tyX9_ok, nmX9, fun _ _ => rfl⟩
set_option maxRecDepth 100000 in
theorem fX9_18 : FL RX9 18 9 2 2 (.array .int) true true := ⟨RX9, TX9, 12, tyX9, ⟨rfl, inq9, Nat.le_of_ble_eq_true rfl, rfl, Nat.le_of_ble_eq_true rfl, Or.inl (tg2 (i := 153) rfl rfl)⟩, rfl, tyX9_ok 2 (Nat.le_of_ble_eq_true rfl), tyX9_ok, nmX9, fun _ _ => rfl⟩
set_option maxRecDepth 100000 in
theorem fX9_21 : FL RX9 21 9 3 2 (.array .int) true true := ⟨RX9, TX9, 12, tyX9, ⟨rfl, inq9, Nat.le_of_ble_eq_true rfl, rfl, Nat.le_of_ble_eq_true rfl, Or.inl (tg2 (i := 154) rfl rfl)⟩, rfl, tyX9_ok 3 (Nat.le_of_ble_eq_true rfl), tyX9_ok, nmX9, fun _ _ => rfl⟩
set_option maxRecDepth 100000 in
theorem fX9_24 : FL RX9 24 9 4 2 (.array .int) true true := ⟨RX9, TX9, 12, tyX9, ⟨rfl, inq9, Nat.le_of_ble_eq_true rfl, rfl, Nat.le_of_ble_eq_true rfl, Or.inl (tg2 (i := 155) rfl rfl)⟩, rfl, tyX9_ok 4 (Nat.le_of_ble_eq_true rfl), tyX9_ok, nmX9, fun _ _ => rfl⟩
set_option maxRecDepth 100000 in
theorem fX9_27 : FL RX9 27 9 5 2 (.array .int) true true := ⟨RX9, TX9, 12, tyX9, ⟨rfl, inq9, Nat.le_of_ble_eq_true rfl, rfl, Nat.le_of_ble_eq_true rfl, Or.inl (tg2 (i := 156) rfl rfl)⟩, rfl, tyX9_ok 5 (Nat.le_of_ble_eq_true rfl), tyX9_ok, nmX9, fun _ _ => rfl⟩
set_option maxRecDepth 100000 in
theorem fX9_30 : FL RX9 30 9 6 2 (.array .int) true true := ⟨RX9, TX9, 12, tyX9, ⟨rfl, inq9, Nat.le_of_ble_eq_true rfl, rfl, Nat.le_of_ble_eq_true rfl, Or.inl (tg2 (i := 157) rfl rfl)⟩, rfl, tyX9_ok 6 (Nat.le_of_ble_eq_true rfl), tyX9_ok, nmX9, fun _ _ => rfl⟩
set_option maxRecDepth 100000 in
theorem fX9_33 : FL RX9 33 9 7 2 (.array .int) true true := ⟨RX9, TX9, 12, tyX9, ⟨rfl, inq9, Nat.le_of_ble_eq_true rfl, rfl, Nat.le_of_ble_eq_true rfl, Or.inl (tg2 (i := 158) rfl rfl)⟩, rfl, tyX9_ok 7 (Nat.le_of_ble_eq_true rfl), tyX9_ok, nmX9, fun _ _ => rfl⟩
set_option maxRecDepth 100000 in
theorem fX9_36 : FL RX9 36 9 8 0 .int false true := ⟨RX9, TX9, 12, tyX9, ⟨rfl, inq9, Nat.le_of_ble_eq_true rfl, rfl, Nat.le_of_ble_eq_true rfl, Or.inl (tg2 (i := 159) rfl rfl)⟩, rfl, tyX9_ok 8 (Nat.le_of_ble_eq_true rfl), tyX9_ok, nmX9, fun _ h => absurd h Bool.false_ne_true⟩
set_option maxRecDepth 100000 in
theorem fX9_40 : FL RX9 40 9 9 0 .int false true := ⟨RX9, TX9, 12, tyX9, ⟨rfl, inq9, Nat.le_of_ble_eq_true rfl, rfl, Nat.le_of_ble_eq_true rfl, Or.inl (tg2 (i := 161) rfl rfl)⟩, rfl, tyX9_ok 9 (Nat.le_of_ble_eq_true rfl), tyX9_ok, nmX9, fun _ h => absurd h Bool.false_ne_true⟩
set_option maxRecDepth 100000 in
theorem fX9_43 : FL RX9 43 9 10 0 .int false true := ⟨RX9, TX9, 12, tyX9, ⟨rfl, inq9, Nat.le_of_ble_eq_true rfl, rfl, Nat.le_of_ble_eq_true rfl, Or.inl (tg2 (i := 163) rfl rfl)⟩, rfl, tyX9_ok 10 (Nat.le_of_ble_eq_true rfl), tyX9_ok, nmX9, fun _ h => absurd h Bool.false_ne_true⟩
set_option maxRecDepth 100000 in
theorem fX9_46 : FL RX9 46 9 11 0 .int false true := ⟨RX9, TX9, 12, tyX9, ⟨rfl, inq9, Nat.le_of_ble_eq_true rfl, rfl, Nat.le_of_ble_eq_true rfl, Or.inl (tg2 (i := 164) rfl rfl)⟩, rfl, tyX9_ok 11 (Nat.le_of_ble_eq_true rfl), tyX9_ok, nmX9, fun _ h => absurd h Bool.false_ne_true⟩
theorem fX9_71 : FL RX9 71 0 4 2 (.array .int) true false := ⟨RX0, TX0, 18, tyX0, ⟨rfl, inq0, Nat.le_of_ble_eq_true rfl, rfl, Nat.le_of_ble_eq_true rfl, Or.inr ⟨RX11, by decide +kernel⟩⟩, rfl, tyX0_ok 4 (Nat.le_of_ble_eq_true rfl), tyX0_ok, nmX0, fun h _ => absurd h Bool.false_ne_true⟩
set_option maxRecDepth 100000 in
theorem fX10_9 : FL RX10 9 10 0 2 (.array .int) true true := ⟨RX10, TX10, 2, tyX10, ⟨rfl, inq10, Nat.le_of_ble_eq_true rfl, rfl, Nat.le_of_ble_eq_true rfl, Or.inl (tg1 (i := 36) rfl rfl)⟩, rfl, tyX10_ok 0 (Nat.le_of_ble_eq_true rfl), tyX10_ok, nmX10, fun _ _ => rfl⟩
set_option maxRecDepth 100000 in
theorem fX10_15 : FL RX10 15 10 1 0 .int false true := ⟨RX10, TX10, 2, tyX10, ⟨rfl, inq10, Nat.le_of_ble_eq_true rfl, rfl, Nat.le_of_ble_eq_true rfl, Or.inl (tg1 (i := 38) rfl rfl)⟩, rfl, tyX10_ok 1 (Nat.le_of_ble_eq_true rfl), tyX10_ok, nmX10, fun _ h => absurd h Bool.false_ne_true⟩
set_option maxRecDepth 100000 in
theorem fX12_3 : FL RX12 3 12 8 0 .int false true := ⟨RX12, TX12, 94, tyX12, ⟨rfl, inq12, Nat.le_of_ble_eq_true rfl, rfl, Nat.le_of_ble_eq_true rfl, Or.inl (tg5 (i := 200) rfl rfl)⟩, rfl, tyX12_ok 8 (Nat.le_of_ble_eq_true rfl), tyX12_ok, nmX12, fun _ h => absurd h Bool.false_ne_true⟩
set_option maxRecDepth 100000 in
theorem fX12_7 : FL RX12 7 12 3 0 .int false true := ⟨RX12, TX12, 94, tyX12, ⟨rfl, inq12, Nat.le_of_ble_eq_true rfl, rfl, Nat.le_of_ble_eq_true rfl, Or.inl (tg5 (i := 195) rfl rfl)⟩, rfl, tyX12_ok 3 (Nat.le_of_ble_eq_true rfl), tyX12_ok, nmX12, fun _ h => absurd h Bool.false_ne_true⟩
set_option maxRecDepth 100000 in
theorem fX12_10 : FL RX12 10 12 9 0 .int false true := ⟨RX12, TX12, 94, tyX12, ⟨rfl, inq12, Nat.le_of_ble_eq_true rfl, rfl, Nat.le_of_ble_eq_true rfl, Or.inl (tg5 (i := 201) rfl rfl)⟩, rfl, tyX12_ok 9 (Nat.le_of_ble_eq_true rfl), tyX12_ok, nmX12, fun _ h => absurd h Bool.false_ne_true⟩
set_option maxRecDepth 100000 in
theorem fX12_13 : FL RX12 13 12 2 0 .int false true := ⟨RX12, TX12, 94, tyX12, ⟨rfl, inq12, Nat.le_of_ble_eq_true rfl, rfl, Nat.le_of_ble_eq_true rfl, Or.inl (tg5 (i := 194) rfl rfl)⟩, rfl, tyX12_ok 2 (Nat.le_of_ble_eq_true rfl), tyX12_ok, nmX12, fun _ h => absurd h Bool.false_ne_true⟩
set_option maxRecDepth 100000 in
theorem fX12_16 : FL RX12 16 12 0 2 (.array .byte) true true := ⟨RX12, TX12, 94, tyX12, ⟨rfl, inq12, Nat.le_of_ble_eq_true rfl, rfl, Nat.le_of_ble_eq_true rfl, Or.inl (tg5 (i := 192) rfl rfl)⟩, rfl, tyX12_ok 0 (Nat.le_of_ble_eq_true rfl), tyX12_ok, nmX12, fun _ _ => rfl⟩
set_option maxRecDepth 100000 in
theorem fX12_20 : FL RX12 20 12 4 0 .int false true := ⟨RX12, TX12, 94, tyX12, ⟨rfl, inq12, Nat.le_of_ble_eq_true rfl, rfl, Nat.le_of_ble_eq_true rfl, Or.inl (tg5 (i := 196) rfl rfl)⟩, rfl, tyX12_ok 4 (Nat.le_of_ble_eq_true rfl), tyX12_ok, nmX12, fun _ h => absurd h Bool.false_ne_true⟩
set_option maxRecDepth 100000 in
theorem fX12_27 : FL RX12 27 12 5 0 .int false true := ⟨RX12, TX12, 94, tyX12, ⟨rfl, inq12, Nat.le_of_ble_eq_true rfl, rfl, Nat.le_of_ble_eq_true rfl, Or.inl (tg5 (i := 197) rfl rfl)⟩, rfl, tyX12_ok 5 (Nat.le_of_ble_eq_true rfl), tyX12_ok, nmX12, fun _ h => absurd h Bool.false_ne_true⟩
set_option maxRecDepth 100000 in
theorem fX12_37 : FL RX12 37 12 6 0 .int false true := ⟨RX12, TX12, 94, tyX12, ⟨rfl, inq12, Nat.le_of_ble_eq_true rfl, rfl, Nat.le_of_ble_eq_true rfl, Or.inl (tg5 (i := 198) rfl rfl)⟩, rfl, tyX12_ok 6 (Nat.le_of_ble_eq_true rfl), tyX12_ok, nmX12, fun _ h => absurd h Bool.false_ne_true⟩
set_option maxRecDepth 100000 in
theorem fX12_56 : FL RX12 56 12 7 0 .int false true := ⟨RX12, TX12, 94, tyX12, ⟨rfl, inq12, Nat.le_of_ble_eq_true rfl, rfl, Nat.le_of_ble_eq_true rfl, Or.inl (tg5 (i := 199) rfl rfl)⟩, rfl, tyX12_ok 7 (Nat.le_of_ble_eq_true rfl), tyX12_ok, nmX12, fun _ h => absurd h Bool.false_ne_true⟩
set_option maxRecDepth 100000 in
theorem fX12_95 : FL RX12 95 12 16 0 .int false true := ⟨RX12, TX12, 94, tyX12, ⟨rfl, inq12, Nat.le_of_ble_eq_true rfl, rfl, Nat.le_of_ble_eq_true rfl, Or.inl (tg5 (i := 208) rfl rfl)⟩, rfl, tyX12_ok 16 (Nat.le_of_ble_eq_true rfl), tyX12_ok, nmX12, fun _ h => absurd h Bool.false_ne_true⟩
set_option maxRecDepth 100000 in
theorem fX12_98 : FL RX12 98 12 25 2 (.array .long) true true := ⟨RX12, TX12, 94, tyX12, ⟨rfl, inq12, Nat.le_of_ble_eq_true rfl, rfl, Nat.le_of_ble_eq_true rfl, Or.inl (tg5 (i := 217) rfl rfl)⟩, rfl, tyX12_ok 25 (Nat.le_of_ble_eq_true rfl), tyX12_ok, nmX12, fun _ _ => rfl⟩
set_option maxRecDepth 100000 in
theorem fX12_110 : FL RX12 110 12 37 2 (.array .int) true true := ⟨RX12, TX12, 94, tyX12, ⟨rfl, inq12, Nat.le_of_ble_eq_true rfl, rfl, Nat.le_of_ble_eq_true rfl, Or.inl (tg5 (i := 229) rfl rfl)⟩, rfl, tyX12_ok 37 (Nat.le_of_ble_eq_true rfl), tyX12_ok, nmX12, fun _ _ => rfl⟩
set_option maxRecDepth 100000 in
theorem fX12_114 : FL RX12 114 12 38 2 (.array .int) true true := ⟨RX12, TX12, 94, tyX12, ⟨rfl, inq12, Nat.le_of_ble_eq_true rfl, rfl, Nat.le_of_ble_eq_true rfl, Or.inl (tg5 (i := 230) rfl rfl)⟩, rfl, tyX12_ok 38 (Nat.le_of_ble_eq_true rfl), tyX12_ok, nmX12, fun _ _ => rfl⟩
set_option maxRecDepth 100000 in
theorem fX12_117 : FL RX12 117 12 39 2 (.array .int) true true := ⟨RX12, TX12, 94, tyX12, ⟨rfl, inq12, Nat.le_of_ble_eq_true rfl, rfl, Nat.le_of_ble_eq_true rfl, Or.inl (tg5 (i := 231) rfl rfl)⟩, rfl, tyX12_ok 39 (Nat.le_of_ble_eq_true rfl), tyX12_ok, nmX12, fun _ _ => rfl⟩
set_option maxRecDepth 100000 in
theorem fX12_120 : FL RX12 120 12 40 2 (.array .int) true true := ⟨RX12, TX12, 94, tyX12, ⟨rfl, inq12, Nat.le_of_ble_eq_true rfl, rfl, Nat.le_of_ble_eq_true rfl, Or.inl (tg5 (i := 232) rfl rfl)⟩, rfl, tyX12_ok 40 (Nat.le_of_ble_eq_true rfl), tyX12_ok, nmX12, fun _ _ => rfl⟩
set_option maxRecDepth 100000 in
theorem fX12_123 : FL RX12 123 12 17 0 .int false true := ⟨RX12, TX12, 94, tyX12, ⟨rfl, inq12, Nat.le_of_ble_eq_true rfl, rfl, Nat.le_of_ble_eq_true rfl, Or.inl (tg5 (i := 209) rfl rfl)⟩, rfl, tyX12_ok 17 (Nat.le_of_ble_eq_true rfl), tyX12_ok, nmX12, fun _ h => absurd h Bool.false_ne_true⟩
set_option maxRecDepth 100000 in
theorem fX12_126 : FL RX12 126 12 26 2 (.array .long) true true := ⟨RX12, TX12, 94, tyX12, ⟨rfl, inq12, Nat.le_of_ble_eq_true rfl, rfl, Nat.le_of_ble_eq_true rfl, Or.inl (tg5 (i := 218) rfl rfl)⟩, rfl, tyX12_ok 26 (Nat.le_of_ble_eq_true rfl), tyX12_ok, nmX12, fun _ _ => rfl⟩
set_option maxRecDepth 100000 in
theorem fX12_129 : FL RX12 129 12 42 2 (.array .int) true true := ⟨RX12, TX12, 94, tyX12, ⟨rfl, inq12, Nat.le_of_ble_eq_true rfl, rfl, Nat.le_of_ble_eq_true rfl, Or.inl (tg5 (i := 234) rfl rfl)⟩, rfl, tyX12_ok 42 (Nat.le_of_ble_eq_true rfl), tyX12_ok, nmX12, fun _ _ => rfl⟩
set_option maxRecDepth 100000 in
theorem fX12_132 : FL RX12 132 12 43 2 (.array .int) true true := ⟨RX12, TX12, 94, tyX12, ⟨rfl, inq12, Nat.le_of_ble_eq_true rfl, rfl, Nat.le_of_ble_eq_true rfl, Or.inl (tg5 (i := 235) rfl rfl)⟩, rfl, tyX12_ok 43 (Nat.le_of_ble_eq_true rfl), tyX12_ok, nmX12, fun _ _ => rfl⟩
set_option maxRecDepth 100000 in
theorem fX12_135 : FL RX12 135 12 44 2 (.array .int) true true := ⟨RX12, TX12, 94, tyX12, ⟨rfl, inq12, Nat.le_of_ble_eq_true rfl, rfl, Nat.le_of_ble_eq_true rfl, Or.inl (tg5 (i := 236) rfl rfl)⟩, rfl, tyX12_ok 44 (Nat.le_of_ble_eq_true rfl), tyX12_ok, nmX12, fun _ _ => rfl⟩
set_option maxRecDepth 100000 in
theorem fX12_138 : FL RX12 138 12 46 0 .int false true := ⟨RX12, TX12, 94, tyX12, ⟨rfl, inq12, Nat.le_of_ble_eq_true rfl, rfl, Nat.le_of_ble_eq_true rfl, Or.inl (tg5 (i := 238) rfl rfl)⟩, rfl, tyX12_ok 46 (Nat.le_of_ble_eq_true rfl), tyX12_ok, nmX12, fun _ h => absurd h Bool.false_ne_true⟩
set_option maxRecDepth 100000 in
theorem fX12_141 : FL RX12 141 12 41 2 (.array .int) true true := ⟨RX12, TX12, 94, tyX12, ⟨rfl, inq12, Nat.le_of_ble_eq_true rfl, rfl, Nat.le_of_ble_eq_true rfl, Or.inl (tg5 (i := 233) rfl rfl)⟩, rfl, tyX12_ok 41 (Nat.le_of_ble_eq_true rfl), tyX12_ok, nmX12, fun _ _ => rfl⟩
set_option maxRecDepth 100000 in
theorem fX12_144 : FL RX12 144 12 18 0 .int false true := ⟨RX12, TX12, 94, tyX12, ⟨rfl, inq12, Nat.le_of_ble_eq_true rfl, rfl, Nat.le_of_ble_eq_true rfl, Or.inl (tg5 (i := 210) rfl rfl)⟩, rfl, tyX12_ok 18 (Nat.le_of_ble_eq_true rfl), tyX12_ok, nmX12, fun _ h => absurd h Bool.false_ne_true⟩
set_option maxRecDepth 100000 in
theorem fX12_147 : FL RX12 147 12 27 2 (.array .long) true true := ⟨RX12, TX12, 94, tyX12, ⟨rfl, inq12, Nat.le_of_ble_eq_true rfl, rfl, Nat.le_of_ble_eq_true rfl, Or.inl (tg5 (i := 219) rfl rfl)⟩, rfl, tyX12_ok 27 (Nat.le_of_ble_eq_true rfl), tyX12_ok, nmX12, fun _ _ => rfl⟩
set_option maxRecDepth 100000 in
theorem fX12_150 : FL RX12 150 12 45 2 (.array .int) true true := ⟨RX12, TX12, 94, tyX12, ⟨rfl, inq12, Nat.le_of_ble_eq_true rfl, rfl, Nat.le_of_ble_eq_true rfl, Or.inl (tg5 (i := 237) rfl rfl)⟩, rfl, tyX12_ok 45 (Nat.le_of_ble_eq_true rfl), tyX12_ok, nmX12, fun _ _ => rfl⟩
set_option maxRecDepth 100000 in
theorem fX12_156 : FL RX12 156 12 22 0 .int false true := ⟨RX12, TX12, 94, tyX12, ⟨rfl, inq12, Nat.le_of_ble_eq_true rfl, rfl, Nat.le_of_ble_eq_true rfl, Or.inl (tg5 (i := 214) rfl rfl)⟩, rfl, tyX12_ok 22 (Nat.le_of_ble_eq_true rfl), tyX12_ok, nmX12, fun _ h => absurd h Bool.false_ne_true⟩
set_option maxRecDepth 100000 in
theorem fX12_159 : FL RX12 159 12 20 0 .int false true := ⟨RX12, TX12, 94, tyX12, ⟨rfl, inq12, Nat.le_of_ble_eq_true rfl, rfl, Nat.le_of_ble_eq_true rfl, Or.inl (tg5 (i := 212) rfl rfl)⟩, rfl, tyX12_ok 20 (Nat.le_of_ble_eq_true rfl), tyX12_ok, nmX12, fun _ h => absurd h Bool.false_ne_true⟩
set_option maxRecDepth 100000 in
theorem fX12_162 : FL RX12 162 12 21 0 .int false true := ⟨RX12, TX12, 94, tyX12, ⟨rfl, inq12, Nat.le_of_ble_eq_true rfl, rfl, Nat.le_of_ble_eq_true rfl, Or.inl (tg5 (i := 213) rfl rfl)⟩, rfl, tyX12_ok 21 (Nat.le_of_ble_eq_true rfl), tyX12_ok, nmX12, fun _ h => absurd h Bool.false_ne_true⟩
set_option maxRecDepth 100000 in
theorem fX12_171 : FL RX12 171 12 24 2 (.array .int) true true := ⟨RX12, TX12, 94, tyX12, ⟨rfl, inq12, Nat.le_of_ble_eq_true rfl, rfl, Nat.le_of_ble_eq_true rfl, Or.inl (tg5 (i := 216) rfl rfl)⟩, rfl, tyX12_ok 24 (Nat.le_of_ble_eq_true rfl), tyX12_ok, nmX12, fun _ _ => rfl⟩
set_option maxRecDepth 100000 in
theorem fX12_174 : FL RX12 174 12 19 0 .int false true := ⟨RX12, TX12, 94, tyX12, ⟨rfl, inq12, Nat.le_of_ble_eq_true rfl, rfl, Nat.le_of_ble_eq_true rfl, Or.inl (tg5 (i := 211) rfl rfl)⟩, rfl, tyX12_ok 19 (Nat.le_of_ble_eq_true rfl), tyX12_ok, nmX12, fun _ h => absurd h Bool.false_ne_true⟩
set_option maxRecDepth 100000 in
theorem fX12_213 : FL RX12 213 12 14 0 .int false true := ⟨RX12, TX12, 94, tyX12, ⟨rfl, inq12, Nat.le_of_ble_eq_true rfl, rfl, Nat.le_of_ble_eq_true rfl, Or.inl (tg5 (i := 206) rfl rfl)⟩, rfl, tyX12_ok 14 (Nat.le_of_ble_eq_true rfl), tyX12_ok, nmX12, fun _ h => absurd h Bool.false_ne_true⟩
set_option maxRecDepth 100000 in
theorem fX12_216 : FL RX12 216 12 15 0 .int false true := ⟨RX12, TX12, 94, tyX12, ⟨rfl, inq12, Nat.le_of_ble_eq_true rfl, rfl, Nat.le_of_ble_eq_true rfl, Or.inl (tg5 (i := 207) rfl rfl)⟩, rfl, tyX12_ok 15 (Nat.le_of_ble_eq_true rfl), tyX12_ok, nmX12, fun _ h => absurd h Bool.false_ne_true⟩
set_option maxRecDepth 100000 in
theorem fX12_219 : FL RX12 219 12 23 2 (.array .int) true true := ⟨RX12, TX12, 94, tyX12, ⟨rfl, inq12, Nat.le_of_ble_eq_true rfl, rfl, Nat.le_of_ble_eq_true rfl, Or.inl (tg5 (i := 215) rfl rfl)⟩, rfl, tyX12_ok 23 (Nat.le_of_ble_eq_true rfl), tyX12_ok, nmX12, fun _ _ => rfl⟩
set_option maxRecDepth 100000 in
theorem fX12_222 : FL RX12 222 12 28 2 (.array .int) true true := ⟨RX12, TX12, 94, tyX12, ⟨rfl, inq12, Nat.le_of_ble_eq_true rfl, rfl, Nat.le_of_ble_eq_true rfl, Or.inl (tg5 (i := 220) rfl rfl)⟩, rfl, tyX12_ok 28 (Nat.le_of_ble_eq_true rfl), tyX12_ok, nmX12, fun _ _ => rfl⟩
set_option maxRecDepth 100000 in
theorem fX12_225 : FL RX12 225 12 29 2 (.array .int) true true := ⟨RX12, TX12, 94, tyX12, ⟨rfl, inq12, Nat.le_of_ble_eq_true rfl, rfl, Nat.le_of_ble_eq_true rfl, Or.inl (tg5 (i := 221) rfl rfl)⟩, rfl, tyX12_ok 29 (Nat.le_of_ble_eq_true rfl), tyX12_ok, nmX12, fun _ _ => rfl⟩
set_option maxRecDepth 100000 in
theorem fX12_228 : FL RX12 228 12 30 2 (.array .int) true true := ⟨RX12, TX12, 94, tyX12, ⟨rfl, inq12, Nat.le_of_ble_eq_true rfl, rfl, Nat.le_of_ble_eq_true rfl, Or.inl (tg5 (i := 222) rfl rfl)⟩, rfl, tyX12_ok 30 (Nat.le_of_ble_eq_true rfl), tyX12_ok, nmX12, fun _ _ => rfl⟩
set_option maxRecDepth 100000 in
theorem fX12_231 : FL RX12 231 12 31 2 (.array .int) true true := ⟨RX12, TX12, 94, tyX12, ⟨rfl, inq12, Nat.le_of_ble_eq_true rfl, rfl, Nat.le_of_ble_eq_true rfl, Or.inl (tg5 (i := 223) rfl rfl)⟩, rfl, tyX12_ok 31 (Nat.le_of_ble_eq_true rfl), tyX12_ok, nmX12, fun _ _ => rfl⟩
set_option maxRecDepth 100000 in
theorem fX12_234 : FL RX12 234 12 32 2 (.array .int) true true := ⟨RX12, TX12, 94, tyX12, ⟨rfl, inq12, Nat.le_of_ble_eq_true rfl, rfl, Nat.le_of_ble_eq_true rfl, Or.inl (tg5 (i := 224) rfl rfl)⟩, rfl, tyX12_ok 32 (Nat.le_of_ble_eq_true rfl), tyX12_ok, nmX12, fun _ _ => rfl⟩
set_option maxRecDepth 100000 in
theorem fX12_236 : FL RX12 236 12 33 2 (.array .int) true true := ⟨RX12, TX12, 94, tyX12, ⟨rfl, inq12, Nat.le_of_ble_eq_true rfl, rfl, Nat.le_of_ble_eq_true rfl, Or.inl (tg5 (i := 225) rfl rfl)⟩, rfl, tyX12_ok 33 (Nat.le_of_ble_eq_true rfl), tyX12_ok, nmX12, fun _ _ => rfl⟩
set_option maxRecDepth 100000 in
theorem fX12_239 : FL RX12 239 12 34 2 (.array .int) true true := ⟨RX12, TX12, 94, tyX12, ⟨rfl, inq12, Nat.le_of_ble_eq_true rfl, rfl, Nat.le_of_ble_eq_true rfl, Or.inl (tg5 (i := 226) rfl rfl)⟩, rfl, tyX12_ok 34 (Nat.le_of_ble_eq_true rfl), tyX12_ok, nmX12, fun _ _ => rfl⟩
set_option maxRecDepth 100000 in
theorem fX12_242 : FL RX12 242 12 35 2 (.array .int) true true := ⟨RX12, TX12, 94, tyX12, ⟨rfl, inq12, Nat.le_of_ble_eq_true rfl, rfl, Nat.le_of_ble_eq_true rfl, Or.inl (tg5 (i := 227) rfl rfl)⟩, rfl, tyX12_ok 35 (Nat.le_of_ble_eq_true rfl), tyX12_ok, nmX12, fun _ _ => rfl⟩
set_option maxRecDepth 100000 in
theorem fX12_245 : FL RX12 245 12 36 2 (.array .int) true true := ⟨RX12, TX12, 94, tyX12, ⟨rfl, inq12, Nat.le_of_ble_eq_true rfl, rfl, Nat.le_of_ble_eq_true rfl, Or.inl (tg5 (i := 228) rfl rfl)⟩, rfl, tyX12_ok 36 (Nat.le_of_ble_eq_true rfl), tyX12_ok, nmX12, fun _ _ => rfl⟩
set_option maxRecDepth 100000 in
theorem fX12_248 : FL RX12 248 12 47 1 .long false true := ⟨RX12, TX12, 94, tyX12, ⟨rfl, inq12, Nat.le_of_ble_eq_true rfl, rfl, Nat.le_of_ble_eq_true rfl, Or.inl (tg5 (i := 239) rfl rfl)⟩, rfl, tyX12_ok 47 (Nat.le_of_ble_eq_true rfl), tyX12_ok, nmX12, fun _ h => absurd h Bool.false_ne_true⟩
set_option maxRecDepth 100000 in
theorem fX12_252 : FL RX12 252 12 50 2 (.array .int) true true := ⟨RX12, TX12, 94, tyX12, ⟨rfl, inq12, Nat.le_of_ble_eq_true rfl, rfl, Nat.le_of_ble_eq_true rfl, Or.inl (tg6 (i := 2) rfl rfl)⟩, rfl, tyX12_ok 50 (Nat.le_of_ble_eq_true rfl), tyX12_ok, nmX12, fun _ _ => rfl⟩
set_option maxRecDepth 100000 in
theorem fX12_255 : FL RX12 255 12 51 2 (.array .int) true true := ⟨RX12, TX12, 94, tyX12, ⟨rfl, inq12, Nat.le_of_ble_eq_true rfl, rfl, Nat.le_of_ble_eq_true rfl, Or.inl (tg6 (i := 3) rfl rfl)⟩, rfl, tyX12_ok 51 (Nat.le_of_ble_eq_true rfl), tyX12_ok, nmX12, fun _ _ => rfl⟩
set_option maxRecDepth 100000 in
theorem fX12_258 : FL RX12 258 12 52 2 (.array .int) true true := ⟨RX12, TX12, 94, tyX12, ⟨rfl, inq12, Nat.le_of_ble_eq_true rfl, rfl, Nat.le_of_ble_eq_true rfl, Or.inl (tg6 (i := 4) rfl rfl)⟩, rfl, tyX12_ok 52 (Nat.le_of_ble_eq_true rfl), tyX12_ok, nmX12, fun _ _ => rfl⟩
set_option maxRecDepth 100000 in
theorem fX12_261 : FL RX12 261 12 53 2 (.array .int) true true := ⟨RX12, TX12, 94, tyX12, ⟨rfl, inq12, Nat.le_of_ble_eq_true rfl, rfl, Nat.le_of_ble_eq_true rfl, Or.inl (tg6 (i := 5) rfl rfl)⟩, rfl, tyX12_ok 53 (Nat.le_of_ble_eq_true rfl), tyX12_ok, nmX12, fun _ _ => rfl⟩
set_option maxRecDepth 100000 in
theorem fX12_264 : FL RX12 264 12 54 2 (.array .int) true true := ⟨RX12, TX12, 94, tyX12, ⟨rfl, inq12, Nat.le_of_ble_eq_true rfl, rfl, Nat.le_of_ble_eq_true rfl, Or.inl (tg6 (i := 6) rfl rfl)⟩, rfl, tyX12_ok 54 (Nat.le_of_ble_eq_true rfl), tyX12_ok, nmX12, fun _ _ => rfl⟩
set_option maxRecDepth 100000 in
theorem fX12_267 : FL RX12 267 12 55 2 (.array .int) true true := ⟨RX12, TX12, 94, tyX12, ⟨rfl, inq12, Nat.le_of_ble_eq_true rfl, rfl, Nat.le_of_ble_eq_true rfl, Or.inl (tg6 (i := 7) rfl rfl)⟩, rfl, tyX12_ok 55 (Nat.le_of_ble_eq_true rfl), tyX12_ok, nmX12, fun _ _ => rfl⟩
set_option maxRecDepth 100000 in
theorem fX12_269 : FL RX12 269 12 56 2 (.array .int) true true := ⟨RX12, TX12, 94, tyX12, ⟨rfl, inq12, Nat.le_of_ble_eq_true rfl, rfl, Nat.le_of_ble_eq_true rfl, Or.inl (tg6 (i := 8) rfl rfl)⟩, rfl, tyX12_ok 56 (Nat.le_of_ble_eq_true rfl), tyX12_ok, nmX12, fun _ _ => rfl⟩
set_option maxRecDepth 100000 in
theorem fX12_272 : FL RX12 272 12 57 2 (.array .int) true true := ⟨RX12, TX12, 94, tyX12, ⟨rfl, inq12, Nat.le_of_ble_eq_true rfl, rfl, Nat.le_of_ble_eq_true rfl, Or.inl (tg6 (i := 9) rfl rfl)⟩, rfl, tyX12_ok 57 (Nat.le_of_ble_eq_true rfl), tyX12_ok, nmX12, fun _ _ => rfl⟩
set_option maxRecDepth 100000 in
theorem fX12_275 : FL RX12 275 12 58 2 (.array .long) true true := ⟨RX12, TX12, 94, tyX12, ⟨rfl, inq12, Nat.le_of_ble_eq_true rfl, rfl, Nat.le_of_ble_eq_true rfl, Or.inl (tg6 (i := 10) rfl rfl)⟩, rfl, tyX12_ok 58 (Nat.le_of_ble_eq_true rfl), tyX12_ok, nmX12, fun _ _ => rfl⟩
set_option maxRecDepth 100000 in
theorem fX12_278 : FL RX12 278 12 59 2 (.array .boolean) true true := ⟨RX12, TX12, 94, tyX12, ⟨rfl, inq12, Nat.le_of_ble_eq_true rfl, rfl, Nat.le_of_ble_eq_true rfl, Or.inl (tg6 (i := 11) rfl rfl)⟩, rfl, tyX12_ok 59 (Nat.le_of_ble_eq_true rfl), tyX12_ok, nmX12, fun _ _ => rfl⟩
set_option maxRecDepth 100000 in
theorem fX12_282 : FL RX12 282 12 60 2 (.array .int) true true := ⟨RX12, TX12, 94, tyX12, ⟨rfl, inq12, Nat.le_of_ble_eq_true rfl, rfl, Nat.le_of_ble_eq_true rfl, Or.inl (tg6 (i := 12) rfl rfl)⟩, rfl, tyX12_ok 60 (Nat.le_of_ble_eq_true rfl), tyX12_ok, nmX12, fun _ _ => rfl⟩
set_option maxRecDepth 100000 in
theorem fX12_285 : FL RX12 285 12 61 2 (.array .int) true true := ⟨RX12, TX12, 94, tyX12, ⟨rfl, inq12, Nat.le_of_ble_eq_true rfl, rfl, Nat.le_of_ble_eq_true rfl, Or.inl (tg6 (i := 13) rfl rfl)⟩, rfl, tyX12_ok 61 (Nat.le_of_ble_eq_true rfl), tyX12_ok, nmX12, fun _ _ => rfl⟩
set_option maxRecDepth 100000 in
theorem fX12_288 : FL RX12 288 12 62 2 (.array .int) true true := ⟨RX12, TX12, 94, tyX12, ⟨rfl, inq12, Nat.le_of_ble_eq_true rfl, rfl, Nat.le_of_ble_eq_true rfl, Or.inl (tg6 (i := 14) rfl rfl)⟩, rfl, tyX12_ok 62 (Nat.le_of_ble_eq_true rfl), tyX12_ok, nmX12, fun _ _ => rfl⟩
set_option maxRecDepth 100000 in
theorem fX12_291 : FL RX12 291 12 63 2 (.array .int) true true := ⟨RX12, TX12, 94, tyX12, ⟨rfl, inq12, Nat.le_of_ble_eq_true rfl, rfl, Nat.le_of_ble_eq_true rfl, Or.inl (tg6 (i := 15) rfl rfl)⟩, rfl, tyX12_ok 63 (Nat.le_of_ble_eq_true rfl), tyX12_ok, nmX12, fun _ _ => rfl⟩
set_option maxRecDepth 100000 in
theorem fX12_294 : FL RX12 294 12 64 2 (.array .int) true true := ⟨RX12, TX12, 94, tyX12, ⟨rfl, inq12, Nat.le_of_ble_eq_true rfl, rfl, Nat.le_of_ble_eq_true rfl, Or.inl (tg6 (i := 16) rfl rfl)⟩, rfl, tyX12_ok 64 (Nat.le_of_ble_eq_true rfl), tyX12_ok, nmX12, fun _ _ => rfl⟩
set_option maxRecDepth 100000 in
theorem fX12_297 : FL RX12 297 12 66 2 (.array .boolean) true true := ⟨RX12, TX12, 94, tyX12, ⟨rfl, inq12, Nat.le_of_ble_eq_true rfl, rfl, Nat.le_of_ble_eq_true rfl, Or.inl (tg6 (i := 18) rfl rfl)⟩, rfl, tyX12_ok 66 (Nat.le_of_ble_eq_true rfl), tyX12_ok, nmX12, fun _ _ => rfl⟩
set_option maxRecDepth 100000 in
theorem fX12_300 : FL RX12 300 12 67 2 (.array .int) true true := ⟨RX12, TX12, 94, tyX12, ⟨rfl, inq12, Nat.le_of_ble_eq_true rfl, rfl, Nat.le_of_ble_eq_true rfl, Or.inl (tg6 (i := 19) rfl rfl)⟩, rfl, tyX12_ok 67 (Nat.le_of_ble_eq_true rfl), tyX12_ok, nmX12, fun _ _ => rfl⟩
set_option maxRecDepth 100000 in
theorem fX12_303 : FL RX12 303 12 73 2 (.array .int) true true := ⟨RX12, TX12, 94, tyX12, ⟨rfl, inq12, Nat.le_of_ble_eq_true rfl, rfl, Nat.le_of_ble_eq_true rfl, Or.inl (tg6 (i := 25) rfl rfl)⟩, rfl, tyX12_ok 73 (Nat.le_of_ble_eq_true rfl), tyX12_ok, nmX12, fun _ _ => rfl⟩
set_option maxRecDepth 100000 in
theorem fX12_306 : FL RX12 306 12 74 2 (.array .int) true true := ⟨RX12, TX12, 94, tyX12, ⟨rfl, inq12, Nat.le_of_ble_eq_true rfl, rfl, Nat.le_of_ble_eq_true rfl, Or.inl (tg6 (i := 26) rfl rfl)⟩, rfl, tyX12_ok 74 (Nat.le_of_ble_eq_true rfl), tyX12_ok, nmX12, fun _ _ => rfl⟩
set_option maxRecDepth 100000 in
theorem fX12_309 : FL RX12 309 12 75 2 (.array .int) true true := ⟨RX12, TX12, 94, tyX12, ⟨rfl, inq12, Nat.le_of_ble_eq_true rfl, rfl, Nat.le_of_ble_eq_true rfl, Or.inl (tg6 (i := 27) rfl rfl)⟩, rfl, tyX12_ok 75 (Nat.le_of_ble_eq_true rfl), tyX12_ok, nmX12, fun _ _ => rfl⟩
set_option maxRecDepth 100000 in
theorem fX12_312 : FL RX12 312 12 76 2 (.array .int) true true := ⟨RX12, TX12, 94, tyX12, ⟨rfl, inq12, Nat.le_of_ble_eq_true rfl, rfl, Nat.le_of_ble_eq_true rfl, Or.inl (tg6 (i := 28) rfl rfl)⟩, rfl, tyX12_ok 76 (Nat.le_of_ble_eq_true rfl), tyX12_ok, nmX12, fun _ _ => rfl⟩
set_option maxRecDepth 100000 in
theorem fX12_315 : FL RX12 315 12 77 2 (.array .int) true true := ⟨RX12, TX12, 94, tyX12, ⟨rfl, inq12, Nat.le_of_ble_eq_true rfl, rfl, Nat.le_of_ble_eq_true rfl, Or.inl (tg6 (i := 29) rfl rfl)⟩, rfl, tyX12_ok 77 (Nat.le_of_ble_eq_true rfl), tyX12_ok, nmX12, fun _ _ => rfl⟩
set_option maxRecDepth 100000 in
theorem fX12_318 : FL RX12 318 12 78 2 (.array .int) true true := ⟨RX12, TX12, 94, tyX12, ⟨rfl, inq12, Nat.le_of_ble_eq_true rfl, rfl, Nat.le_of_ble_eq_true rfl, Or.inl (tg6 (i := 30) rfl rfl)⟩, rfl, tyX12_ok 78 (Nat.le_of_ble_eq_true rfl), tyX12_ok, nmX12, fun _ _ => rfl⟩
set_option maxRecDepth 100000 in
theorem fX12_321 : FL RX12 321 12 79 2 (.array .int) true true := ⟨RX12, TX12, 94, tyX12, ⟨rfl, inq12, Nat.le_of_ble_eq_true rfl, rfl, Nat.le_of_ble_eq_true rfl, Or.inl (tg6 (i := 31) rfl rfl)⟩, rfl, tyX12_ok 79 (Nat.le_of_ble_eq_true rfl), tyX12_ok, nmX12, fun _ _ => rfl⟩
set_option maxRecDepth 100000 in
theorem fX12_324 : FL RX12 324 12 85 2 (.array .int) true true := ⟨RX12, TX12, 94, tyX12, ⟨rfl, inq12, Nat.le_of_ble_eq_true rfl, rfl, Nat.le_of_ble_eq_true rfl, Or.inl (tg6 (i := 37) rfl rfl)⟩, rfl, tyX12_ok 85 (Nat.le_of_ble_eq_true rfl), tyX12_ok, nmX12, fun _ _ => rfl⟩
set_option maxRecDepth 100000 in
theorem fX12_327 : FL RX12 327 12 86 2 (.array .int) true true := ⟨RX12, TX12, 94, tyX12, ⟨rfl, inq12, Nat.le_of_ble_eq_true rfl, rfl, Nat.le_of_ble_eq_true rfl, Or.inl (tg6 (i := 38) rfl rfl)⟩, rfl, tyX12_ok 86 (Nat.le_of_ble_eq_true rfl), tyX12_ok, nmX12, fun _ _ => rfl⟩
set_option maxRecDepth 100000 in
theorem fX12_330 : FL RX12 330 12 87 2 (.array .int) true true := ⟨RX12, TX12, 94, tyX12, ⟨rfl, inq12, Nat.le_of_ble_eq_true rfl, rfl, Nat.le_of_ble_eq_true rfl, Or.inl (tg6 (i := 39) rfl rfl)⟩, rfl, tyX12_ok 87 (Nat.le_of_ble_eq_true rfl), tyX12_ok, nmX12, fun _ _ => rfl⟩
set_option maxRecDepth 100000 in
theorem fX12_333 : FL RX12 333 12 88 2 (.array .int) true true := ⟨RX12, TX12, 94, tyX12, ⟨rfl, inq12, Nat.le_of_ble_eq_true rfl, rfl, Nat.le_of_ble_eq_true rfl, Or.inl (tg6 (i := 40) rfl rfl)⟩, rfl, tyX12_ok 88 (Nat.le_of_ble_eq_true rfl), tyX12_ok, nmX12, fun _ _ => rfl⟩
set_option maxRecDepth 100000 in
theorem fX12_336 : FL RX12 336 12 89 2 (.array .int) true true := ⟨RX12, TX12, 94, tyX12, ⟨rfl, inq12, Nat.le_of_ble_eq_true rfl, rfl, Nat.le_of_ble_eq_true rfl, Or.inl (tg6 (i := 41) rfl rfl)⟩, rfl, tyX12_ok 89 (Nat.le_of_ble_eq_true rfl), tyX12_ok, nmX12, fun _ _ => rfl⟩
set_option maxRecDepth 100000 in
theorem fX12_339 : FL RX12 339 12 90 2 (.array .int) true true := ⟨RX12, TX12, 94, tyX12, ⟨rfl, inq12, Nat.le_of_ble_eq_true rfl, rfl, Nat.le_of_ble_eq_true rfl, Or.inl (tg6 (i := 42) rfl rfl)⟩, rfl, tyX12_ok 90 (Nat.le_of_ble_eq_true rfl), tyX12_ok, nmX12, fun _ _ => rfl⟩
set_option maxRecDepth 100000 in
theorem fX12_342 : FL RX12 342 12 93 2 (.array .int) true true := ⟨RX12, TX12, 94, tyX12, ⟨rfl, inq12, Nat.le_of_ble_eq_true rfl, rfl, Nat.le_of_ble_eq_true rfl, Or.inl (tg6 (i := 45) rfl rfl)⟩, rfl, tyX12_ok 93 (Nat.le_of_ble_eq_true rfl), tyX12_ok, nmX12, fun _ _ => rfl⟩
set_option maxRecDepth 100000 in
theorem fX12_345 : FL RX12 345 12 1 0 .int false true := ⟨RX12, TX12, 94, tyX12, ⟨rfl, inq12, Nat.le_of_ble_eq_true rfl, rfl, Nat.le_of_ble_eq_true rfl, Or.inl (tg5 (i := 193) rfl rfl)⟩, rfl, tyX12_ok 1 (Nat.le_of_ble_eq_true rfl), tyX12_ok, nmX12, fun _ h => absurd h Bool.false_ne_true⟩
set_option maxRecDepth 100000 in
theorem fX12_355 : FL RX12 355 12 10 0 .int false true := ⟨RX12, TX12, 94, tyX12, ⟨rfl, inq12, Nat.le_of_ble_eq_true rfl, rfl, Nat.le_of_ble_eq_true rfl, Or.inl (tg5 (i := 202) rfl rfl)⟩, rfl, tyX12_ok 10 (Nat.le_of_ble_eq_true rfl), tyX12_ok, nmX12, fun _ h => absurd h Bool.false_ne_true⟩
set_option maxRecDepth 100000 in
theorem fX12_358 : FL RX12 358 12 11 0 .int false true := ⟨RX12, TX12, 94, tyX12, ⟨rfl, inq12, Nat.le_of_ble_eq_true rfl, rfl, Nat.le_of_ble_eq_true rfl, Or.inl (tg5 (i := 203) rfl rfl)⟩, rfl, tyX12_ok 11 (Nat.le_of_ble_eq_true rfl), tyX12_ok, nmX12, fun _ h => absurd h Bool.false_ne_true⟩
set_option maxRecDepth 100000 in
theorem fX12_361 : FL RX12 361 12 12 0 .int false true := ⟨RX12, TX12, 94, tyX12, ⟨rfl, inq12, Nat.le_of_ble_eq_true rfl, rfl, Nat.le_of_ble_eq_true rfl, Or.inl (tg5 (i := 204) rfl rfl)⟩, rfl, tyX12_ok 12 (Nat.le_of_ble_eq_true rfl), tyX12_ok, nmX12, fun _ h => absurd h Bool.false_ne_true⟩
set_option maxRecDepth 100000 in
theorem fX12_364 : FL RX12 364 12 13 0 .int false true := ⟨RX12, TX12, 94, tyX12, ⟨rfl, inq12, Nat.le_of_ble_eq_true rfl, rfl, Nat.le_of_ble_eq_true rfl, Or.inl (tg5 (i := 205) rfl rfl)⟩, rfl, tyX12_ok 13 (Nat.le_of_ble_eq_true rfl), tyX12_ok, nmX12, fun _ h => absurd h Bool.false_ne_true⟩
set_option maxRecDepth 100000 in
theorem fX12_370 : FL RX12 370 12 48 0 .int false true := ⟨RX12, TX12, 94, tyX12, ⟨rfl, inq12, Nat.le_of_ble_eq_true rfl, rfl, Nat.le_of_ble_eq_true rfl, Or.inl (tg6 (i := 0) rfl rfl)⟩, rfl, tyX12_ok 48 (Nat.le_of_ble_eq_true rfl), tyX12_ok, nmX12, fun _ h => absurd h Bool.false_ne_true⟩
set_option maxRecDepth 100000 in
theorem fX12_373 : FL RX12 373 12 49 0 .int false true := ⟨RX12, TX12, 94, tyX12, ⟨rfl, inq12, Nat.le_of_ble_eq_true rfl, rfl, Nat.le_of_ble_eq_true rfl, Or.inl (tg6 (i := 1) rfl rfl)⟩, rfl, tyX12_ok 49 (Nat.le_of_ble_eq_true rfl), tyX12_ok, nmX12, fun _ h => absurd h Bool.false_ne_true⟩
set_option maxRecDepth 100000 in
theorem fX12_376 : FL RX12 376 12 69 0 .int false true := ⟨RX12, TX12, 94, tyX12, ⟨rfl, inq12, Nat.le_of_ble_eq_true rfl, rfl, Nat.le_of_ble_eq_true rfl, Or.inl (tg6 (i := 21) rfl rfl)⟩, rfl, tyX12_ok 69 (Nat.le_of_ble_eq_true rfl), tyX12_ok, nmX12, fun _ h => absurd h Bool.false_ne_true⟩
set_option maxRecDepth 100000 in
theorem fX12_379 : FL RX12 379 12 70 0 .int false true := ⟨RX12, TX12, 94, tyX12, ⟨rfl, inq12, Nat.le_of_ble_eq_true rfl, rfl, Nat.le_of_ble_eq_true rfl, Or.inl (tg6 (i := 22) rfl rfl)⟩, rfl, tyX12_ok 70 (Nat.le_of_ble_eq_true rfl), tyX12_ok, nmX12, fun _ h => absurd h Bool.false_ne_true⟩
set_option maxRecDepth 100000 in
theorem fX12_382 : FL RX12 382 12 71 0 .int false true := ⟨RX12, TX12, 94, tyX12, ⟨rfl, inq12, Nat.le_of_ble_eq_true rfl, rfl, Nat.le_of_ble_eq_true rfl, Or.inl (tg6 (i := 23) rfl rfl)⟩, rfl, tyX12_ok 71 (Nat.le_of_ble_eq_true rfl), tyX12_ok, nmX12, fun _ h => absurd h Bool.false_ne_true⟩
set_option maxRecDepth 100000 in
theorem fX12_385 : FL RX12 385 12 72 0 .int false true := ⟨RX12, TX12, 94, tyX12, ⟨rfl, inq12, Nat.le_of_ble_eq_true rfl, rfl, Nat.le_of_ble_eq_true rfl, Or.inl (tg6 (i := 24) rfl rfl)⟩, rfl, tyX12_ok 72 (Nat.le_of_ble_eq_true rfl), tyX12_ok, nmX12, fun _ h => absurd h Bool.false_ne_true⟩
set_option maxRecDepth 100000 in
theorem fX12_388 : FL RX12 388 12 92 0 .int false true := ⟨RX12, TX12, 94, tyX12, ⟨rfl, inq12, Nat.le_of_ble_eq_true rfl, rfl, Nat.le_of_ble_eq_true rfl, Or.inl (tg6 (i := 44) rfl rfl)⟩, rfl, tyX12_ok 92 (Nat.le_of_ble_eq_true rfl), tyX12_ok, nmX12, fun _ h => absurd h Bool.false_ne_true⟩
set_option maxRecDepth 100000 in
theorem fX12_391 : FL RX12 391 12 91 0 .int false true := ⟨RX12, TX12, 94, tyX12, ⟨rfl, inq12, Nat.le_of_ble_eq_true rfl, rfl, Nat.le_of_ble_eq_true rfl, Or.inl (tg6 (i := 43) rfl rfl)⟩, rfl, tyX12_ok 91 (Nat.le_of_ble_eq_true rfl), tyX12_ok, nmX12, fun _ h => absurd h Bool.false_ne_true⟩
set_option maxRecDepth 100000 in
theorem fX12_464 : FL RX12 464 12 65 0 .int false true := ⟨RX12, TX12, 94, tyX12, ⟨rfl, inq12, Nat.le_of_ble_eq_true rfl, rfl, Nat.le_of_ble_eq_true rfl, Or.inl (tg6 (i := 17) rfl rfl)⟩, rfl, tyX12_ok 65 (Nat.le_of_ble_eq_true rfl), tyX12_ok, nmX12, fun _ h => absurd h Bool.false_ne_true⟩
set_option maxRecDepth 100000 in
theorem fX12_484 : FL RX12 484 12 68 0 .int false true := ⟨RX12, TX12, 94, tyX12, ⟨rfl, inq12, Nat.le_of_ble_eq_true rfl, rfl, Nat.le_of_ble_eq_true rfl, Or.inl (tg6 (i := 20) rfl rfl)⟩, rfl, tyX12_ok 68 (Nat.le_of_ble_eq_true rfl), tyX12_ok, nmX12, fun _ h => absurd h Bool.false_ne_true⟩
set_option maxRecDepth 100000 in
theorem fX12_520 : FL RX12 520 12 80 0 .int false true := ⟨RX12, TX12, 94, tyX12, ⟨rfl, inq12, Nat.le_of_ble_eq_true rfl, rfl, Nat.le_of_ble_eq_true rfl, Or.inl (tg6 (i := 32) rfl rfl)⟩, rfl, tyX12_ok 80 (Nat.le_of_ble_eq_true rfl), tyX12_ok, nmX12, fun _ h => absurd h Bool.false_ne_true⟩
set_option maxRecDepth 100000 in
theorem fX12_523 : FL RX12 523 12 81 0 .int false true := ⟨RX12, TX12, 94, tyX12, ⟨rfl, inq12, Nat.le_of_ble_eq_true rfl, rfl, Nat.le_of_ble_eq_true rfl, Or.inl (tg6 (i := 33) rfl rfl)⟩, rfl, tyX12_ok 81 (Nat.le_of_ble_eq_true rfl), tyX12_ok, nmX12, fun _ h => absurd h Bool.false_ne_true⟩
set_option maxRecDepth 100000 in
theorem fX12_526 : FL RX12 526 12 82 0 .int false true := ⟨RX12, TX12, 94, tyX12, ⟨rfl, inq12, Nat.le_of_ble_eq_true rfl, rfl, Nat.le_of_ble_eq_true rfl, Or.inl (tg6 (i := 34) rfl rfl)⟩, rfl, tyX12_ok 82 (Nat.le_of_ble_eq_true rfl), tyX12_ok, nmX12, fun _ h => absurd h Bool.false_ne_true⟩
set_option maxRecDepth 100000 in
theorem fX12_541 : FL RX12 541 12 83 0 .int false true := ⟨RX12, TX12, 94, tyX12, ⟨rfl, inq12, Nat.le_of_ble_eq_true rfl, rfl, Nat.le_of_ble_eq_true rfl, Or.inl (tg6 (i := 35) rfl rfl)⟩, rfl, tyX12_ok 83 (Nat.le_of_ble_eq_true rfl), tyX12_ok, nmX12, fun _ h => absurd h Bool.false_ne_true⟩
set_option maxRecDepth 100000 in
theorem fX12_546 : FL RX12 546 12 84 0 .int false true := ⟨RX12, TX12, 94, tyX12, ⟨rfl, inq12, Nat.le_of_ble_eq_true rfl, rfl, Nat.le_of_ble_eq_true rfl, Or.inl (tg6 (i := 36) rfl rfl)⟩, rfl, tyX12_ok 84 (Nat.le_of_ble_eq_true rfl), tyX12_ok, nmX12, fun _ h => absurd h Bool.false_ne_true⟩
set_option maxRecDepth 100000 in
theorem fsX0_9 : Cond.fieldLink RX0 9 RX0 "UNTOLD" "[I" ∈ gtb := tg1 (i := 53) rfl rfl
set_option maxRecDepth 100000 in
theorem fsX8_9 : Cond.fieldLink RX8 9 RX8 "WORDS" "[I" ∈ gtb := tg1 (i := 153) rfl rfl
set_option maxRecDepth 100000 in
theorem fsX8_121 : Cond.fieldLink RX8 121 RX8 "NUMBERS" "[I" ∈ gtb := tg3 (i := 135) rfl rfl
set_option maxRecDepth 100000 in
theorem fsX8_185 : Cond.fieldLink RX8 185 RX8 "BOUNDS_FROM" "[I" ∈ gtb := tg3 (i := 141) rfl rfl
set_option maxRecDepth 100000 in
theorem fsX8_188 : Cond.fieldLink RX8 188 RX8 "LEAST" "[I" ∈ gtb := tg3 (i := 143) rfl rfl
set_option maxRecDepth 100000 in
theorem fsX8_191 : Cond.fieldLink RX8 191 RX8 "GREATEST" "[I" ∈ gtb := tg3 (i := 145) rfl rfl
set_option maxRecDepth 100000 in
theorem fsX9_53 : Cond.fieldLink RX9 53 RX9 "ALONG" "[I" ∈ gtb := tg5 (i := 25) rfl rfl
set_option maxRecDepth 100000 in
theorem fsX9_60 : Cond.fieldLink RX9 60 RX9 "TOWARD" "[I" ∈ gtb := tg5 (i := 39) rfl rfl
set_option maxRecDepth 100000 in
theorem fsJ0_9 : Cond.fieldLink RJ0 9 RJ0 "value" "[B" ∈ gtb := tg8 (i := 161) rfl rfl
set_option maxRecDepth 100000 in
theorem fsJ0_15 : Cond.fieldLink RJ0 15 RJ0 "coder" "B" ∈ gtb := tg8 (i := 162) rfl rfl
set_option maxRecDepth 100000 in
theorem fsJ0_38 : Cond.fieldLink RJ0 38 RJ0 "COMPACT_STRINGS" "Z" ∈ gtb := tg1 (i := 167) rfl rfl
set_option maxRecDepth 100000 in
theorem fsJ0_1053 : Cond.fieldLink RJ0 1053 RJ3 "SIOOBE_FORMATTER" "Ljava/util/function/BiFunction;" ∈ gtb := tg1 (i := 183) rfl rfl
set_option maxRecDepth 100000 in
theorem fsJ2_44 : Cond.fieldLink RJ2 44 RJ2 "$assertionsDisabled" "Z" ∈ gtb := tg1 (i := 201) rfl rfl
set_option maxRecDepth 100000 in
theorem fsJ2_59 : Cond.fieldLink RJ2 59 RJ2 "HI_BYTE_SHIFT" "I" ∈ gtb := tg1 (i := 203) rfl rfl
set_option maxRecDepth 100000 in
theorem fsJ2_63 : Cond.fieldLink RJ2 63 RJ2 "LO_BYTE_SHIFT" "I" ∈ gtb := tg1 (i := 205) rfl rfl
def mX0_init : Mu := (yX0_init, cX0_init, 1, none)
set_option maxRecDepth 100000 in
theorem mkX0_init : Cond.code yX0_init cX0_init 1 none ∈ gtb := tg1 (i := 51) rfl rfl
set_option maxRecDepth 100000 in
theorem miX0_init : Cond.instanceMethod yX0_init ∈ gtb := tg1 (i := 50) rfl rfl
def mX0_clear : Mu := (yX0_clear, cX0_clear, 2, none)
set_option maxRecDepth 100000 in
theorem mkX0_clear : Cond.code yX0_clear cX0_clear 2 none ∈ gtb := tg1 (i := 58) rfl rfl
set_option maxRecDepth 100000 in
theorem miX0_clear : Cond.instanceMethod yX0_clear ∈ gtb := tg1 (i := 56) rfl rfl
set_option maxRecDepth 100000 in
theorem msX0_clear : Cond.selects yX0_clear.cls yX0_clear yX0_clear ∈ gtb := tg1 (i := 57) rfl rfl
def mX0_setting : Mu := (yX0_setting, cX0_setting, 2, (some .int))
set_option maxRecDepth 100000 in
theorem mkX0_setting : Cond.code yX0_setting cX0_setting 2 (some .int) ∈ gtb := tg4 (i := 31) rfl rfl
set_option maxRecDepth 100000 in
theorem miX0_setting : Cond.instanceMethod yX0_setting ∈ gtb := tg4 (i := 29) rfl rfl
set_option maxRecDepth 100000 in
theorem msX0_setting : Cond.selects yX0_setting.cls yX0_setting yX0_setting ∈ gtb := tg4 (i := 30) rfl rfl
def mX0_wasSet : Mu := (yX0_wasSet, cX0_wasSet, 2, (some .boolean))
set_option maxRecDepth 100000 in
theorem mkX0_wasSet : Cond.code yX0_wasSet cX0_wasSet 2 (some .boolean) ∈ gtb := tg3 (i := 114) rfl rfl
set_option maxRecDepth 100000 in
theorem miX0_wasSet : Cond.instanceMethod yX0_wasSet ∈ gtb := tg3 (i := 112) rfl rfl
set_option maxRecDepth 100000 in
theorem msX0_wasSet : Cond.selects yX0_wasSet.cls yX0_wasSet yX0_wasSet ∈ gtb := tg3 (i := 113) rfl rfl
def mX0_tellSetting : Mu := (yX0_tellSetting, cX0_tellSetting, 3, none)
set_option maxRecDepth 100000 in
theorem mkX0_tellSetting : Cond.code yX0_tellSetting cX0_tellSetting 3 none ∈ gtb := tg3 (i := 170) rfl rfl
set_option maxRecDepth 100000 in
theorem miX0_tellSetting : Cond.instanceMethod yX0_tellSetting ∈ gtb := tg3 (i := 168) rfl rfl
set_option maxRecDepth 100000 in
theorem msX0_tellSetting : Cond.selects yX0_tellSetting.cls yX0_tellSetting yX0_tellSetting ∈ gtb := tg3 (i := 169) rfl rfl
def mX0_addHut : Mu := (yX0_addHut, cX0_addHut, 6, none)
set_option maxRecDepth 100000 in
theorem mkX0_addHut : Cond.code yX0_addHut cX0_addHut 6 none ∈ gtb := tg3 (i := 154) rfl rfl
set_option maxRecDepth 100000 in
theorem miX0_addHut : Cond.instanceMethod yX0_addHut ∈ gtb := tg3 (i := 152) rfl rfl
set_option maxRecDepth 100000 in
theorem msX0_addHut : Cond.selects yX0_addHut.cls yX0_addHut yX0_addHut ∈ gtb := tg3 (i := 153) rfl rfl
def mX0_addGarden : Mu := (yX0_addGarden, cX0_addGarden, 6, none)
set_option maxRecDepth 100000 in
theorem mkX0_addGarden : Cond.code yX0_addGarden cX0_addGarden 6 none ∈ gtb := tg3 (i := 158) rfl rfl
set_option maxRecDepth 100000 in
theorem miX0_addGarden : Cond.instanceMethod yX0_addGarden ∈ gtb := tg3 (i := 156) rfl rfl
set_option maxRecDepth 100000 in
theorem msX0_addGarden : Cond.selects yX0_addGarden.cls yX0_addGarden yX0_addGarden ∈ gtb := tg3 (i := 157) rfl rfl
def mX0_addLook : Mu := (yX0_addLook, cX0_addLook, 4, none)
set_option maxRecDepth 100000 in
theorem mkX0_addLook : Cond.code yX0_addLook cX0_addLook 4 none ∈ gtb := tg3 (i := 166) rfl rfl
set_option maxRecDepth 100000 in
theorem miX0_addLook : Cond.instanceMethod yX0_addLook ∈ gtb := tg3 (i := 164) rfl rfl
set_option maxRecDepth 100000 in
theorem msX0_addLook : Cond.selects yX0_addLook.cls yX0_addLook yX0_addLook ∈ gtb := tg3 (i := 165) rfl rfl
def mX0_indexOf : Mu := (yX0_indexOf, cX0_indexOf, 5, (some .int))
set_option maxRecDepth 100000 in
theorem mkX0_indexOf : Cond.code yX0_indexOf cX0_indexOf 5 (some .int) ∈ gtb := tg3 (i := 107) rfl rfl
set_option maxRecDepth 100000 in
theorem mtX0_indexOf : Cond.static yX0_indexOf ∈ gtb := tg3 (i := 106) rfl rfl
def mX0_hasRun : Mu := (yX0_hasRun, cX0_hasRun, 3, (some .boolean))
set_option maxRecDepth 100000 in
theorem mkX0_hasRun : Cond.code yX0_hasRun cX0_hasRun 3 (some .boolean) ∈ gtb := tg3 (i := 134) rfl rfl
set_option maxRecDepth 100000 in
theorem miX0_hasRun : Cond.instanceMethod yX0_hasRun ∈ gtb := tg3 (i := 132) rfl rfl
set_option maxRecDepth 100000 in
theorem msX0_hasRun : Cond.selects yX0_hasRun.cls yX0_hasRun yX0_hasRun ∈ gtb := tg3 (i := 133) rfl rfl
def mX0_tellRun : Mu := (yX0_tellRun, cX0_tellRun, 4, none)
set_option maxRecDepth 100000 in
theorem mkX0_tellRun : Cond.code yX0_tellRun cX0_tellRun 4 none ∈ gtb := tg3 (i := 162) rfl rfl
set_option maxRecDepth 100000 in
theorem miX0_tellRun : Cond.instanceMethod yX0_tellRun ∈ gtb := tg3 (i := 160) rfl rfl
set_option maxRecDepth 100000 in
theorem msX0_tellRun : Cond.selects yX0_tellRun.cls yX0_tellRun yX0_tellRun ∈ gtb := tg3 (i := 161) rfl rfl
def mX0_minutesBetween : Mu := (yX0_minutesBetween, cX0_minutesBetween, 3, (some .int))
set_option maxRecDepth 100000 in
theorem mkX0_minutesBetween : Cond.code yX0_minutesBetween cX0_minutesBetween 3 (some .int) ∈ gtb := tg3 (i := 224) rfl rfl
set_option maxRecDepth 100000 in
theorem miX0_minutesBetween : Cond.instanceMethod yX0_minutesBetween ∈ gtb := tg3 (i := 222) rfl rfl
set_option maxRecDepth 100000 in
theorem msX0_minutesBetween : Cond.selects yX0_minutesBetween.cls yX0_minutesBetween yX0_minutesBetween ∈ gtb := tg3 (i := 223) rfl rfl
def mX0_general : Mu := (yX0_general, cX0_general, 2, (some .int))
set_option maxRecDepth 100000 in
theorem mkX0_general : Cond.code yX0_general cX0_general 2 (some .int) ∈ gtb := tg3 (i := 204) rfl rfl
set_option maxRecDepth 100000 in
theorem miX0_general : Cond.instanceMethod yX0_general ∈ gtb := tg3 (i := 202) rfl rfl
set_option maxRecDepth 100000 in
theorem msX0_general : Cond.selects yX0_general.cls yX0_general yX0_general ∈ gtb := tg3 (i := 203) rfl rfl
def mX0_ofHut : Mu := (yX0_ofHut, cX0_ofHut, 3, (some .int))
set_option maxRecDepth 100000 in
theorem mkX0_ofHut : Cond.code yX0_ofHut cX0_ofHut 3 (some .int) ∈ gtb := tg3 (i := 208) rfl rfl
set_option maxRecDepth 100000 in
theorem miX0_ofHut : Cond.instanceMethod yX0_ofHut ∈ gtb := tg3 (i := 206) rfl rfl
set_option maxRecDepth 100000 in
theorem msX0_ofHut : Cond.selects yX0_ofHut.cls yX0_ofHut yX0_ofHut ∈ gtb := tg3 (i := 207) rfl rfl
def mX0_ofGarden : Mu := (yX0_ofGarden, cX0_ofGarden, 3, (some .int))
set_option maxRecDepth 100000 in
theorem mkX0_ofGarden : Cond.code yX0_ofGarden cX0_ofGarden 3 (some .int) ∈ gtb := tg3 (i := 212) rfl rfl
set_option maxRecDepth 100000 in
theorem miX0_ofGarden : Cond.instanceMethod yX0_ofGarden ∈ gtb := tg3 (i := 210) rfl rfl
set_option maxRecDepth 100000 in
theorem msX0_ofGarden : Cond.selects yX0_ofGarden.cls yX0_ofGarden yX0_ofGarden ∈ gtb := tg3 (i := 211) rfl rfl
def mX0_allBoards : Mu := (yX0_allBoards, cX0_allBoards, 3, (some .int))
set_option maxRecDepth 100000 in
theorem mkX0_allBoards : Cond.code yX0_allBoards cX0_allBoards 3 (some .int) ∈ gtb := tg4 (i := 39) rfl rfl
set_option maxRecDepth 100000 in
theorem miX0_allBoards : Cond.instanceMethod yX0_allBoards ∈ gtb := tg4 (i := 37) rfl rfl
set_option maxRecDepth 100000 in
theorem msX0_allBoards : Cond.selects yX0_allBoards.cls yX0_allBoards yX0_allBoards ∈ gtb := tg4 (i := 38) rfl rfl
def mX0_isInReach : Mu := (yX0_isInReach, cX0_isInReach, 3, (some .boolean))
set_option maxRecDepth 100000 in
theorem mkX0_isInReach : Cond.code yX0_isInReach cX0_isInReach 3 (some .boolean) ∈ gtb := tg4 (i := 84) rfl rfl
set_option maxRecDepth 100000 in
theorem miX0_isInReach : Cond.instanceMethod yX0_isInReach ∈ gtb := tg4 (i := 82) rfl rfl
set_option maxRecDepth 100000 in
theorem msX0_isInReach : Cond.selects yX0_isInReach.cls yX0_isInReach yX0_isInReach ∈ gtb := tg4 (i := 83) rfl rfl
def mX0_pumpMen : Mu := (yX0_pumpMen, cX0_pumpMen, 3, (some .int))
set_option maxRecDepth 100000 in
theorem mkX0_pumpMen : Cond.code yX0_pumpMen cX0_pumpMen 3 (some .int) ∈ gtb := tg4 (i := 20) rfl rfl
set_option maxRecDepth 100000 in
theorem miX0_pumpMen : Cond.instanceMethod yX0_pumpMen ∈ gtb := tg4 (i := 18) rfl rfl
set_option maxRecDepth 100000 in
theorem msX0_pumpMen : Cond.selects yX0_pumpMen.cls yX0_pumpMen yX0_pumpMen ∈ gtb := tg4 (i := 19) rfl rfl
def mX0_tenthsDug : Mu := (yX0_tenthsDug, cX0_tenthsDug, 3, (some .int))
set_option maxRecDepth 100000 in
theorem mkX0_tenthsDug : Cond.code yX0_tenthsDug cX0_tenthsDug 3 (some .int) ∈ gtb := tg4 (i := 16) rfl rfl
set_option maxRecDepth 100000 in
theorem miX0_tenthsDug : Cond.instanceMethod yX0_tenthsDug ∈ gtb := tg4 (i := 14) rfl rfl
set_option maxRecDepth 100000 in
theorem msX0_tenthsDug : Cond.selects yX0_tenthsDug.cls yX0_tenthsDug yX0_tenthsDug ∈ gtb := tg4 (i := 15) rfl rfl
def mX0_shiftsFor : Mu := (yX0_shiftsFor, cX0_shiftsFor, 5, (some .int))
set_option maxRecDepth 100000 in
theorem mkX0_shiftsFor : Cond.code yX0_shiftsFor cX0_shiftsFor 5 (some .int) ∈ gtb := tg4 (i := 208) rfl rfl
set_option maxRecDepth 100000 in
theorem miX0_shiftsFor : Cond.instanceMethod yX0_shiftsFor ∈ gtb := tg4 (i := 206) rfl rfl
set_option maxRecDepth 100000 in
theorem msX0_shiftsFor : Cond.selects yX0_shiftsFor.cls yX0_shiftsFor yX0_shiftsFor ∈ gtb := tg4 (i := 207) rfl rfl
def mX0_bestCrossing : Mu := (yX0_bestCrossing, cX0_bestCrossing, 8, (some .int))
set_option maxRecDepth 100000 in
theorem mkX0_bestCrossing : Cond.code yX0_bestCrossing cX0_bestCrossing 8 (some .int) ∈ gtb := tg5 (i := 171) rfl rfl
set_option maxRecDepth 100000 in
theorem miX0_bestCrossing : Cond.instanceMethod yX0_bestCrossing ∈ gtb := tg5 (i := 169) rfl rfl
set_option maxRecDepth 100000 in
theorem msX0_bestCrossing : Cond.selects yX0_bestCrossing.cls yX0_bestCrossing yX0_bestCrossing ∈ gtb := tg5 (i := 170) rfl rfl
def mX0_metFrom : Mu := (yX0_metFrom, cX0_metFrom, 8, (some .int))
set_option maxRecDepth 100000 in
theorem mkX0_metFrom : Cond.code yX0_metFrom cX0_metFrom 8 (some .int) ∈ gtb := tg5 (i := 175) rfl rfl
set_option maxRecDepth 100000 in
theorem miX0_metFrom : Cond.instanceMethod yX0_metFrom ∈ gtb := tg5 (i := 173) rfl rfl
set_option maxRecDepth 100000 in
theorem msX0_metFrom : Cond.selects yX0_metFrom.cls yX0_metFrom yX0_metFrom ∈ gtb := tg5 (i := 174) rfl rfl
def mX1_init : Mu := (yX1_init, cX1_init, 1, none)
set_option maxRecDepth 100000 in
theorem mkX1_init : Cond.code yX1_init cX1_init 1 none ∈ gtb := tg2 (i := 36) rfl rfl
set_option maxRecDepth 100000 in
theorem miX1_init : Cond.instanceMethod yX1_init ∈ gtb := tg2 (i := 35) rfl rfl
def mX1_draw : Mu := (yX1_draw, cX1_draw, 2, (some .int))
set_option maxRecDepth 100000 in
theorem mkX1_draw : Cond.code yX1_draw cX1_draw 2 (some .int) ∈ gtb := tg4 (i := 46) rfl rfl
set_option maxRecDepth 100000 in
theorem miX1_draw : Cond.instanceMethod yX1_draw ∈ gtb := tg4 (i := 44) rfl rfl
set_option maxRecDepth 100000 in
theorem msX1_draw : Cond.selects yX1_draw.cls yX1_draw yX1_draw ∈ gtb := tg4 (i := 45) rfl rfl
def mX2_init : Mu := (yX2_init, cX2_init, 1, none)
set_option maxRecDepth 100000 in
theorem mkX2_init : Cond.code yX2_init cX2_init 1 none ∈ gtb := tg2 (i := 110) rfl rfl
set_option maxRecDepth 100000 in
theorem miX2_init : Cond.instanceMethod yX2_init ∈ gtb := tg2 (i := 109) rfl rfl
def mX2_clear : Mu := (yX2_clear, cX2_clear, 1, none)
set_option maxRecDepth 100000 in
theorem mkX2_clear : Cond.code yX2_clear cX2_clear 1 none ∈ gtb := tg3 (i := 179) rfl rfl
set_option maxRecDepth 100000 in
theorem miX2_clear : Cond.instanceMethod yX2_clear ∈ gtb := tg3 (i := 177) rfl rfl
set_option maxRecDepth 100000 in
theorem msX2_clear : Cond.selects yX2_clear.cls yX2_clear yX2_clear ∈ gtb := tg3 (i := 178) rfl rfl
def mX2_allMissing : Mu := (yX2_allMissing, cX2_allMissing, 3, (some .int))
set_option maxRecDepth 100000 in
theorem mkX2_allMissing : Cond.code yX2_allMissing cX2_allMissing 3 (some .int) ∈ gtb := tg5 (i := 185) rfl rfl
set_option maxRecDepth 100000 in
theorem miX2_allMissing : Cond.instanceMethod yX2_allMissing ∈ gtb := tg5 (i := 183) rfl rfl
set_option maxRecDepth 100000 in
theorem msX2_allMissing : Cond.selects yX2_allMissing.cls yX2_allMissing yX2_allMissing ∈ gtb := tg5 (i := 184) rfl rfl
def mX2_missingAtCounts : Mu := (yX2_missingAtCounts, cX2_missingAtCounts, 4, (some .int))
set_option maxRecDepth 100000 in
theorem mkX2_missingAtCounts : Cond.code yX2_missingAtCounts cX2_missingAtCounts 4 (some .int) ∈ gtb := tg4 (i := 159) rfl rfl
set_option maxRecDepth 100000 in
theorem miX2_missingAtCounts : Cond.instanceMethod yX2_missingAtCounts ∈ gtb := tg4 (i := 158) rfl rfl
theorem msX2_missingAtCounts : Cond.selects yX2_missingAtCounts.cls yX2_missingAtCounts yX2_missingAtCounts ∈ gtb := tinS (by decide +kernel) rfl
def mX2_fewestRunners : Mu := (yX2_fewestRunners, cX2_fewestRunners, 5, (some .int))
set_option maxRecDepth 100000 in
theorem mkX2_fewestRunners : Cond.code yX2_fewestRunners cX2_fewestRunners 5 (some .int) ∈ gtb := tg4 (i := 155) rfl rfl
set_option maxRecDepth 100000 in
theorem miX2_fewestRunners : Cond.instanceMethod yX2_fewestRunners ∈ gtb := tg4 (i := 153) rfl rfl
set_option maxRecDepth 100000 in
theorem msX2_fewestRunners : Cond.selects yX2_fewestRunners.cls yX2_fewestRunners yX2_fewestRunners ∈ gtb := tg4 (i := 154) rfl rfl
def mX2_canBeRight : Mu := (yX2_canBeRight, cX2_canBeRight, 5, (some .boolean))
set_option maxRecDepth 100000 in
theorem mkX2_canBeRight : Cond.code yX2_canBeRight cX2_canBeRight 5 (some .boolean) ∈ gtb := tg4 (i := 164) rfl rfl
set_option maxRecDepth 100000 in
theorem miX2_canBeRight : Cond.instanceMethod yX2_canBeRight ∈ gtb := tg4 (i := 163) rfl rfl
theorem msX2_canBeRight : Cond.selects yX2_canBeRight.cls yX2_canBeRight yX2_canBeRight ∈ gtb := tinS (by decide +kernel) rfl
def mX2_waysFrom : Mu := (yX2_waysFrom, cX2_waysFrom, 5, (some .int))
set_option maxRecDepth 100000 in
theorem mkX2_waysFrom : Cond.code yX2_waysFrom cX2_waysFrom 5 (some .int) ∈ gtb := tg4 (i := 169) rfl rfl
set_option maxRecDepth 100000 in
theorem miX2_waysFrom : Cond.instanceMethod yX2_waysFrom ∈ gtb := tg4 (i := 168) rfl rfl
theorem msX2_waysFrom : Cond.selects yX2_waysFrom.cls yX2_waysFrom yX2_waysFrom ∈ gtb := tinS (by decide +kernel) rfl
def mX2_isLater : Mu := (yX2_isLater, cX2_isLater, 3, (some .boolean))
set_option maxRecDepth 100000 in
theorem mkX2_isLater : Cond.code yX2_isLater cX2_isLater 3 (some .boolean) ∈ gtb := tg4 (i := 173) rfl rfl
set_option maxRecDepth 100000 in
theorem miX2_isLater : Cond.instanceMethod yX2_isLater ∈ gtb := tg4 (i := 172) rfl rfl
theorem msX2_isLater : Cond.selects yX2_isLater.cls yX2_isLater yX2_isLater ∈ gtb := tinS (by decide +kernel) rfl
def mX2_wrongOrders : Mu := (yX2_wrongOrders, cX2_wrongOrders, 8, (some .int))
set_option maxRecDepth 100000 in
theorem mkX2_wrongOrders : Cond.code yX2_wrongOrders cX2_wrongOrders 8 (some .int) ∈ gtb := tg4 (i := 183) rfl rfl
set_option maxRecDepth 100000 in
theorem miX2_wrongOrders : Cond.instanceMethod yX2_wrongOrders ∈ gtb := tg4 (i := 181) rfl rfl
set_option maxRecDepth 100000 in
theorem msX2_wrongOrders : Cond.selects yX2_wrongOrders.cls yX2_wrongOrders yX2_wrongOrders ∈ gtb := tg4 (i := 182) rfl rfl
def mX2_giveMinutes : Mu := (yX2_giveMinutes, cX2_giveMinutes, 7, none)
set_option maxRecDepth 100000 in
theorem mkX2_giveMinutes : Cond.code yX2_giveMinutes cX2_giveMinutes 7 none ∈ gtb := tg4 (i := 187) rfl rfl
set_option maxRecDepth 100000 in
theorem miX2_giveMinutes : Cond.instanceMethod yX2_giveMinutes ∈ gtb := tg4 (i := 186) rfl rfl
theorem msX2_giveMinutes : Cond.selects yX2_giveMinutes.cls yX2_giveMinutes yX2_giveMinutes ∈ gtb := tinS (by decide +kernel) rfl
def mX3_init : Mu := (yX3_init, cX3_init, 1, none)
set_option maxRecDepth 100000 in
theorem mkX3_init : Cond.code yX3_init cX3_init 1 none ∈ gtb := tg2 (i := 30) rfl rfl
set_option maxRecDepth 100000 in
theorem miX3_init : Cond.instanceMethod yX3_init ∈ gtb := tg2 (i := 29) rfl rfl
def mX3_clear : Mu := (yX3_clear, cX3_clear, 1, none)
set_option maxRecDepth 100000 in
theorem mkX3_clear : Cond.code yX3_clear cX3_clear 1 none ∈ gtb := tg3 (i := 174) rfl rfl
set_option maxRecDepth 100000 in
theorem miX3_clear : Cond.instanceMethod yX3_clear ∈ gtb := tg3 (i := 172) rfl rfl
set_option maxRecDepth 100000 in
theorem msX3_clear : Cond.selects yX3_clear.cls yX3_clear yX3_clear ∈ gtb := tg3 (i := 173) rfl rfl
def mX3_copyFrom : Mu := (yX3_copyFrom, cX3_copyFrom, 2, none)
set_option maxRecDepth 100000 in
theorem mkX3_copyFrom : Cond.code yX3_copyFrom cX3_copyFrom 2 none ∈ gtb := tg4 (i := 134) rfl rfl
set_option maxRecDepth 100000 in
theorem miX3_copyFrom : Cond.instanceMethod yX3_copyFrom ∈ gtb := tg4 (i := 132) rfl rfl
set_option maxRecDepth 100000 in
theorem msX3_copyFrom : Cond.selects yX3_copyFrom.cls yX3_copyFrom yX3_copyFrom ∈ gtb := tg4 (i := 133) rfl rfl
def mX3_begin : Mu := (yX3_begin, cX3_begin, 2, (some .int))
set_option maxRecDepth 100000 in
theorem mkX3_begin : Cond.code yX3_begin cX3_begin 2 (some .int) ∈ gtb := tg3 (i := 237) rfl rfl
set_option maxRecDepth 100000 in
theorem miX3_begin : Cond.instanceMethod yX3_begin ∈ gtb := tg3 (i := 235) rfl rfl
set_option maxRecDepth 100000 in
theorem msX3_begin : Cond.selects yX3_begin.cls yX3_begin yX3_begin ∈ gtb := tg3 (i := 236) rfl rfl
def mX3_dig : Mu := (yX3_dig, cX3_dig, 7, (some .int))
set_option maxRecDepth 100000 in
theorem mkX3_dig : Cond.code yX3_dig cX3_dig 7 (some .int) ∈ gtb := tg4 (i := 12) rfl rfl
set_option maxRecDepth 100000 in
theorem miX3_dig : Cond.instanceMethod yX3_dig ∈ gtb := tg4 (i := 10) rfl rfl
set_option maxRecDepth 100000 in
theorem msX3_dig : Cond.selects yX3_dig.cls yX3_dig yX3_dig ∈ gtb := tg4 (i := 11) rfl rfl
def mX3_boarded : Mu := (yX3_boarded, cX3_boarded, 4, (some .int))
set_option maxRecDepth 100000 in
theorem mkX3_boarded : Cond.code yX3_boarded cX3_boarded 4 (some .int) ∈ gtb := tg4 (i := 27) rfl rfl
set_option maxRecDepth 100000 in
theorem miX3_boarded : Cond.instanceMethod yX3_boarded ∈ gtb := tg4 (i := 26) rfl rfl
theorem msX3_boarded : Cond.selects yX3_boarded.cls yX3_boarded yX3_boarded ∈ gtb := tinS (by decide +kernel) rfl
def mX3_boardsLeft : Mu := (yX3_boardsLeft, cX3_boardsLeft, 2, (some .int))
set_option maxRecDepth 100000 in
theorem mkX3_boardsLeft : Cond.code yX3_boardsLeft cX3_boardsLeft 2 (some .int) ∈ gtb := tg4 (i := 35) rfl rfl
set_option maxRecDepth 100000 in
theorem miX3_boardsLeft : Cond.instanceMethod yX3_boardsLeft ∈ gtb := tg4 (i := 33) rfl rfl
set_option maxRecDepth 100000 in
theorem msX3_boardsLeft : Cond.selects yX3_boardsLeft.cls yX3_boardsLeft yX3_boardsLeft ∈ gtb := tg4 (i := 34) rfl rfl
def mX3_ofTunnel : Mu := (yX3_ofTunnel, cX3_ofTunnel, 4, (some .int))
set_option maxRecDepth 100000 in
theorem mkX3_ofTunnel : Cond.code yX3_ofTunnel cX3_ofTunnel 4 (some .int) ∈ gtb := tg4 (i := 58) rfl rfl
set_option maxRecDepth 100000 in
theorem miX3_ofTunnel : Cond.instanceMethod yX3_ofTunnel ∈ gtb := tg4 (i := 56) rfl rfl
set_option maxRecDepth 100000 in
theorem msX3_ofTunnel : Cond.selects yX3_ofTunnel.cls yX3_ofTunnel yX3_ofTunnel ∈ gtb := tg4 (i := 57) rfl rfl
def mX3_allFeet : Mu := (yX3_allFeet, cX3_allFeet, 3, (some .int))
set_option maxRecDepth 100000 in
theorem mkX3_allFeet : Cond.code yX3_allFeet cX3_allFeet 3 (some .int) ∈ gtb := tg4 (i := 139) rfl rfl
set_option maxRecDepth 100000 in
theorem miX3_allFeet : Cond.instanceMethod yX3_allFeet ∈ gtb := tg4 (i := 137) rfl rfl
set_option maxRecDepth 100000 in
theorem msX3_allFeet : Cond.selects yX3_allFeet.cls yX3_allFeet yX3_allFeet ∈ gtb := tg4 (i := 138) rfl rfl
def mX3_walkOut : Mu := (yX3_walkOut, cX3_walkOut, 5, (some .int))
set_option maxRecDepth 100000 in
theorem mkX3_walkOut : Cond.code yX3_walkOut cX3_walkOut 5 (some .int) ∈ gtb := tg4 (i := 80) rfl rfl
set_option maxRecDepth 100000 in
theorem miX3_walkOut : Cond.instanceMethod yX3_walkOut ∈ gtb := tg4 (i := 78) rfl rfl
set_option maxRecDepth 100000 in
theorem msX3_walkOut : Cond.selects yX3_walkOut.cls yX3_walkOut yX3_walkOut ∈ gtb := tg4 (i := 79) rfl rfl
def mX3_roomLeft : Mu := (yX3_roomLeft, cX3_roomLeft, 3, (some .int))
set_option maxRecDepth 100000 in
theorem mkX3_roomLeft : Cond.code yX3_roomLeft cX3_roomLeft 3 (some .int) ∈ gtb := tg4 (i := 91) rfl rfl
set_option maxRecDepth 100000 in
theorem miX3_roomLeft : Cond.instanceMethod yX3_roomLeft ∈ gtb := tg4 (i := 90) rfl rfl
theorem msX3_roomLeft : Cond.selects yX3_roomLeft.cls yX3_roomLeft yX3_roomLeft ∈ gtb := tinS (by decide +kernel) rfl
def mX3_mostIn : Mu := (yX3_mostIn, cX3_mostIn, 7, (some .int))
set_option maxRecDepth 100000 in
theorem mkX3_mostIn : Cond.code yX3_mostIn cX3_mostIn 7 (some .int) ∈ gtb := tg4 (i := 103) rfl rfl
set_option maxRecDepth 100000 in
theorem miX3_mostIn : Cond.instanceMethod yX3_mostIn ∈ gtb := tg4 (i := 101) rfl rfl
set_option maxRecDepth 100000 in
theorem msX3_mostIn : Cond.selects yX3_mostIn.cls yX3_mostIn yX3_mostIn ∈ gtb := tg4 (i := 102) rfl rfl
def mX3_fewestDays : Mu := (yX3_fewestDays, cX3_fewestDays, 5, (some .int))
set_option maxRecDepth 100000 in
theorem mkX3_fewestDays : Cond.code yX3_fewestDays cX3_fewestDays 5 (some .int) ∈ gtb := tg4 (i := 125) rfl rfl
set_option maxRecDepth 100000 in
theorem miX3_fewestDays : Cond.instanceMethod yX3_fewestDays ∈ gtb := tg4 (i := 123) rfl rfl
set_option maxRecDepth 100000 in
theorem msX3_fewestDays : Cond.selects yX3_fewestDays.cls yX3_fewestDays yX3_fewestDays ∈ gtb := tg4 (i := 124) rfl rfl
def mX4_init : Mu := (yX4_init, cX4_init, 1, none)
set_option maxRecDepth 100000 in
theorem mkX4_init : Cond.code yX4_init cX4_init 1 none ∈ gtb := tg2 (i := 88) rfl rfl
set_option maxRecDepth 100000 in
theorem miX4_init : Cond.instanceMethod yX4_init ∈ gtb := tg2 (i := 87) rfl rfl
def mX4_clear : Mu := (yX4_clear, cX4_clear, 1, none)
set_option maxRecDepth 100000 in
theorem mkX4_clear : Cond.code yX4_clear cX4_clear 1 none ∈ gtb := tg4 (i := 107) rfl rfl
set_option maxRecDepth 100000 in
theorem miX4_clear : Cond.instanceMethod yX4_clear ∈ gtb := tg4 (i := 105) rfl rfl
set_option maxRecDepth 100000 in
theorem msX4_clear : Cond.selects yX4_clear.cls yX4_clear yX4_clear ∈ gtb := tg4 (i := 106) rfl rfl
def mX4_greatest : Mu := (yX4_greatest, cX4_greatest, 3, (some .int))
set_option maxRecDepth 100000 in
theorem mkX4_greatest : Cond.code yX4_greatest cX4_greatest 3 (some .int) ∈ gtb := tg4 (i := 112) rfl rfl
set_option maxRecDepth 100000 in
theorem miX4_greatest : Cond.instanceMethod yX4_greatest ∈ gtb := tg4 (i := 110) rfl rfl
set_option maxRecDepth 100000 in
theorem msX4_greatest : Cond.selects yX4_greatest.cls yX4_greatest yX4_greatest ∈ gtb := tg4 (i := 111) rfl rfl
def mX4_cutBehind : Mu := (yX4_cutBehind, cX4_cutBehind, 5, (some .int))
set_option maxRecDepth 100000 in
theorem mkX4_cutBehind : Cond.code yX4_cutBehind cX4_cutBehind 5 (some .int) ∈ gtb := tg4 (i := 116) rfl rfl
set_option maxRecDepth 100000 in
theorem miX4_cutBehind : Cond.instanceMethod yX4_cutBehind ∈ gtb := tg4 (i := 115) rfl rfl
theorem msX4_cutBehind : Cond.selects yX4_cutBehind.cls yX4_cutBehind yX4_cutBehind ∈ gtb := tinS (by decide +kernel) rfl
def mX5_init : Mu := (yX5_init, cX5_init, 1, none)
set_option maxRecDepth 100000 in
theorem mkX5_init : Cond.code yX5_init cX5_init 1 none ∈ gtb := tg2 (i := 130) rfl rfl
set_option maxRecDepth 100000 in
theorem miX5_init : Cond.instanceMethod yX5_init ∈ gtb := tg2 (i := 129) rfl rfl
def mX5_reckon : Mu := (yX5_reckon, cX5_reckon, 6, none)
set_option maxRecDepth 100000 in
theorem mkX5_reckon : Cond.code yX5_reckon cX5_reckon 6 none ∈ gtb := tg4 (i := 199) rfl rfl
set_option maxRecDepth 100000 in
theorem miX5_reckon : Cond.instanceMethod yX5_reckon ∈ gtb := tg4 (i := 197) rfl rfl
set_option maxRecDepth 100000 in
theorem msX5_reckon : Cond.selects yX5_reckon.cls yX5_reckon yX5_reckon ∈ gtb := tg4 (i := 198) rfl rfl
def mX5_divide : Mu := (yX5_divide, cX5_divide, 10, none)
set_option maxRecDepth 100000 in
theorem mkX5_divide : Cond.code yX5_divide cX5_divide 10 none ∈ gtb := tg4 (i := 217) rfl rfl
set_option maxRecDepth 100000 in
theorem miX5_divide : Cond.instanceMethod yX5_divide ∈ gtb := tg4 (i := 215) rfl rfl
set_option maxRecDepth 100000 in
theorem msX5_divide : Cond.selects yX5_divide.cls yX5_divide yX5_divide ∈ gtb := tg4 (i := 216) rfl rfl
def mX5_keptUntilDug : Mu := (yX5_keptUntilDug, cX5_keptUntilDug, 5, (some .int))
set_option maxRecDepth 100000 in
theorem mkX5_keptUntilDug : Cond.code yX5_keptUntilDug cX5_keptUntilDug 5 (some .int) ∈ gtb := tg4 (i := 221) rfl rfl
set_option maxRecDepth 100000 in
theorem miX5_keptUntilDug : Cond.instanceMethod yX5_keptUntilDug ∈ gtb := tg4 (i := 220) rfl rfl
theorem msX5_keptUntilDug : Cond.selects yX5_keptUntilDug.cls yX5_keptUntilDug yX5_keptUntilDug ∈ gtb := tinS (by decide +kernel) rfl
def mX6_init : Mu := (yX6_init, cX6_init, 1, none)
set_option maxRecDepth 100000 in
theorem mkX6_init : Cond.code yX6_init cX6_init 1 none ∈ gtb := tg2 (i := 237) rfl rfl
set_option maxRecDepth 100000 in
theorem miX6_init : Cond.instanceMethod yX6_init ∈ gtb := tg2 (i := 236) rfl rfl
def mX6_clear : Mu := (yX6_clear, cX6_clear, 1, none)
set_option maxRecDepth 100000 in
theorem mkX6_clear : Cond.code yX6_clear cX6_clear 1 none ∈ gtb := tg3 (i := 192) rfl rfl
set_option maxRecDepth 100000 in
theorem miX6_clear : Cond.instanceMethod yX6_clear ∈ gtb := tg3 (i := 190) rfl rfl
set_option maxRecDepth 100000 in
theorem msX6_clear : Cond.selects yX6_clear.cls yX6_clear yX6_clear ∈ gtb := tg3 (i := 191) rfl rfl
def mX6_begin : Mu := (yX6_begin, cX6_begin, 3, none)
set_option maxRecDepth 100000 in
theorem mkX6_begin : Cond.code yX6_begin cX6_begin 3 none ∈ gtb := tg5 (i := 145) rfl rfl
set_option maxRecDepth 100000 in
theorem miX6_begin : Cond.instanceMethod yX6_begin ∈ gtb := tg5 (i := 143) rfl rfl
set_option maxRecDepth 100000 in
theorem msX6_begin : Cond.selects yX6_begin.cls yX6_begin yX6_begin ∈ gtb := tg5 (i := 144) rfl rfl
def mX6_drawFrom : Mu := (yX6_drawFrom, cX6_drawFrom, 6, none)
set_option maxRecDepth 100000 in
theorem mkX6_drawFrom : Cond.code yX6_drawFrom cX6_drawFrom 6 none ∈ gtb := tg5 (i := 149) rfl rfl
set_option maxRecDepth 100000 in
theorem miX6_drawFrom : Cond.instanceMethod yX6_drawFrom ∈ gtb := tg5 (i := 147) rfl rfl
set_option maxRecDepth 100000 in
theorem msX6_drawFrom : Cond.selects yX6_drawFrom.cls yX6_drawFrom yX6_drawFrom ∈ gtb := tg5 (i := 148) rfl rfl
def mX6_memberOf : Mu := (yX6_memberOf, cX6_memberOf, 4, (some .int))
set_option maxRecDepth 100000 in
theorem mkX6_memberOf : Cond.code yX6_memberOf cX6_memberOf 4 (some .int) ∈ gtb := tg5 (i := 154) rfl rfl
set_option maxRecDepth 100000 in
theorem mtX6_memberOf : Cond.static yX6_memberOf ∈ gtb := tg5 (i := 153) rfl rfl
def mX7_init : Mu := (yX7_init, cX7_init, 1, none)
set_option maxRecDepth 100000 in
theorem mkX7_init : Cond.code yX7_init cX7_init 1 none ∈ gtb := tg2 (i := 195) rfl rfl
set_option maxRecDepth 100000 in
theorem miX7_init : Cond.instanceMethod yX7_init ∈ gtb := tg2 (i := 194) rfl rfl
def mX7_forgetRow : Mu := (yX7_forgetRow, cX7_forgetRow, 1, none)
set_option maxRecDepth 100000 in
theorem mkX7_forgetRow : Cond.code yX7_forgetRow cX7_forgetRow 1 none ∈ gtb := tg3 (i := 188) rfl rfl
set_option maxRecDepth 100000 in
theorem miX7_forgetRow : Cond.instanceMethod yX7_forgetRow ∈ gtb := tg3 (i := 186) rfl rfl
set_option maxRecDepth 100000 in
theorem msX7_forgetRow : Cond.selects yX7_forgetRow.cls yX7_forgetRow yX7_forgetRow ∈ gtb := tg3 (i := 187) rfl rfl
def mX7_addPerson : Mu := (yX7_addPerson, cX7_addPerson, 2, (some .int))
set_option maxRecDepth 100000 in
theorem mkX7_addPerson : Cond.code yX7_addPerson cX7_addPerson 2 (some .int) ∈ gtb := tg5 (i := 59) rfl rfl
set_option maxRecDepth 100000 in
theorem miX7_addPerson : Cond.instanceMethod yX7_addPerson ∈ gtb := tg5 (i := 57) rfl rfl
set_option maxRecDepth 100000 in
theorem msX7_addPerson : Cond.selects yX7_addPerson.cls yX7_addPerson yX7_addPerson ∈ gtb := tg5 (i := 58) rfl rfl
def mX7_meetsRound : Mu := (yX7_meetsRound, cX7_meetsRound, 3, (some .boolean))
set_option maxRecDepth 100000 in
theorem mkX7_meetsRound : Cond.code yX7_meetsRound cX7_meetsRound 3 (some .boolean) ∈ gtb := tg5 (i := 67) rfl rfl
set_option maxRecDepth 100000 in
theorem miX7_meetsRound : Cond.instanceMethod yX7_meetsRound ∈ gtb := tg5 (i := 65) rfl rfl
set_option maxRecDepth 100000 in
theorem msX7_meetsRound : Cond.selects yX7_meetsRound.cls yX7_meetsRound yX7_meetsRound ∈ gtb := tg5 (i := 66) rfl rfl
def mX7_addRound : Mu := (yX7_addRound, cX7_addRound, 3, (some .int))
set_option maxRecDepth 100000 in
theorem mkX7_addRound : Cond.code yX7_addRound cX7_addRound 3 (some .int) ∈ gtb := tg5 (i := 75) rfl rfl
set_option maxRecDepth 100000 in
theorem miX7_addRound : Cond.instanceMethod yX7_addRound ∈ gtb := tg5 (i := 73) rfl rfl
set_option maxRecDepth 100000 in
theorem msX7_addRound : Cond.selects yX7_addRound.cls yX7_addRound yX7_addRound ∈ gtb := tg5 (i := 74) rfl rfl
def mX7_roundMet : Mu := (yX7_roundMet, cX7_roundMet, 4, (some .int))
set_option maxRecDepth 100000 in
theorem mkX7_roundMet : Cond.code yX7_roundMet cX7_roundMet 4 (some .int) ∈ gtb := tg5 (i := 71) rfl rfl
set_option maxRecDepth 100000 in
theorem miX7_roundMet : Cond.instanceMethod yX7_roundMet ∈ gtb := tg5 (i := 70) rfl rfl
theorem msX7_roundMet : Cond.selects yX7_roundMet.cls yX7_roundMet yX7_roundMet ∈ gtb := tinS (by decide +kernel) rfl
def mX7_outFrom : Mu := (yX7_outFrom, cX7_outFrom, 6, (some .int))
set_option maxRecDepth 100000 in
theorem mkX7_outFrom : Cond.code yX7_outFrom cX7_outFrom 6 (some .int) ∈ gtb := tg5 (i := 92) rfl rfl
set_option maxRecDepth 100000 in
theorem miX7_outFrom : Cond.instanceMethod yX7_outFrom ∈ gtb := tg5 (i := 91) rfl rfl
theorem msX7_outFrom : Cond.selects yX7_outFrom.cls yX7_outFrom yX7_outFrom ∈ gtb := tinS (by decide +kernel) rfl
def mX7_beginBefore : Mu := (yX7_beginBefore, cX7_beginBefore, 6, (some .int))
set_option maxRecDepth 100000 in
theorem mkX7_beginBefore : Cond.code yX7_beginBefore cX7_beginBefore 6 (some .int) ∈ gtb := tg5 (i := 119) rfl rfl
set_option maxRecDepth 100000 in
theorem miX7_beginBefore : Cond.instanceMethod yX7_beginBefore ∈ gtb := tg5 (i := 118) rfl rfl
theorem msX7_beginBefore : Cond.selects yX7_beginBefore.cls yX7_beginBefore yX7_beginBefore ∈ gtb := tinS (by decide +kernel) rfl
def mX7_lastOut : Mu := (yX7_lastOut, cX7_lastOut, 6, (some .int))
set_option maxRecDepth 100000 in
theorem mkX7_lastOut : Cond.code yX7_lastOut cX7_lastOut 6 (some .int) ∈ gtb := tg5 (i := 87) rfl rfl
set_option maxRecDepth 100000 in
theorem miX7_lastOut : Cond.instanceMethod yX7_lastOut ∈ gtb := tg5 (i := 85) rfl rfl
set_option maxRecDepth 100000 in
theorem msX7_lastOut : Cond.selects yX7_lastOut.cls yX7_lastOut yX7_lastOut ∈ gtb := tg5 (i := 86) rfl rfl
def mX7_findBest : Mu := (yX7_findBest, cX7_findBest, 7, (some .int))
set_option maxRecDepth 100000 in
theorem mkX7_findBest : Cond.code yX7_findBest cX7_findBest 7 (some .int) ∈ gtb := tg5 (i := 100) rfl rfl
set_option maxRecDepth 100000 in
theorem miX7_findBest : Cond.instanceMethod yX7_findBest ∈ gtb := tg5 (i := 98) rfl rfl
set_option maxRecDepth 100000 in
theorem msX7_findBest : Cond.selects yX7_findBest.cls yX7_findBest yX7_findBest ∈ gtb := tg5 (i := 99) rfl rfl
def mX7_reckonEarliest : Mu := (yX7_reckonEarliest, cX7_reckonEarliest, 4, none)
set_option maxRecDepth 100000 in
theorem mkX7_reckonEarliest : Cond.code yX7_reckonEarliest cX7_reckonEarliest 4 none ∈ gtb := tg5 (i := 104) rfl rfl
set_option maxRecDepth 100000 in
theorem miX7_reckonEarliest : Cond.instanceMethod yX7_reckonEarliest ∈ gtb := tg5 (i := 103) rfl rfl
theorem msX7_reckonEarliest : Cond.selects yX7_reckonEarliest.cls yX7_reckonEarliest yX7_reckonEarliest ∈ gtb := tinS (by decide +kernel) rfl
def mX7_reckonLatest : Mu := (yX7_reckonLatest, cX7_reckonLatest, 5, none)
set_option maxRecDepth 100000 in
theorem mkX7_reckonLatest : Cond.code yX7_reckonLatest cX7_reckonLatest 5 none ∈ gtb := tg5 (i := 115) rfl rfl
set_option maxRecDepth 100000 in
theorem miX7_reckonLatest : Cond.instanceMethod yX7_reckonLatest ∈ gtb := tg5 (i := 114) rfl rfl
theorem msX7_reckonLatest : Cond.selects yX7_reckonLatest.cls yX7_reckonLatest yX7_reckonLatest ∈ gtb := tinS (by decide +kernel) rfl
def mX7_fillRow : Mu := (yX7_fillRow, cX7_fillRow, 6, none)
set_option maxRecDepth 100000 in
theorem mkX7_fillRow : Cond.code yX7_fillRow cX7_fillRow 6 none ∈ gtb := tg5 (i := 124) rfl rfl
set_option maxRecDepth 100000 in
theorem miX7_fillRow : Cond.instanceMethod yX7_fillRow ∈ gtb := tg5 (i := 123) rfl rfl
theorem msX7_fillRow : Cond.selects yX7_fillRow.cls yX7_fillRow yX7_fillRow ∈ gtb := tinS (by decide +kernel) rfl
def mX7_leastNext : Mu := (yX7_leastNext, cX7_leastNext, 5, (some .int))
set_option maxRecDepth 100000 in
theorem mkX7_leastNext : Cond.code yX7_leastNext cX7_leastNext 5 (some .int) ∈ gtb := tg5 (i := 128) rfl rfl
set_option maxRecDepth 100000 in
theorem miX7_leastNext : Cond.instanceMethod yX7_leastNext ∈ gtb := tg5 (i := 127) rfl rfl
theorem msX7_leastNext : Cond.selects yX7_leastNext.cls yX7_leastNext yX7_leastNext ∈ gtb := tinS (by decide +kernel) rfl
def mX7_canFollow : Mu := (yX7_canFollow, cX7_canFollow, 5, (some .boolean))
set_option maxRecDepth 100000 in
theorem mkX7_canFollow : Cond.code yX7_canFollow cX7_canFollow 5 (some .boolean) ∈ gtb := tg5 (i := 132) rfl rfl
set_option maxRecDepth 100000 in
theorem miX7_canFollow : Cond.instanceMethod yX7_canFollow ∈ gtb := tg5 (i := 131) rfl rfl
theorem msX7_canFollow : Cond.selects yX7_canFollow.cls yX7_canFollow yX7_canFollow ∈ gtb := tinS (by decide +kernel) rfl
def mX8_init : Mu := (yX8_init, cX8_init, 4, none)
set_option maxRecDepth 100000 in
theorem mkX8_init : Cond.code yX8_init cX8_init 4 none ∈ gtb := tg1 (i := 151) rfl rfl
set_option maxRecDepth 100000 in
theorem miX8_init : Cond.instanceMethod yX8_init ∈ gtb := tg1 (i := 150) rfl rfl
def mX8_keywordCode : Mu := (yX8_keywordCode, cX8_keywordCode, 4, (some .long))
set_option maxRecDepth 100000 in
theorem mkX8_keywordCode : Cond.code yX8_keywordCode cX8_keywordCode 4 (some .long) ∈ gtb := tg1 (i := 157) rfl rfl
set_option maxRecDepth 100000 in
theorem mtX8_keywordCode : Cond.static yX8_keywordCode ∈ gtb := tg1 (i := 156) rfl rfl
def mX8_withLetter : Mu := (yX8_withLetter, cX8_withLetter, 3, (some .long))
set_option maxRecDepth 100000 in
theorem mkX8_withLetter : Cond.code yX8_withLetter cX8_withLetter 3 (some .long) ∈ gtb := tg1 (i := 212) rfl rfl
set_option maxRecDepth 100000 in
theorem mtX8_withLetter : Cond.static yX8_withLetter ∈ gtb := tg1 (i := 211) rfl rfl
def mX8_isLetter : Mu := (yX8_isLetter, cX8_isLetter, 1, (some .boolean))
set_option maxRecDepth 100000 in
theorem mkX8_isLetter : Cond.code yX8_isLetter cX8_isLetter 1 (some .boolean) ∈ gtb := tg1 (i := 209) rfl rfl
set_option maxRecDepth 100000 in
theorem mtX8_isLetter : Cond.static yX8_isLetter ∈ gtb := tg1 (i := 208) rfl rfl
def mX8_isDigit : Mu := (yX8_isDigit, cX8_isDigit, 1, (some .boolean))
set_option maxRecDepth 100000 in
theorem mkX8_isDigit : Cond.code yX8_isDigit cX8_isDigit 1 (some .boolean) ∈ gtb := tg3 (i := 92) rfl rfl
set_option maxRecDepth 100000 in
theorem mtX8_isDigit : Cond.static yX8_isDigit ∈ gtb := tg3 (i := 91) rfl rfl
def mX8_readCamp : Mu := (yX8_readCamp, cX8_readCamp, 4, (some .boolean))
set_option maxRecDepth 100000 in
theorem mkX8_readCamp : Cond.code yX8_readCamp cX8_readCamp 4 (some .boolean) ∈ gtb := tg3 (i := 72) rfl rfl
set_option maxRecDepth 100000 in
theorem miX8_readCamp : Cond.instanceMethod yX8_readCamp ∈ gtb := tg3 (i := 70) rfl rfl
set_option maxRecDepth 100000 in
theorem msX8_readCamp : Cond.selects yX8_readCamp.cls yX8_readCamp yX8_readCamp ∈ gtb := tg3 (i := 71) rfl rfl
def mX8_readToken : Mu := (yX8_readToken, cX8_readToken, 2, none)
set_option maxRecDepth 100000 in
theorem mkX8_readToken : Cond.code yX8_readToken cX8_readToken 2 none ∈ gtb := tg3 (i := 77) rfl rfl
set_option maxRecDepth 100000 in
theorem miX8_readToken : Cond.instanceMethod yX8_readToken ∈ gtb := tg3 (i := 76) rfl rfl
theorem msX8_readToken : Cond.selects yX8_readToken.cls yX8_readToken yX8_readToken ∈ gtb := tinS (by decide +kernel) rfl
def mX8_skipBlanks : Mu := (yX8_skipBlanks, cX8_skipBlanks, 1, none)
set_option maxRecDepth 100000 in
theorem mkX8_skipBlanks : Cond.code yX8_skipBlanks cX8_skipBlanks 1 none ∈ gtb := tg3 (i := 81) rfl rfl
set_option maxRecDepth 100000 in
theorem miX8_skipBlanks : Cond.instanceMethod yX8_skipBlanks ∈ gtb := tg3 (i := 80) rfl rfl
theorem msX8_skipBlanks : Cond.selects yX8_skipBlanks.cls yX8_skipBlanks yX8_skipBlanks ∈ gtb := tinS (by decide +kernel) rfl
def mX8_readWord : Mu := (yX8_readWord, cX8_readWord, 1, none)
set_option maxRecDepth 100000 in
theorem mkX8_readWord : Cond.code yX8_readWord cX8_readWord 1 none ∈ gtb := tg3 (i := 89) rfl rfl
set_option maxRecDepth 100000 in
theorem miX8_readWord : Cond.instanceMethod yX8_readWord ∈ gtb := tg3 (i := 88) rfl rfl
theorem msX8_readWord : Cond.selects yX8_readWord.cls yX8_readWord yX8_readWord ∈ gtb := tinS (by decide +kernel) rfl
def mX8_readNumber : Mu := (yX8_readNumber, cX8_readNumber, 1, none)
set_option maxRecDepth 100000 in
theorem mkX8_readNumber : Cond.code yX8_readNumber cX8_readNumber 1 none ∈ gtb := tg3 (i := 96) rfl rfl
set_option maxRecDepth 100000 in
theorem miX8_readNumber : Cond.instanceMethod yX8_readNumber ∈ gtb := tg3 (i := 95) rfl rfl
theorem msX8_readNumber : Cond.selects yX8_readNumber.cls yX8_readNumber yX8_readNumber ∈ gtb := tinS (by decide +kernel) rfl
def mX8_acceptToken : Mu := (yX8_acceptToken, cX8_acceptToken, 2, (some .int))
set_option maxRecDepth 100000 in
theorem mkX8_acceptToken : Cond.code yX8_acceptToken cX8_acceptToken 2 (some .int) ∈ gtb := tg3 (i := 100) rfl rfl
set_option maxRecDepth 100000 in
theorem miX8_acceptToken : Cond.instanceMethod yX8_acceptToken ∈ gtb := tg3 (i := 99) rfl rfl
theorem msX8_acceptToken : Cond.selects yX8_acceptToken.cls yX8_acceptToken yX8_acceptToken ∈ gtb := tinS (by decide +kernel) rfl
def mX8_acceptKeyword : Mu := (yX8_acceptKeyword, cX8_acceptKeyword, 2, (some .int))
set_option maxRecDepth 100000 in
theorem mkX8_acceptKeyword : Cond.code yX8_acceptKeyword cX8_acceptKeyword 2 (some .int) ∈ gtb := tg3 (i := 104) rfl rfl
set_option maxRecDepth 100000 in
theorem miX8_acceptKeyword : Cond.instanceMethod yX8_acceptKeyword ∈ gtb := tg3 (i := 103) rfl rfl
theorem msX8_acceptKeyword : Cond.selects yX8_acceptKeyword.cls yX8_acceptKeyword yX8_acceptKeyword ∈ gtb := tinS (by decide +kernel) rfl
def mX8_settingOf : Mu := (yX8_settingOf, cX8_settingOf, 1, (some .int))
set_option maxRecDepth 100000 in
theorem mkX8_settingOf : Cond.code yX8_settingOf cX8_settingOf 1 (some .int) ∈ gtb := tg3 (i := 110) rfl rfl
set_option maxRecDepth 100000 in
theorem mtX8_settingOf : Cond.static yX8_settingOf ∈ gtb := tg3 (i := 109) rfl rfl
def mX8_hasRoom : Mu := (yX8_hasRoom, cX8_hasRoom, 1, (some .boolean))
set_option maxRecDepth 100000 in
theorem mkX8_hasRoom : Cond.code yX8_hasRoom cX8_hasRoom 1 (some .boolean) ∈ gtb := tg3 (i := 118) rfl rfl
set_option maxRecDepth 100000 in
theorem miX8_hasRoom : Cond.instanceMethod yX8_hasRoom ∈ gtb := tg3 (i := 117) rfl rfl
theorem msX8_hasRoom : Cond.selects yX8_hasRoom.cls yX8_hasRoom yX8_hasRoom ∈ gtb := tinS (by decide +kernel) rfl
def mX8_acceptName : Mu := (yX8_acceptName, cX8_acceptName, 1, (some .int))
set_option maxRecDepth 100000 in
theorem mkX8_acceptName : Cond.code yX8_acceptName cX8_acceptName 1 (some .int) ∈ gtb := tg3 (i := 122) rfl rfl
set_option maxRecDepth 100000 in
theorem miX8_acceptName : Cond.instanceMethod yX8_acceptName ∈ gtb := tg3 (i := 121) rfl rfl
theorem msX8_acceptName : Cond.selects yX8_acceptName.cls yX8_acceptName yX8_acceptName ∈ gtb := tinS (by decide +kernel) rfl
def mX8_acceptNewName : Mu := (yX8_acceptNewName, cX8_acceptNewName, 3, (some .int))
set_option maxRecDepth 100000 in
theorem mkX8_acceptNewName : Cond.code yX8_acceptNewName cX8_acceptNewName 3 (some .int) ∈ gtb := tg3 (i := 126) rfl rfl
set_option maxRecDepth 100000 in
theorem miX8_acceptNewName : Cond.instanceMethod yX8_acceptNewName ∈ gtb := tg3 (i := 125) rfl rfl
theorem msX8_acceptNewName : Cond.selects yX8_acceptNewName.cls yX8_acceptNewName yX8_acceptNewName ∈ gtb := tinS (by decide +kernel) rfl
def mX8_acceptHutName : Mu := (yX8_acceptHutName, cX8_acceptHutName, 2, (some .int))
set_option maxRecDepth 100000 in
theorem mkX8_acceptHutName : Cond.code yX8_acceptHutName cX8_acceptHutName 2 (some .int) ∈ gtb := tg3 (i := 130) rfl rfl
set_option maxRecDepth 100000 in
theorem miX8_acceptHutName : Cond.instanceMethod yX8_acceptHutName ∈ gtb := tg3 (i := 129) rfl rfl
theorem msX8_acceptHutName : Cond.selects yX8_acceptHutName.cls yX8_acceptHutName yX8_acceptHutName ∈ gtb := tinS (by decide +kernel) rfl
def mX8_acceptNumber : Mu := (yX8_acceptNumber, cX8_acceptNumber, 3, (some .int))
set_option maxRecDepth 100000 in
theorem mkX8_acceptNumber : Cond.code yX8_acceptNumber cX8_acceptNumber 3 (some .int) ∈ gtb := tg3 (i := 140) rfl rfl
set_option maxRecDepth 100000 in
theorem miX8_acceptNumber : Cond.instanceMethod yX8_acceptNumber ∈ gtb := tg3 (i := 139) rfl rfl
theorem msX8_acceptNumber : Cond.selects yX8_acceptNumber.cls yX8_acceptNumber yX8_acceptNumber ∈ gtb := tinS (by decide +kernel) rfl
def mX8_applyClause : Mu := (yX8_applyClause, cX8_applyClause, 1, none)
set_option maxRecDepth 100000 in
theorem mkX8_applyClause : Cond.code yX8_applyClause cX8_applyClause 1 none ∈ gtb := tg3 (i := 150) rfl rfl
set_option maxRecDepth 100000 in
theorem miX8_applyClause : Cond.instanceMethod yX8_applyClause ∈ gtb := tg3 (i := 149) rfl rfl
theorem msX8_applyClause : Cond.selects yX8_applyClause.cls yX8_applyClause yX8_applyClause ∈ gtb := tinS (by decide +kernel) rfl
def mX9_init : Mu := (yX9_init, cX9_init, 1, none)
set_option maxRecDepth 100000 in
theorem mkX9_init : Cond.code yX9_init cX9_init 1 none ∈ gtb := tg2 (i := 149) rfl rfl
set_option maxRecDepth 100000 in
theorem miX9_init : Cond.instanceMethod yX9_init ∈ gtb := tg2 (i := 148) rfl rfl
def mX9_clear : Mu := (yX9_clear, cX9_clear, 1, none)
set_option maxRecDepth 100000 in
theorem mkX9_clear : Cond.code yX9_clear cX9_clear 1 none ∈ gtb := tg3 (i := 184) rfl rfl
set_option maxRecDepth 100000 in
theorem miX9_clear : Cond.instanceMethod yX9_clear ∈ gtb := tg3 (i := 182) rfl rfl
set_option maxRecDepth 100000 in
theorem msX9_clear : Cond.selects yX9_clear.cls yX9_clear yX9_clear ∈ gtb := tg3 (i := 183) rfl rfl
def mX9_mayTellAt : Mu := (yX9_mayTellAt, cX9_mayTellAt, 2, (some .boolean))
set_option maxRecDepth 100000 in
theorem mkX9_mayTellAt : Cond.code yX9_mayTellAt cX9_mayTellAt 2 (some .boolean) ∈ gtb := tg4 (i := 235) rfl rfl
set_option maxRecDepth 100000 in
theorem miX9_mayTellAt : Cond.instanceMethod yX9_mayTellAt ∈ gtb := tg4 (i := 233) rfl rfl
set_option maxRecDepth 100000 in
theorem msX9_mayTellAt : Cond.selects yX9_mayTellAt.cls yX9_mayTellAt yX9_mayTellAt ∈ gtb := tg4 (i := 234) rfl rfl
def mX9_add : Mu := (yX9_add, cX9_add, 5, (some .int))
set_option maxRecDepth 100000 in
theorem mkX9_add : Cond.code yX9_add cX9_add 5 (some .int) ∈ gtb := tg5 (i := 2) rfl rfl
set_option maxRecDepth 100000 in
theorem miX9_add : Cond.instanceMethod yX9_add ∈ gtb := tg5 (i := 0) rfl rfl
set_option maxRecDepth 100000 in
theorem msX9_add : Cond.selects yX9_add.cls yX9_add yX9_add ∈ gtb := tg5 (i := 1) rfl rfl
def mX9_correct : Mu := (yX9_correct, cX9_correct, 4, (some .int))
set_option maxRecDepth 100000 in
theorem mkX9_correct : Cond.code yX9_correct cX9_correct 4 (some .int) ∈ gtb := tg5 (i := 10) rfl rfl
set_option maxRecDepth 100000 in
theorem miX9_correct : Cond.instanceMethod yX9_correct ∈ gtb := tg5 (i := 8) rfl rfl
set_option maxRecDepth 100000 in
theorem msX9_correct : Cond.selects yX9_correct.cls yX9_correct yX9_correct ∈ gtb := tg5 (i := 9) rfl rfl
def mX9_feetKnown : Mu := (yX9_feetKnown, cX9_feetKnown, 5, (some .int))
set_option maxRecDepth 100000 in
theorem mkX9_feetKnown : Cond.code yX9_feetKnown cX9_feetKnown 5 (some .int) ∈ gtb := tg5 (i := 34) rfl rfl
set_option maxRecDepth 100000 in
theorem miX9_feetKnown : Cond.instanceMethod yX9_feetKnown ∈ gtb := tg5 (i := 33) rfl rfl
theorem msX9_feetKnown : Cond.selects yX9_feetKnown.cls yX9_feetKnown yX9_feetKnown ∈ gtb := tinS (by decide +kernel) rfl
def mX9_along : Mu := (yX9_along, cX9_along, 2, (some .int))
set_option maxRecDepth 100000 in
theorem mkX9_along : Cond.code yX9_along cX9_along 2 (some .int) ∈ gtb := tg5 (i := 24) rfl rfl
set_option maxRecDepth 100000 in
theorem miX9_along : Cond.instanceMethod yX9_along ∈ gtb := tg5 (i := 22) rfl rfl
set_option maxRecDepth 100000 in
theorem msX9_along : Cond.selects yX9_along.cls yX9_along yX9_along ∈ gtb := tg5 (i := 23) rfl rfl
def mX9_toward : Mu := (yX9_toward, cX9_toward, 2, (some .int))
set_option maxRecDepth 100000 in
theorem mkX9_toward : Cond.code yX9_toward cX9_toward 2 (some .int) ∈ gtb := tg5 (i := 38) rfl rfl
set_option maxRecDepth 100000 in
theorem miX9_toward : Cond.instanceMethod yX9_toward ∈ gtb := tg5 (i := 36) rfl rfl
set_option maxRecDepth 100000 in
theorem msX9_toward : Cond.selects yX9_toward.cls yX9_toward yX9_toward ∈ gtb := tg5 (i := 37) rfl rfl
def mX9_sumOf : Mu := (yX9_sumOf, cX9_sumOf, 5, (some .int))
set_option maxRecDepth 100000 in
theorem mkX9_sumOf : Cond.code yX9_sumOf cX9_sumOf 5 (some .int) ∈ gtb := tg5 (i := 30) rfl rfl
set_option maxRecDepth 100000 in
theorem miX9_sumOf : Cond.instanceMethod yX9_sumOf ∈ gtb := tg5 (i := 29) rfl rfl
theorem msX9_sumOf : Cond.selects yX9_sumOf.cls yX9_sumOf yX9_sumOf ∈ gtb := tinS (by decide +kernel) rfl
def mX9_offBy : Mu := (yX9_offBy, cX9_offBy, 4, (some .int))
set_option maxRecDepth 100000 in
theorem mkX9_offBy : Cond.code yX9_offBy cX9_offBy 4 (some .int) ∈ gtb := tg5 (i := 20) rfl rfl
set_option maxRecDepth 100000 in
theorem miX9_offBy : Cond.instanceMethod yX9_offBy ∈ gtb := tg5 (i := 18) rfl rfl
set_option maxRecDepth 100000 in
theorem msX9_offBy : Cond.selects yX9_offBy.cls yX9_offBy yX9_offBy ∈ gtb := tg5 (i := 19) rfl rfl
def mX9_comesUp : Mu := (yX9_comesUp, cX9_comesUp, 7, (some .int))
set_option maxRecDepth 100000 in
theorem mkX9_comesUp : Cond.code yX9_comesUp cX9_comesUp 7 (some .int) ∈ gtb := tg5 (i := 48) rfl rfl
set_option maxRecDepth 100000 in
theorem miX9_comesUp : Cond.instanceMethod yX9_comesUp ∈ gtb := tg5 (i := 46) rfl rfl
set_option maxRecDepth 100000 in
theorem msX9_comesUp : Cond.selects yX9_comesUp.cls yX9_comesUp yX9_comesUp ∈ gtb := tg5 (i := 47) rfl rfl
def mX10_init : Mu := (yX10_init, cX10_init, 1, none)
set_option maxRecDepth 100000 in
theorem mkX10_init : Cond.code yX10_init cX10_init 1 none ∈ gtb := tg1 (i := 34) rfl rfl
set_option maxRecDepth 100000 in
theorem miX10_init : Cond.instanceMethod yX10_init ∈ gtb := tg1 (i := 33) rfl rfl
def mX10_append : Mu := (yX10_append, cX10_append, 3, none)
set_option maxRecDepth 100000 in
theorem mkX10_append : Cond.code yX10_append cX10_append 3 none ∈ gtb := tg3 (i := 60) rfl rfl
set_option maxRecDepth 100000 in
theorem miX10_append : Cond.instanceMethod yX10_append ∈ gtb := tg3 (i := 58) rfl rfl
set_option maxRecDepth 100000 in
theorem msX10_append : Cond.selects yX10_append.cls yX10_append yX10_append ∈ gtb := tg3 (i := 59) rfl rfl
def mX10_at : Mu := (yX10_at, cX10_at, 2, (some .int))
set_option maxRecDepth 100000 in
theorem mkX10_at : Cond.code yX10_at cX10_at 2 (some .int) ∈ gtb := tg3 (i := 85) rfl rfl
set_option maxRecDepth 100000 in
theorem miX10_at : Cond.instanceMethod yX10_at ∈ gtb := tg3 (i := 83) rfl rfl
set_option maxRecDepth 100000 in
theorem msX10_at : Cond.selects yX10_at.cls yX10_at yX10_at ∈ gtb := tg3 (i := 84) rfl rfl
def mX11_init : Mu := (yX11_init, cX11_init, 2, none)
set_option maxRecDepth 100000 in
theorem mkX11_init : Cond.code yX11_init cX11_init 2 none ∈ gtb := tg1 (i := 26) rfl rfl
set_option maxRecDepth 100000 in
theorem miX11_init : Cond.instanceMethod yX11_init ∈ gtb := tg1 (i := 25) rfl rfl
def mX11_feed : Mu := (yX11_feed, cX11_feed, 6, (some .int))
set_option maxRecDepth 100000 in
theorem mkX11_feed : Cond.code yX11_feed cX11_feed 6 (some .int) ∈ gtb := tg3 (i := 56) rfl rfl
set_option maxRecDepth 100000 in
theorem miX11_feed : Cond.instanceMethod yX11_feed ∈ gtb := tg3 (i := 54) rfl rfl
set_option maxRecDepth 100000 in
theorem msX11_feed : Cond.selects yX11_feed.cls yX11_feed yX11_feed ∈ gtb := tg3 (i := 55) rfl rfl
def mX11_end : Mu := (yX11_end, cX11_end, 2, (some .int))
set_option maxRecDepth 100000 in
theorem mkX11_end : Cond.code yX11_end cX11_end 2 (some .int) ∈ gtb := tg3 (i := 64) rfl rfl
set_option maxRecDepth 100000 in
theorem miX11_end : Cond.instanceMethod yX11_end ∈ gtb := tg3 (i := 62) rfl rfl
set_option maxRecDepth 100000 in
theorem msX11_end : Cond.selects yX11_end.cls yX11_end yX11_end ∈ gtb := tg3 (i := 63) rfl rfl
def mX11_camp : Mu := (yX11_camp, cX11_camp, 4, (some .int))
set_option maxRecDepth 100000 in
theorem mkX11_camp : Cond.code yX11_camp cX11_camp 4 (some .int) ∈ gtb := tg3 (i := 68) rfl rfl
set_option maxRecDepth 100000 in
theorem miX11_camp : Cond.instanceMethod yX11_camp ∈ gtb := tg3 (i := 66) rfl rfl
set_option maxRecDepth 100000 in
theorem msX11_camp : Cond.selects yX11_camp.cls yX11_camp yX11_camp ∈ gtb := tg3 (i := 67) rfl rfl
def mX11_fault : Mu := (yX11_fault, cX11_fault, 2, (some .int))
set_option maxRecDepth 100000 in
theorem mkX11_fault : Cond.code yX11_fault cX11_fault 2 (some .int) ∈ gtb := tg3 (i := 196) rfl rfl
set_option maxRecDepth 100000 in
theorem miX11_fault : Cond.instanceMethod yX11_fault ∈ gtb := tg3 (i := 194) rfl rfl
set_option maxRecDepth 100000 in
theorem msX11_fault : Cond.selects yX11_fault.cls yX11_fault yX11_fault ∈ gtb := tg3 (i := 195) rfl rfl
def mX11_told : Mu := (yX11_told, cX11_told, 2, (some .int))
set_option maxRecDepth 100000 in
theorem mkX11_told : Cond.code yX11_told cX11_told 2 (some .int) ∈ gtb := tg3 (i := 200) rfl rfl
set_option maxRecDepth 100000 in
theorem miX11_told : Cond.instanceMethod yX11_told ∈ gtb := tg3 (i := 198) rfl rfl
set_option maxRecDepth 100000 in
theorem msX11_told : Cond.selects yX11_told.cls yX11_told yX11_told ∈ gtb := tg3 (i := 199) rfl rfl
def mX11_run : Mu := (yX11_run, cX11_run, 3, (some .int))
set_option maxRecDepth 100000 in
theorem mkX11_run : Cond.code yX11_run cX11_run 3 (some .int) ∈ gtb := tg3 (i := 216) rfl rfl
set_option maxRecDepth 100000 in
theorem miX11_run : Cond.instanceMethod yX11_run ∈ gtb := tg3 (i := 214) rfl rfl
set_option maxRecDepth 100000 in
theorem msX11_run : Cond.selects yX11_run.cls yX11_run yX11_run ∈ gtb := tg3 (i := 215) rfl rfl
def mX11_chance : Mu := (yX11_chance, cX11_chance, 2, (some .int))
set_option maxRecDepth 100000 in
theorem mkX11_chance : Cond.code yX11_chance cX11_chance 2 (some .int) ∈ gtb := tg3 (i := 229) rfl rfl
set_option maxRecDepth 100000 in
theorem miX11_chance : Cond.instanceMethod yX11_chance ∈ gtb := tg3 (i := 227) rfl rfl
set_option maxRecDepth 100000 in
theorem msX11_chance : Cond.selects yX11_chance.cls yX11_chance yX11_chance ∈ gtb := tg3 (i := 228) rfl rfl
def mX11_open : Mu := (yX11_open, cX11_open, 2, (some .int))
set_option maxRecDepth 100000 in
theorem mkX11_open : Cond.code yX11_open cX11_open 2 (some .int) ∈ gtb := tg3 (i := 233) rfl rfl
set_option maxRecDepth 100000 in
theorem miX11_open : Cond.instanceMethod yX11_open ∈ gtb := tg3 (i := 231) rfl rfl
set_option maxRecDepth 100000 in
theorem msX11_open : Cond.selects yX11_open.cls yX11_open yX11_open ∈ gtb := tg3 (i := 232) rfl rfl
def mX11_shift : Mu := (yX11_shift, cX11_shift, 3, (some .int))
set_option maxRecDepth 100000 in
theorem mkX11_shift : Cond.code yX11_shift cX11_shift 3 (some .int) ∈ gtb := tg4 (i := 1) rfl rfl
set_option maxRecDepth 100000 in
theorem miX11_shift : Cond.instanceMethod yX11_shift ∈ gtb := tg3 (i := 239) rfl rfl
set_option maxRecDepth 100000 in
theorem msX11_shift : Cond.selects yX11_shift.cls yX11_shift yX11_shift ∈ gtb := tg4 (i := 0) rfl rfl
def mX11_tunnel : Mu := (yX11_tunnel, cX11_tunnel, 3, (some .int))
set_option maxRecDepth 100000 in
theorem mkX11_tunnel : Cond.code yX11_tunnel cX11_tunnel 3 (some .int) ∈ gtb := tg4 (i := 54) rfl rfl
set_option maxRecDepth 100000 in
theorem miX11_tunnel : Cond.instanceMethod yX11_tunnel ∈ gtb := tg4 (i := 52) rfl rfl
set_option maxRecDepth 100000 in
theorem msX11_tunnel : Cond.selects yX11_tunnel.cls yX11_tunnel yX11_tunnel ∈ gtb := tg4 (i := 53) rfl rfl
def mX11_boards : Mu := (yX11_boards, cX11_boards, 1, (some .int))
set_option maxRecDepth 100000 in
theorem mkX11_boards : Cond.code yX11_boards cX11_boards 1 (some .int) ∈ gtb := tg4 (i := 63) rfl rfl
set_option maxRecDepth 100000 in
theorem miX11_boards : Cond.instanceMethod yX11_boards ∈ gtb := tg4 (i := 61) rfl rfl
set_option maxRecDepth 100000 in
theorem msX11_boards : Cond.selects yX11_boards.cls yX11_boards yX11_boards ∈ gtb := tg4 (i := 62) rfl rfl
def mX11_lies : Mu := (yX11_lies, cX11_lies, 2, (some .int))
set_option maxRecDepth 100000 in
theorem mkX11_lies : Cond.code yX11_lies cX11_lies 2 (some .int) ∈ gtb := tg4 (i := 68) rfl rfl
set_option maxRecDepth 100000 in
theorem miX11_lies : Cond.instanceMethod yX11_lies ∈ gtb := tg4 (i := 66) rfl rfl
set_option maxRecDepth 100000 in
theorem msX11_lies : Cond.selects yX11_lies.cls yX11_lies yX11_lies ∈ gtb := tg4 (i := 67) rfl rfl
def mX11_carry : Mu := (yX11_carry, cX11_carry, 4, (some .int))
set_option maxRecDepth 100000 in
theorem mkX11_carry : Cond.code yX11_carry cX11_carry 4 (some .int) ∈ gtb := tg4 (i := 72) rfl rfl
set_option maxRecDepth 100000 in
theorem miX11_carry : Cond.instanceMethod yX11_carry ∈ gtb := tg4 (i := 70) rfl rfl
set_option maxRecDepth 100000 in
theorem msX11_carry : Cond.selects yX11_carry.cls yX11_carry yX11_carry ∈ gtb := tg4 (i := 71) rfl rfl
def mX11_had : Mu := (yX11_had, cX11_had, 2, (some .int))
set_option maxRecDepth 100000 in
theorem mkX11_had : Cond.code yX11_had cX11_had 2 (some .int) ∈ gtb := tg4 (i := 95) rfl rfl
set_option maxRecDepth 100000 in
theorem miX11_had : Cond.instanceMethod yX11_had ∈ gtb := tg4 (i := 93) rfl rfl
set_option maxRecDepth 100000 in
theorem msX11_had : Cond.selects yX11_had.cls yX11_had yX11_had ∈ gtb := tg4 (i := 94) rfl rfl
def mX11_most : Mu := (yX11_most, cX11_most, 2, (some .int))
set_option maxRecDepth 100000 in
theorem mkX11_most : Cond.code yX11_most cX11_most 2 (some .int) ∈ gtb := tg4 (i := 99) rfl rfl
set_option maxRecDepth 100000 in
theorem miX11_most : Cond.instanceMethod yX11_most ∈ gtb := tg4 (i := 97) rfl rfl
set_option maxRecDepth 100000 in
theorem msX11_most : Cond.selects yX11_most.cls yX11_most yX11_most ∈ gtb := tg4 (i := 98) rfl rfl
def mX11_until : Mu := (yX11_until, cX11_until, 1, (some .int))
set_option maxRecDepth 100000 in
theorem mkX11_until : Cond.code yX11_until cX11_until 1 (some .int) ∈ gtb := tg4 (i := 121) rfl rfl
set_option maxRecDepth 100000 in
theorem miX11_until : Cond.instanceMethod yX11_until ∈ gtb := tg4 (i := 119) rfl rfl
set_option maxRecDepth 100000 in
theorem msX11_until : Cond.selects yX11_until.cls yX11_until yX11_until ∈ gtb := tg4 (i := 120) rfl rfl
def mX11_keep : Mu := (yX11_keep, cX11_keep, 2, (some .int))
set_option maxRecDepth 100000 in
theorem mkX11_keep : Cond.code yX11_keep cX11_keep 2 (some .int) ∈ gtb := tg4 (i := 130) rfl rfl
set_option maxRecDepth 100000 in
theorem miX11_keep : Cond.instanceMethod yX11_keep ∈ gtb := tg4 (i := 128) rfl rfl
set_option maxRecDepth 100000 in
theorem msX11_keep : Cond.selects yX11_keep.cls yX11_keep yX11_keep ∈ gtb := tg4 (i := 129) rfl rfl
def mX11_take : Mu := (yX11_take, cX11_take, 2, (some .int))
set_option maxRecDepth 100000 in
theorem mkX11_take : Cond.code yX11_take cX11_take 2 (some .int) ∈ gtb := tg4 (i := 143) rfl rfl
set_option maxRecDepth 100000 in
theorem miX11_take : Cond.instanceMethod yX11_take ∈ gtb := tg4 (i := 141) rfl rfl
set_option maxRecDepth 100000 in
theorem msX11_take : Cond.selects yX11_take.cls yX11_take yX11_take ∈ gtb := tg4 (i := 142) rfl rfl
def mX11_gone : Mu := (yX11_gone, cX11_gone, 4, (some .int))
set_option maxRecDepth 100000 in
theorem mkX11_gone : Cond.code yX11_gone cX11_gone 4 (some .int) ∈ gtb := tg4 (i := 147) rfl rfl
set_option maxRecDepth 100000 in
theorem miX11_gone : Cond.instanceMethod yX11_gone ∈ gtb := tg4 (i := 145) rfl rfl
set_option maxRecDepth 100000 in
theorem msX11_gone : Cond.selects yX11_gone.cls yX11_gone yX11_gone ∈ gtb := tg4 (i := 146) rfl rfl
def mX11_runners : Mu := (yX11_runners, cX11_runners, 1, (some .int))
set_option maxRecDepth 100000 in
theorem mkX11_runners : Cond.code yX11_runners cX11_runners 1 (some .int) ∈ gtb := tg4 (i := 151) rfl rfl
set_option maxRecDepth 100000 in
theorem miX11_runners : Cond.instanceMethod yX11_runners ∈ gtb := tg4 (i := 149) rfl rfl
set_option maxRecDepth 100000 in
theorem msX11_runners : Cond.selects yX11_runners.cls yX11_runners yX11_runners ∈ gtb := tg4 (i := 150) rfl rfl
def mX11_wrong : Mu := (yX11_wrong, cX11_wrong, 1, (some .int))
set_option maxRecDepth 100000 in
theorem mkX11_wrong : Cond.code yX11_wrong cX11_wrong 1 (some .int) ∈ gtb := tg4 (i := 179) rfl rfl
set_option maxRecDepth 100000 in
theorem miX11_wrong : Cond.instanceMethod yX11_wrong ∈ gtb := tg4 (i := 177) rfl rfl
set_option maxRecDepth 100000 in
theorem msX11_wrong : Cond.selects yX11_wrong.cls yX11_wrong yX11_wrong ∈ gtb := tg4 (i := 178) rfl rfl
def mX11_kept : Mu := (yX11_kept, cX11_kept, 3, (some .int))
set_option maxRecDepth 100000 in
theorem mkX11_kept : Cond.code yX11_kept cX11_kept 3 (some .int) ∈ gtb := tg4 (i := 191) rfl rfl
set_option maxRecDepth 100000 in
theorem miX11_kept : Cond.instanceMethod yX11_kept ∈ gtb := tg4 (i := 189) rfl rfl
set_option maxRecDepth 100000 in
theorem msX11_kept : Cond.selects yX11_kept.cls yX11_kept yX11_kept ∈ gtb := tg4 (i := 190) rfl rfl
def mX11_needed : Mu := (yX11_needed, cX11_needed, 3, (some .int))
set_option maxRecDepth 100000 in
theorem mkX11_needed : Cond.code yX11_needed cX11_needed 3 (some .int) ∈ gtb := tg4 (i := 204) rfl rfl
set_option maxRecDepth 100000 in
theorem miX11_needed : Cond.instanceMethod yX11_needed ∈ gtb := tg4 (i := 202) rfl rfl
set_option maxRecDepth 100000 in
theorem msX11_needed : Cond.selects yX11_needed.cls yX11_needed yX11_needed ∈ gtb := tg4 (i := 203) rfl rfl
def mX11_second : Mu := (yX11_second, cX11_second, 5, (some .int))
set_option maxRecDepth 100000 in
theorem mkX11_second : Cond.code yX11_second cX11_second 5 (some .int) ∈ gtb := tg4 (i := 213) rfl rfl
set_option maxRecDepth 100000 in
theorem miX11_second : Cond.instanceMethod yX11_second ∈ gtb := tg4 (i := 211) rfl rfl
set_option maxRecDepth 100000 in
theorem msX11_second : Cond.selects yX11_second.cls yX11_second yX11_second ∈ gtb := tg4 (i := 212) rfl rfl
def mX11_drift : Mu := (yX11_drift, cX11_drift, 3, (some .int))
set_option maxRecDepth 100000 in
theorem mkX11_drift : Cond.code yX11_drift cX11_drift 3 (some .int) ∈ gtb := tg4 (i := 227) rfl rfl
set_option maxRecDepth 100000 in
theorem miX11_drift : Cond.instanceMethod yX11_drift ∈ gtb := tg4 (i := 225) rfl rfl
set_option maxRecDepth 100000 in
theorem msX11_drift : Cond.selects yX11_drift.cls yX11_drift yX11_drift ∈ gtb := tg4 (i := 226) rfl rfl
def mX11_string : Mu := (yX11_string, cX11_string, 5, (some .int))
set_option maxRecDepth 100000 in
theorem mkX11_string : Cond.code yX11_string cX11_string 5 (some .int) ∈ gtb := tg4 (i := 231) rfl rfl
set_option maxRecDepth 100000 in
theorem miX11_string : Cond.instanceMethod yX11_string ∈ gtb := tg4 (i := 229) rfl rfl
set_option maxRecDepth 100000 in
theorem msX11_string : Cond.selects yX11_string.cls yX11_string yX11_string ∈ gtb := tg4 (i := 230) rfl rfl
def mX11_right : Mu := (yX11_right, cX11_right, 4, (some .int))
set_option maxRecDepth 100000 in
theorem mkX11_right : Cond.code yX11_right cX11_right 4 (some .int) ∈ gtb := tg5 (i := 6) rfl rfl
set_option maxRecDepth 100000 in
theorem miX11_right : Cond.instanceMethod yX11_right ∈ gtb := tg5 (i := 4) rfl rfl
set_option maxRecDepth 100000 in
theorem msX11_right : Cond.selects yX11_right.cls yX11_right yX11_right ∈ gtb := tg5 (i := 5) rfl rfl
def mX11_where : Mu := (yX11_where, cX11_where, 3, (some .int))
set_option maxRecDepth 100000 in
theorem mkX11_where : Cond.code yX11_where cX11_where 3 (some .int) ∈ gtb := tg5 (i := 14) rfl rfl
set_option maxRecDepth 100000 in
theorem miX11_where : Cond.instanceMethod yX11_where ∈ gtb := tg5 (i := 12) rfl rfl
set_option maxRecDepth 100000 in
theorem msX11_where : Cond.selects yX11_where.cls yX11_where yX11_where ∈ gtb := tg5 (i := 13) rfl rfl
def mX11_up : Mu := (yX11_up, cX11_up, 3, (some .int))
set_option maxRecDepth 100000 in
theorem mkX11_up : Cond.code yX11_up cX11_up 3 (some .int) ∈ gtb := tg5 (i := 44) rfl rfl
set_option maxRecDepth 100000 in
theorem miX11_up : Cond.instanceMethod yX11_up ∈ gtb := tg5 (i := 42) rfl rfl
set_option maxRecDepth 100000 in
theorem msX11_up : Cond.selects yX11_up.cls yX11_up yX11_up ∈ gtb := tg5 (i := 43) rfl rfl
def mX11_join : Mu := (yX11_join, cX11_join, 3, (some .int))
set_option maxRecDepth 100000 in
theorem mkX11_join : Cond.code yX11_join cX11_join 3 (some .int) ∈ gtb := tg5 (i := 55) rfl rfl
set_option maxRecDepth 100000 in
theorem miX11_join : Cond.instanceMethod yX11_join ∈ gtb := tg5 (i := 53) rfl rfl
set_option maxRecDepth 100000 in
theorem msX11_join : Cond.selects yX11_join.cls yX11_join yX11_join ∈ gtb := tg5 (i := 54) rfl rfl
def mX11_round : Mu := (yX11_round, cX11_round, 3, (some .int))
set_option maxRecDepth 100000 in
theorem mkX11_round : Cond.code yX11_round cX11_round 3 (some .int) ∈ gtb := tg5 (i := 63) rfl rfl
set_option maxRecDepth 100000 in
theorem miX11_round : Cond.instanceMethod yX11_round ∈ gtb := tg5 (i := 61) rfl rfl
set_option maxRecDepth 100000 in
theorem msX11_round : Cond.selects yX11_round.cls yX11_round yX11_round ∈ gtb := tg5 (i := 62) rfl rfl
def mX11_morning : Mu := (yX11_morning, cX11_morning, 2, (some .int))
set_option maxRecDepth 100000 in
theorem mkX11_morning : Cond.code yX11_morning cX11_morning 2 (some .int) ∈ gtb := tg5 (i := 79) rfl rfl
set_option maxRecDepth 100000 in
theorem miX11_morning : Cond.instanceMethod yX11_morning ∈ gtb := tg5 (i := 77) rfl rfl
set_option maxRecDepth 100000 in
theorem msX11_morning : Cond.selects yX11_morning.cls yX11_morning yX11_morning ∈ gtb := tg5 (i := 78) rfl rfl
def mX11_order : Mu := (yX11_order, cX11_order, 2, (some .int))
set_option maxRecDepth 100000 in
theorem mkX11_order : Cond.code yX11_order cX11_order 2 (some .int) ∈ gtb := tg5 (i := 83) rfl rfl
set_option maxRecDepth 100000 in
theorem miX11_order : Cond.instanceMethod yX11_order ∈ gtb := tg5 (i := 81) rfl rfl
set_option maxRecDepth 100000 in
theorem msX11_order : Cond.selects yX11_order.cls yX11_order yX11_order ∈ gtb := tg5 (i := 82) rfl rfl
def mX11_best : Mu := (yX11_best, cX11_best, 2, (some .int))
set_option maxRecDepth 100000 in
theorem mkX11_best : Cond.code yX11_best cX11_best 2 (some .int) ∈ gtb := tg5 (i := 96) rfl rfl
set_option maxRecDepth 100000 in
theorem miX11_best : Cond.instanceMethod yX11_best ∈ gtb := tg5 (i := 94) rfl rfl
set_option maxRecDepth 100000 in
theorem msX11_best : Cond.selects yX11_best.cls yX11_best yX11_best ∈ gtb := tg5 (i := 95) rfl rfl
def mX11_goes : Mu := (yX11_goes, cX11_goes, 3, (some .int))
set_option maxRecDepth 100000 in
theorem mkX11_goes : Cond.code yX11_goes cX11_goes 3 (some .int) ∈ gtb := tg5 (i := 136) rfl rfl
set_option maxRecDepth 100000 in
theorem miX11_goes : Cond.instanceMethod yX11_goes ∈ gtb := tg5 (i := 134) rfl rfl
set_option maxRecDepth 100000 in
theorem msX11_goes : Cond.selects yX11_goes.cls yX11_goes yX11_goes ∈ gtb := tg5 (i := 135) rfl rfl
def mX11_list : Mu := (yX11_list, cX11_list, 9, (some .int))
set_option maxRecDepth 100000 in
theorem mkX11_list : Cond.code yX11_list cX11_list 9 (some .int) ∈ gtb := tg5 (i := 140) rfl rfl
set_option maxRecDepth 100000 in
theorem miX11_list : Cond.instanceMethod yX11_list ∈ gtb := tg5 (i := 138) rfl rfl
set_option maxRecDepth 100000 in
theorem msX11_list : Cond.selects yX11_list.cls yX11_list yX11_list ∈ gtb := tg5 (i := 139) rfl rfl
def mX11_listed : Mu := (yX11_listed, cX11_listed, 2, (some .int))
set_option maxRecDepth 100000 in
theorem mkX11_listed : Cond.code yX11_listed cX11_listed 2 (some .int) ∈ gtb := tg5 (i := 162) rfl rfl
set_option maxRecDepth 100000 in
theorem miX11_listed : Cond.instanceMethod yX11_listed ∈ gtb := tg5 (i := 160) rfl rfl
set_option maxRecDepth 100000 in
theorem msX11_listed : Cond.selects yX11_listed.cls yX11_listed yX11_listed ∈ gtb := tg5 (i := 161) rfl rfl
def mX11_across : Mu := (yX11_across, cX11_across, 5, (some .int))
set_option maxRecDepth 100000 in
theorem mkX11_across : Cond.code yX11_across cX11_across 5 (some .int) ∈ gtb := tg5 (i := 166) rfl rfl
set_option maxRecDepth 100000 in
theorem miX11_across : Cond.instanceMethod yX11_across ∈ gtb := tg5 (i := 164) rfl rfl
set_option maxRecDepth 100000 in
theorem msX11_across : Cond.selects yX11_across.cls yX11_across yX11_across ∈ gtb := tg5 (i := 165) rfl rfl
def mX11_count : Mu := (yX11_count, cX11_count, 2, (some .int))
set_option maxRecDepth 100000 in
theorem mkX11_count : Cond.code yX11_count cX11_count 2 (some .int) ∈ gtb := tg5 (i := 181) rfl rfl
set_option maxRecDepth 100000 in
theorem miX11_count : Cond.instanceMethod yX11_count ∈ gtb := tg5 (i := 179) rfl rfl
set_option maxRecDepth 100000 in
theorem msX11_count : Cond.selects yX11_count.cls yX11_count yX11_count ∈ gtb := tg5 (i := 180) rfl rfl
def mX11_isHut : Mu := (yX11_isHut, cX11_isHut, 2, (some .boolean))
set_option maxRecDepth 100000 in
theorem mkX11_isHut : Cond.code yX11_isHut cX11_isHut 2 (some .boolean) ∈ gtb := tg3 (i := 220) rfl rfl
set_option maxRecDepth 100000 in
theorem miX11_isHut : Cond.instanceMethod yX11_isHut ∈ gtb := tg3 (i := 219) rfl rfl
theorem msX11_isHut : Cond.selects yX11_isHut.cls yX11_isHut yX11_isHut ∈ gtb := tinS (by decide +kernel) rfl
def mX11_isGarden : Mu := (yX11_isGarden, cX11_isGarden, 2, (some .boolean))
set_option maxRecDepth 100000 in
theorem mkX11_isGarden : Cond.code yX11_isGarden cX11_isGarden 2 (some .boolean) ∈ gtb := tg4 (i := 76) rfl rfl
set_option maxRecDepth 100000 in
theorem miX11_isGarden : Cond.instanceMethod yX11_isGarden ∈ gtb := tg4 (i := 75) rfl rfl
theorem msX11_isGarden : Cond.selects yX11_isGarden.cls yX11_isGarden yX11_isGarden ∈ gtb := tinS (by decide +kernel) rfl
def mX11_isTunnel : Mu := (yX11_isTunnel, cX11_isTunnel, 2, (some .boolean))
set_option maxRecDepth 100000 in
theorem mkX11_isTunnel : Cond.code yX11_isTunnel cX11_isTunnel 2 (some .boolean) ∈ gtb := tg4 (i := 5) rfl rfl
set_option maxRecDepth 100000 in
theorem miX11_isTunnel : Cond.instanceMethod yX11_isTunnel ∈ gtb := tg4 (i := 4) rfl rfl
theorem msX11_isTunnel : Cond.selects yX11_isTunnel.cls yX11_isTunnel yX11_isTunnel ∈ gtb := tinS (by decide +kernel) rfl
def mX11_areLooks : Mu := (yX11_areLooks, cX11_areLooks, 2, (some .boolean))
set_option maxRecDepth 100000 in
theorem mkX11_areLooks : Cond.code yX11_areLooks cX11_areLooks 2 (some .boolean) ∈ gtb := tg4 (i := 195) rfl rfl
set_option maxRecDepth 100000 in
theorem miX11_areLooks : Cond.instanceMethod yX11_areLooks ∈ gtb := tg4 (i := 194) rfl rfl
theorem msX11_areLooks : Cond.selects yX11_areLooks.cls yX11_areLooks yX11_areLooks ∈ gtb := tinS (by decide +kernel) rfl
def mX11_isStep : Mu := (yX11_isStep, cX11_isStep, 1, (some .boolean))
set_option maxRecDepth 100000 in
theorem mkX11_isStep : Cond.code yX11_isStep cX11_isStep 1 (some .boolean) ∈ gtb := tg4 (i := 238) rfl rfl
set_option maxRecDepth 100000 in
theorem mtX11_isStep : Cond.static yX11_isStep ∈ gtb := tg4 (i := 237) rfl rfl
def mX11_isWithin : Mu := (yX11_isWithin, cX11_isWithin, 3, (some .boolean))
set_option maxRecDepth 100000 in
theorem mkX11_isWithin : Cond.code yX11_isWithin cX11_isWithin 3 (some .boolean) ∈ gtb := tg4 (i := 8) rfl rfl
set_option maxRecDepth 100000 in
theorem mtX11_isWithin : Cond.static yX11_isWithin ∈ gtb := tg4 (i := 7) rfl rfl
def mX12_in : Mu := (yX12_in, cX12_in, 6, (some .boolean))
set_option maxRecDepth 100000 in
theorem mkX12_in : Cond.code yX12_in cX12_in 6 (some .boolean) ∈ gtb := tg7 (i := 9) rfl rfl
set_option maxRecDepth 100000 in
theorem mtX12_in : Cond.static yX12_in ∈ gtb := tg7 (i := 8) rfl rfl
def mX12_bad : Mu := (yX12_bad, cX12_bad, 2, (some .boolean))
set_option maxRecDepth 100000 in
theorem mkX12_bad : Cond.code yX12_bad cX12_bad 2 (some .boolean) ∈ gtb := tg7 (i := 49) rfl rfl
set_option maxRecDepth 100000 in
theorem miX12_bad : Cond.instanceMethod yX12_bad ∈ gtb := tg7 (i := 48) rfl rfl
theorem msX12_bad : Cond.selects yX12_bad.cls yX12_bad yX12_bad ∈ gtb := tinS (by decide +kernel) rfl
def mX12_byteAt : Mu := (yX12_byteAt, cX12_byteAt, 2, (some .int))
set_option maxRecDepth 100000 in
theorem mkX12_byteAt : Cond.code yX12_byteAt cX12_byteAt 2 (some .int) ∈ gtb := tg7 (i := 21) rfl rfl
set_option maxRecDepth 100000 in
theorem miX12_byteAt : Cond.instanceMethod yX12_byteAt ∈ gtb := tg7 (i := 20) rfl rfl
theorem msX12_byteAt : Cond.selects yX12_byteAt.cls yX12_byteAt yX12_byteAt ∈ gtb := tinS (by decide +kernel) rfl
def mX12_isSmall : Mu := (yX12_isSmall, cX12_isSmall, 1, (some .boolean))
set_option maxRecDepth 100000 in
theorem mkX12_isSmall : Cond.code yX12_isSmall cX12_isSmall 1 (some .boolean) ∈ gtb := tg7 (i := 24) rfl rfl
set_option maxRecDepth 100000 in
theorem mtX12_isSmall : Cond.static yX12_isSmall ∈ gtb := tg7 (i := 23) rfl rfl
def mX12_isDigit : Mu := (yX12_isDigit, cX12_isDigit, 1, (some .boolean))
set_option maxRecDepth 100000 in
theorem mkX12_isDigit : Cond.code yX12_isDigit cX12_isDigit 1 (some .boolean) ∈ gtb := tg7 (i := 27) rfl rfl
set_option maxRecDepth 100000 in
theorem mtX12_isDigit : Cond.static yX12_isDigit ∈ gtb := tg7 (i := 26) rfl rfl
def mX12_scan : Mu := (yX12_scan, cX12_scan, 2, none)
set_option maxRecDepth 100000 in
theorem mkX12_scan : Cond.code yX12_scan cX12_scan 2 none ∈ gtb := tg7 (i := 17) rfl rfl
set_option maxRecDepth 100000 in
theorem miX12_scan : Cond.instanceMethod yX12_scan ∈ gtb := tg7 (i := 16) rfl rfl
theorem msX12_scan : Cond.selects yX12_scan.cls yX12_scan yX12_scan ∈ gtb := tinS (by decide +kernel) rfl
def mX12_is : Mu := (yX12_is, cX12_is, 4, (some .boolean))
set_option maxRecDepth 100000 in
theorem mkX12_is : Cond.code yX12_is cX12_is 4 (some .boolean) ∈ gtb := tg7 (i := 39) rfl rfl
set_option maxRecDepth 100000 in
theorem miX12_is : Cond.instanceMethod yX12_is ∈ gtb := tg7 (i := 38) rfl rfl
theorem msX12_is : Cond.selects yX12_is.cls yX12_is yX12_is ∈ gtb := tinS (by decide +kernel) rfl
def mX12_number : Mu := (yX12_number, cX12_number, 3, (some .boolean))
set_option maxRecDepth 100000 in
theorem mkX12_number : Cond.code yX12_number cX12_number 3 (some .boolean) ∈ gtb := tg7 (i := 65) rfl rfl
set_option maxRecDepth 100000 in
theorem miX12_number : Cond.instanceMethod yX12_number ∈ gtb := tg7 (i := 64) rfl rfl
theorem msX12_number : Cond.selects yX12_number.cls yX12_number yX12_number ∈ gtb := tinS (by decide +kernel) rfl
def mX12_name : Mu := (yX12_name, cX12_name, 4, (some .long))
set_option maxRecDepth 100000 in
theorem mkX12_name : Cond.code yX12_name cX12_name 4 (some .long) ∈ gtb := tg7 (i := 61) rfl rfl
set_option maxRecDepth 100000 in
theorem miX12_name : Cond.instanceMethod yX12_name ∈ gtb := tg7 (i := 60) rfl rfl
theorem msX12_name : Cond.selects yX12_name.cls yX12_name yX12_name ∈ gtb := tinS (by decide +kernel) rfl
def mX12_find : Mu := (yX12_find, cX12_find, 4, (some .int))
set_option maxRecDepth 100000 in
theorem mkX12_find : Cond.code yX12_find cX12_find 4 (some .int) ∈ gtb := tg7 (i := 57) rfl rfl
set_option maxRecDepth 100000 in
theorem miX12_find : Cond.instanceMethod yX12_find ∈ gtb := tg7 (i := 56) rfl rfl
theorem msX12_find : Cond.selects yX12_find.cls yX12_find yX12_find ∈ gtb := tinS (by decide +kernel) rfl
def mX12_fresh : Mu := (yX12_fresh, cX12_fresh, 3, (some .boolean))
set_option maxRecDepth 100000 in
theorem mkX12_fresh : Cond.code yX12_fresh cX12_fresh 3 (some .boolean) ∈ gtb := tg7 (i := 53) rfl rfl
set_option maxRecDepth 100000 in
theorem miX12_fresh : Cond.instanceMethod yX12_fresh ∈ gtb := tg7 (i := 52) rfl rfl
theorem msX12_fresh : Cond.selects yX12_fresh.cls yX12_fresh yX12_fresh ∈ gtb := tinS (by decide +kernel) rfl
def mX12_usual : Mu := (yX12_usual, cX12_usual, 1, (some .int))
set_option maxRecDepth 100000 in
theorem mkX12_usual : Cond.code yX12_usual cX12_usual 1 (some .int) ∈ gtb := tg7 (i := 34) rfl rfl
set_option maxRecDepth 100000 in
theorem mtX12_usual : Cond.static yX12_usual ∈ gtb := tg7 (i := 33) rfl rfl
def mX12_least : Mu := (yX12_least, cX12_least, 1, (some .int))
set_option maxRecDepth 100000 in
theorem mkX12_least : Cond.code yX12_least cX12_least 1 (some .int) ∈ gtb := tg7 (i := 106) rfl rfl
set_option maxRecDepth 100000 in
theorem mtX12_least : Cond.static yX12_least ∈ gtb := tg7 (i := 105) rfl rfl
def mX12_greatest : Mu := (yX12_greatest, cX12_greatest, 1, (some .int))
set_option maxRecDepth 100000 in
theorem mkX12_greatest : Cond.code yX12_greatest cX12_greatest 1 (some .int) ∈ gtb := tg7 (i := 109) rfl rfl
set_option maxRecDepth 100000 in
theorem mtX12_greatest : Cond.static yX12_greatest ∈ gtb := tg7 (i := 108) rfl rfl
def mX12_wordAt : Mu := (yX12_wordAt, cX12_wordAt, 1, (some .int))
set_option maxRecDepth 100000 in
theorem mkX12_wordAt : Cond.code yX12_wordAt cX12_wordAt 1 (some .int) ∈ gtb := tg7 (i := 93) rfl rfl
set_option maxRecDepth 100000 in
theorem miX12_wordAt : Cond.instanceMethod yX12_wordAt ∈ gtb := tg7 (i := 92) rfl rfl
theorem msX12_wordAt : Cond.selects yX12_wordAt.cls yX12_wordAt yX12_wordAt ∈ gtb := tinS (by decide +kernel) rfl
def mX12_readHut : Mu := (yX12_readHut, cX12_readHut, 1, (some .boolean))
set_option maxRecDepth 100000 in
theorem mkX12_readHut : Cond.code yX12_readHut cX12_readHut 1 (some .boolean) ∈ gtb := tg7 (i := 45) rfl rfl
set_option maxRecDepth 100000 in
theorem miX12_readHut : Cond.instanceMethod yX12_readHut ∈ gtb := tg7 (i := 44) rfl rfl
theorem msX12_readHut : Cond.selects yX12_readHut.cls yX12_readHut yX12_readHut ∈ gtb := tinS (by decide +kernel) rfl
def mX12_readGarden : Mu := (yX12_readGarden, cX12_readGarden, 1, (some .boolean))
set_option maxRecDepth 100000 in
theorem mkX12_readGarden : Cond.code yX12_readGarden cX12_readGarden 1 (some .boolean) ∈ gtb := tg7 (i := 70) rfl rfl
set_option maxRecDepth 100000 in
theorem miX12_readGarden : Cond.instanceMethod yX12_readGarden ∈ gtb := tg7 (i := 69) rfl rfl
theorem msX12_readGarden : Cond.selects yX12_readGarden.cls yX12_readGarden yX12_readGarden ∈ gtb := tinS (by decide +kernel) rfl
def mX12_readCount : Mu := (yX12_readCount, cX12_readCount, 2, (some .boolean))
set_option maxRecDepth 100000 in
theorem mkX12_readCount : Cond.code yX12_readCount cX12_readCount 2 (some .boolean) ∈ gtb := tg7 (i := 75) rfl rfl
set_option maxRecDepth 100000 in
theorem miX12_readCount : Cond.instanceMethod yX12_readCount ∈ gtb := tg7 (i := 74) rfl rfl
theorem msX12_readCount : Cond.selects yX12_readCount.cls yX12_readCount yX12_readCount ∈ gtb := tinS (by decide +kernel) rfl
def mX12_readRun : Mu := (yX12_readRun, cX12_readRun, 3, (some .boolean))
set_option maxRecDepth 100000 in
theorem mkX12_readRun : Cond.code yX12_readRun cX12_readRun 3 (some .boolean) ∈ gtb := tg7 (i := 80) rfl rfl
set_option maxRecDepth 100000 in
theorem miX12_readRun : Cond.instanceMethod yX12_readRun ∈ gtb := tg7 (i := 79) rfl rfl
theorem msX12_readRun : Cond.selects yX12_readRun.cls yX12_readRun yX12_readRun ∈ gtb := tinS (by decide +kernel) rfl
def mX12_readLook : Mu := (yX12_readLook, cX12_readLook, 1, (some .boolean))
set_option maxRecDepth 100000 in
theorem mkX12_readLook : Cond.code yX12_readLook cX12_readLook 1 (some .boolean) ∈ gtb := tg7 (i := 85) rfl rfl
set_option maxRecDepth 100000 in
theorem miX12_readLook : Cond.instanceMethod yX12_readLook ∈ gtb := tg7 (i := 84) rfl rfl
theorem msX12_readLook : Cond.selects yX12_readLook.cls yX12_readLook yX12_readLook ∈ gtb := tinS (by decide +kernel) rfl
def mX12_readSmall : Mu := (yX12_readSmall, cX12_readSmall, 2, (some .boolean))
set_option maxRecDepth 100000 in
theorem mkX12_readSmall : Cond.code yX12_readSmall cX12_readSmall 2 (some .boolean) ∈ gtb := tg7 (i := 89) rfl rfl
set_option maxRecDepth 100000 in
theorem miX12_readSmall : Cond.instanceMethod yX12_readSmall ∈ gtb := tg7 (i := 88) rfl rfl
theorem msX12_readSmall : Cond.selects yX12_readSmall.cls yX12_readSmall yX12_readSmall ∈ gtb := tinS (by decide +kernel) rfl
def mX12_readCamp : Mu := (yX12_readCamp, cX12_readCamp, 2, (some .boolean))
set_option maxRecDepth 100000 in
theorem mkX12_readCamp : Cond.code yX12_readCamp cX12_readCamp 2 (some .boolean) ∈ gtb := tg7 (i := 31) rfl rfl
set_option maxRecDepth 100000 in
theorem miX12_readCamp : Cond.instanceMethod yX12_readCamp ∈ gtb := tg7 (i := 30) rfl rfl
theorem msX12_readCamp : Cond.selects yX12_readCamp.cls yX12_readCamp yX12_readCamp ∈ gtb := tinS (by decide +kernel) rfl
def mX12_init : Mu := (yX12_init, cX12_init, 1, none)
set_option maxRecDepth 100000 in
theorem mkX12_init : Cond.code yX12_init cX12_init 1 none ∈ gtb := tg5 (i := 190) rfl rfl
set_option maxRecDepth 100000 in
theorem miX12_init : Cond.instanceMethod yX12_init ∈ gtb := tg5 (i := 189) rfl rfl
def mX12_feed : Mu := (yX12_feed, cX12_feed, 6, (some .int))
set_option maxRecDepth 100000 in
theorem mkX12_feed : Cond.code yX12_feed cX12_feed 6 (some .int) ∈ gtb := tg6 (i := 238) rfl rfl
set_option maxRecDepth 100000 in
theorem miX12_feed : Cond.instanceMethod yX12_feed ∈ gtb := tg6 (i := 236) rfl rfl
set_option maxRecDepth 100000 in
theorem msX12_feed : Cond.selects yX12_feed.cls yX12_feed yX12_feed ∈ gtb := tg6 (i := 237) rfl rfl
def mX12_putFour : Mu := (yX12_putFour, cX12_putFour, 3, none)
set_option maxRecDepth 100000 in
theorem mkX12_putFour : Cond.code yX12_putFour cX12_putFour 3 none ∈ gtb := tg7 (i := 2) rfl rfl
set_option maxRecDepth 100000 in
theorem miX12_putFour : Cond.instanceMethod yX12_putFour ∈ gtb := tg7 (i := 1) rfl rfl
theorem msX12_putFour : Cond.selects yX12_putFour.cls yX12_putFour yX12_putFour ∈ gtb := tinS (by decide +kernel) rfl
def mX12_end : Mu := (yX12_end, cX12_end, 2, (some .int))
set_option maxRecDepth 100000 in
theorem mkX12_end : Cond.code yX12_end cX12_end 2 (some .int) ∈ gtb := tg7 (i := 6) rfl rfl
set_option maxRecDepth 100000 in
theorem miX12_end : Cond.instanceMethod yX12_end ∈ gtb := tg7 (i := 4) rfl rfl
set_option maxRecDepth 100000 in
theorem msX12_end : Cond.selects yX12_end.cls yX12_end yX12_end ∈ gtb := tg7 (i := 5) rfl rfl
def mX12_camp : Mu := (yX12_camp, cX12_camp, 2, (some .int))
set_option maxRecDepth 100000 in
theorem mkX12_camp : Cond.code yX12_camp cX12_camp 2 (some .int) ∈ gtb := tg7 (i := 13) rfl rfl
set_option maxRecDepth 100000 in
theorem miX12_camp : Cond.instanceMethod yX12_camp ∈ gtb := tg7 (i := 11) rfl rfl
set_option maxRecDepth 100000 in
theorem msX12_camp : Cond.selects yX12_camp.cls yX12_camp yX12_camp ∈ gtb := tg7 (i := 12) rfl rfl
def mX12_beginAnew : Mu := (yX12_beginAnew, cX12_beginAnew, 2, none)
set_option maxRecDepth 100000 in
theorem mkX12_beginAnew : Cond.code yX12_beginAnew cX12_beginAnew 2 none ∈ gtb := tg7 (i := 113) rfl rfl
set_option maxRecDepth 100000 in
theorem miX12_beginAnew : Cond.instanceMethod yX12_beginAnew ∈ gtb := tg7 (i := 112) rfl rfl
theorem msX12_beginAnew : Cond.selects yX12_beginAnew.cls yX12_beginAnew yX12_beginAnew ∈ gtb := tinS (by decide +kernel) rfl
def mX12_fault : Mu := (yX12_fault, cX12_fault, 2, (some .int))
set_option maxRecDepth 100000 in
theorem mkX12_fault : Cond.code yX12_fault cX12_fault 2 (some .int) ∈ gtb := tg7 (i := 117) rfl rfl
set_option maxRecDepth 100000 in
theorem miX12_fault : Cond.instanceMethod yX12_fault ∈ gtb := tg7 (i := 115) rfl rfl
set_option maxRecDepth 100000 in
theorem msX12_fault : Cond.selects yX12_fault.cls yX12_fault yX12_fault ∈ gtb := tg7 (i := 116) rfl rfl
def mX12_told : Mu := (yX12_told, cX12_told, 3, (some .int))
set_option maxRecDepth 100000 in
theorem mkX12_told : Cond.code yX12_told cX12_told 3 (some .int) ∈ gtb := tg7 (i := 121) rfl rfl
set_option maxRecDepth 100000 in
theorem miX12_told : Cond.instanceMethod yX12_told ∈ gtb := tg7 (i := 119) rfl rfl
set_option maxRecDepth 100000 in
theorem msX12_told : Cond.selects yX12_told.cls yX12_told yX12_told ∈ gtb := tg7 (i := 120) rfl rfl
def mX12_isHut : Mu := (yX12_isHut, cX12_isHut, 2, (some .boolean))
set_option maxRecDepth 100000 in
theorem mkX12_isHut : Cond.code yX12_isHut cX12_isHut 2 (some .boolean) ∈ gtb := tg7 (i := 136) rfl rfl
set_option maxRecDepth 100000 in
theorem miX12_isHut : Cond.instanceMethod yX12_isHut ∈ gtb := tg7 (i := 135) rfl rfl
theorem msX12_isHut : Cond.selects yX12_isHut.cls yX12_isHut yX12_isHut ∈ gtb := tinS (by decide +kernel) rfl
def mX12_isGarden : Mu := (yX12_isGarden, cX12_isGarden, 2, (some .boolean))
set_option maxRecDepth 100000 in
theorem mkX12_isGarden : Cond.code yX12_isGarden cX12_isGarden 2 (some .boolean) ∈ gtb := tg7 (i := 188) rfl rfl
set_option maxRecDepth 100000 in
theorem miX12_isGarden : Cond.instanceMethod yX12_isGarden ∈ gtb := tg7 (i := 187) rfl rfl
theorem msX12_isGarden : Cond.selects yX12_isGarden.cls yX12_isGarden yX12_isGarden ∈ gtb := tinS (by decide +kernel) rfl
def mX12_run : Mu := (yX12_run, cX12_run, 3, (some .int))
set_option maxRecDepth 100000 in
theorem mkX12_run : Cond.code yX12_run cX12_run 3 (some .int) ∈ gtb := tg7 (i := 132) rfl rfl
set_option maxRecDepth 100000 in
theorem miX12_run : Cond.instanceMethod yX12_run ∈ gtb := tg7 (i := 130) rfl rfl
set_option maxRecDepth 100000 in
theorem msX12_run : Cond.selects yX12_run.cls yX12_run yX12_run ∈ gtb := tg7 (i := 131) rfl rfl
def mX12_draw : Mu := (yX12_draw, cX12_draw, 2, (some .int))
set_option maxRecDepth 100000 in
theorem mkX12_draw : Cond.code yX12_draw cX12_draw 2 (some .int) ∈ gtb := tg7 (i := 167) rfl rfl
set_option maxRecDepth 100000 in
theorem miX12_draw : Cond.instanceMethod yX12_draw ∈ gtb := tg7 (i := 166) rfl rfl
theorem msX12_draw : Cond.selects yX12_draw.cls yX12_draw yX12_draw ∈ gtb := tinS (by decide +kernel) rfl
def mX12_chance : Mu := (yX12_chance, cX12_chance, 2, (some .int))
set_option maxRecDepth 100000 in
theorem mkX12_chance : Cond.code yX12_chance cX12_chance 2 (some .int) ∈ gtb := tg7 (i := 140) rfl rfl
set_option maxRecDepth 100000 in
theorem miX12_chance : Cond.instanceMethod yX12_chance ∈ gtb := tg7 (i := 138) rfl rfl
set_option maxRecDepth 100000 in
theorem msX12_chance : Cond.selects yX12_chance.cls yX12_chance yX12_chance ∈ gtb := tg7 (i := 139) rfl rfl
def mX12_open : Mu := (yX12_open, cX12_open, 2, (some .int))
set_option maxRecDepth 100000 in
theorem mkX12_open : Cond.code yX12_open cX12_open 2 (some .int) ∈ gtb := tg7 (i := 144) rfl rfl
set_option maxRecDepth 100000 in
theorem miX12_open : Cond.instanceMethod yX12_open ∈ gtb := tg7 (i := 142) rfl rfl
set_option maxRecDepth 100000 in
theorem msX12_open : Cond.selects yX12_open.cls yX12_open yX12_open ∈ gtb := tg7 (i := 143) rfl rfl
def mX12_isTunnel : Mu := (yX12_isTunnel, cX12_isTunnel, 2, (some .boolean))
set_option maxRecDepth 100000 in
theorem mkX12_isTunnel : Cond.code yX12_isTunnel cX12_isTunnel 2 (some .boolean) ∈ gtb := tg7 (i := 161) rfl rfl
set_option maxRecDepth 100000 in
theorem miX12_isTunnel : Cond.instanceMethod yX12_isTunnel ∈ gtb := tg7 (i := 160) rfl rfl
theorem msX12_isTunnel : Cond.selects yX12_isTunnel.cls yX12_isTunnel yX12_isTunnel ∈ gtb := tinS (by decide +kernel) rfl
def mX12_boardsLeft : Mu := (yX12_boardsLeft, cX12_boardsLeft, 3, (some .int))
set_option maxRecDepth 100000 in
theorem mkX12_boardsLeft : Cond.code yX12_boardsLeft cX12_boardsLeft 3 (some .int) ∈ gtb := tg7 (i := 152) rfl rfl
set_option maxRecDepth 100000 in
theorem miX12_boardsLeft : Cond.instanceMethod yX12_boardsLeft ∈ gtb := tg7 (i := 151) rfl rfl
theorem msX12_boardsLeft : Cond.selects yX12_boardsLeft.cls yX12_boardsLeft yX12_boardsLeft ∈ gtb := tinS (by decide +kernel) rfl
def mX12_boards : Mu := (yX12_boards, cX12_boards, 1, (some .int))
set_option maxRecDepth 100000 in
theorem mkX12_boards : Cond.code yX12_boards cX12_boards 1 (some .int) ∈ gtb := tg7 (i := 148) rfl rfl
set_option maxRecDepth 100000 in
theorem miX12_boards : Cond.instanceMethod yX12_boards ∈ gtb := tg7 (i := 146) rfl rfl
set_option maxRecDepth 100000 in
theorem msX12_boards : Cond.selects yX12_boards.cls yX12_boards yX12_boards ∈ gtb := tg7 (i := 147) rfl rfl
def mX12_shift : Mu := (yX12_shift, cX12_shift, 7, (some .int))
set_option maxRecDepth 100000 in
theorem mkX12_shift : Cond.code yX12_shift cX12_shift 7 (some .int) ∈ gtb := tg7 (i := 157) rfl rfl
set_option maxRecDepth 100000 in
theorem miX12_shift : Cond.instanceMethod yX12_shift ∈ gtb := tg7 (i := 155) rfl rfl
set_option maxRecDepth 100000 in
theorem msX12_shift : Cond.selects yX12_shift.cls yX12_shift yX12_shift ∈ gtb := tg7 (i := 156) rfl rfl
def mX12_tunnel : Mu := (yX12_tunnel, cX12_tunnel, 3, (some .int))
set_option maxRecDepth 100000 in
theorem mkX12_tunnel : Cond.code yX12_tunnel cX12_tunnel 3 (some .int) ∈ gtb := tg7 (i := 175) rfl rfl
set_option maxRecDepth 100000 in
theorem miX12_tunnel : Cond.instanceMethod yX12_tunnel ∈ gtb := tg7 (i := 173) rfl rfl
set_option maxRecDepth 100000 in
theorem msX12_tunnel : Cond.selects yX12_tunnel.cls yX12_tunnel yX12_tunnel ∈ gtb := tg7 (i := 174) rfl rfl
def mX12_lies : Mu := (yX12_lies, cX12_lies, 2, (some .int))
set_option maxRecDepth 100000 in
theorem mkX12_lies : Cond.code yX12_lies cX12_lies 2 (some .int) ∈ gtb := tg7 (i := 180) rfl rfl
set_option maxRecDepth 100000 in
theorem miX12_lies : Cond.instanceMethod yX12_lies ∈ gtb := tg7 (i := 178) rfl rfl
set_option maxRecDepth 100000 in
theorem msX12_lies : Cond.selects yX12_lies.cls yX12_lies yX12_lies ∈ gtb := tg7 (i := 179) rfl rfl
def mX12_reaches : Mu := (yX12_reaches, cX12_reaches, 3, (some .boolean))
set_option maxRecDepth 100000 in
theorem mkX12_reaches : Cond.code yX12_reaches cX12_reaches 3 (some .boolean) ∈ gtb := tg7 (i := 193) rfl rfl
set_option maxRecDepth 100000 in
theorem miX12_reaches : Cond.instanceMethod yX12_reaches ∈ gtb := tg7 (i := 192) rfl rfl
theorem msX12_reaches : Cond.selects yX12_reaches.cls yX12_reaches yX12_reaches ∈ gtb := tinS (by decide +kernel) rfl
def mX12_carry : Mu := (yX12_carry, cX12_carry, 4, (some .int))
set_option maxRecDepth 100000 in
theorem mkX12_carry : Cond.code yX12_carry cX12_carry 4 (some .int) ∈ gtb := tg7 (i := 184) rfl rfl
set_option maxRecDepth 100000 in
theorem miX12_carry : Cond.instanceMethod yX12_carry ∈ gtb := tg7 (i := 182) rfl rfl
set_option maxRecDepth 100000 in
theorem msX12_carry : Cond.selects yX12_carry.cls yX12_carry yX12_carry ∈ gtb := tg7 (i := 183) rfl rfl
def mX12_had : Mu := (yX12_had, cX12_had, 2, (some .int))
set_option maxRecDepth 100000 in
theorem mkX12_had : Cond.code yX12_had cX12_had 2 (some .int) ∈ gtb := tg7 (i := 198) rfl rfl
set_option maxRecDepth 100000 in
theorem miX12_had : Cond.instanceMethod yX12_had ∈ gtb := tg7 (i := 196) rfl rfl
set_option maxRecDepth 100000 in
theorem msX12_had : Cond.selects yX12_had.cls yX12_had yX12_had ∈ gtb := tg7 (i := 197) rfl rfl
def mX12_mostIn : Mu := (yX12_mostIn, cX12_mostIn, 8, (some .int))
set_option maxRecDepth 100000 in
theorem mkX12_mostIn : Cond.code yX12_mostIn cX12_mostIn 8 (some .int) ∈ gtb := tg7 (i := 206) rfl rfl
set_option maxRecDepth 100000 in
theorem miX12_mostIn : Cond.instanceMethod yX12_mostIn ∈ gtb := tg7 (i := 205) rfl rfl
theorem msX12_mostIn : Cond.selects yX12_mostIn.cls yX12_mostIn yX12_mostIn ∈ gtb := tinS (by decide +kernel) rfl
def mX12_most : Mu := (yX12_most, cX12_most, 2, (some .int))
set_option maxRecDepth 100000 in
theorem mkX12_most : Cond.code yX12_most cX12_most 2 (some .int) ∈ gtb := tg7 (i := 202) rfl rfl
set_option maxRecDepth 100000 in
theorem miX12_most : Cond.instanceMethod yX12_most ∈ gtb := tg7 (i := 200) rfl rfl
set_option maxRecDepth 100000 in
theorem msX12_most : Cond.selects yX12_most.cls yX12_most yX12_most ∈ gtb := tg7 (i := 201) rfl rfl
def mX12_until : Mu := (yX12_until, cX12_until, 3, (some .int))
set_option maxRecDepth 100000 in
theorem mkX12_until : Cond.code yX12_until cX12_until 3 (some .int) ∈ gtb := tg7 (i := 210) rfl rfl
set_option maxRecDepth 100000 in
theorem miX12_until : Cond.instanceMethod yX12_until ∈ gtb := tg7 (i := 208) rfl rfl
set_option maxRecDepth 100000 in
theorem msX12_until : Cond.selects yX12_until.cls yX12_until yX12_until ∈ gtb := tg7 (i := 209) rfl rfl
def mX12_isSlot : Mu := (yX12_isSlot, cX12_isSlot, 1, (some .boolean))
set_option maxRecDepth 100000 in
theorem mkX12_isSlot : Cond.code yX12_isSlot cX12_isSlot 1 (some .boolean) ∈ gtb := tg7 (i := 217) rfl rfl
set_option maxRecDepth 100000 in
theorem mtX12_isSlot : Cond.static yX12_isSlot ∈ gtb := tg7 (i := 216) rfl rfl
def mX12_allFeet : Mu := (yX12_allFeet, cX12_allFeet, 3, (some .int))
set_option maxRecDepth 100000 in
theorem mkX12_allFeet : Cond.code yX12_allFeet cX12_allFeet 3 (some .int) ∈ gtb := tg7 (i := 221) rfl rfl
set_option maxRecDepth 100000 in
theorem miX12_allFeet : Cond.instanceMethod yX12_allFeet ∈ gtb := tg7 (i := 220) rfl rfl
theorem msX12_allFeet : Cond.selects yX12_allFeet.cls yX12_allFeet yX12_allFeet ∈ gtb := tinS (by decide +kernel) rfl
def mX12_keep : Mu := (yX12_keep, cX12_keep, 4, (some .int))
set_option maxRecDepth 100000 in
theorem mkX12_keep : Cond.code yX12_keep cX12_keep 4 (some .int) ∈ gtb := tg7 (i := 214) rfl rfl
set_option maxRecDepth 100000 in
theorem miX12_keep : Cond.instanceMethod yX12_keep ∈ gtb := tg7 (i := 212) rfl rfl
set_option maxRecDepth 100000 in
theorem msX12_keep : Cond.selects yX12_keep.cls yX12_keep yX12_keep ∈ gtb := tg7 (i := 213) rfl rfl
def mX12_take : Mu := (yX12_take, cX12_take, 4, (some .int))
set_option maxRecDepth 100000 in
theorem mkX12_take : Cond.code yX12_take cX12_take 4 (some .int) ∈ gtb := tg7 (i := 225) rfl rfl
set_option maxRecDepth 100000 in
theorem miX12_take : Cond.instanceMethod yX12_take ∈ gtb := tg7 (i := 223) rfl rfl
set_option maxRecDepth 100000 in
theorem msX12_take : Cond.selects yX12_take.cls yX12_take yX12_take ∈ gtb := tg7 (i := 224) rfl rfl
def mX12_gone : Mu := (yX12_gone, cX12_gone, 4, (some .int))
set_option maxRecDepth 100000 in
theorem mkX12_gone : Cond.code yX12_gone cX12_gone 4 (some .int) ∈ gtb := tg7 (i := 229) rfl rfl
set_option maxRecDepth 100000 in
theorem miX12_gone : Cond.instanceMethod yX12_gone ∈ gtb := tg7 (i := 227) rfl rfl
set_option maxRecDepth 100000 in
theorem msX12_gone : Cond.selects yX12_gone.cls yX12_gone yX12_gone ∈ gtb := tg7 (i := 228) rfl rfl
def mX12_isCounted : Mu := (yX12_isCounted, cX12_isCounted, 2, (some .boolean))
set_option maxRecDepth 100000 in
theorem mkX12_isCounted : Cond.code yX12_isCounted cX12_isCounted 2 (some .boolean) ∈ gtb := tg8 (i := 1) rfl rfl
set_option maxRecDepth 100000 in
theorem miX12_isCounted : Cond.instanceMethod yX12_isCounted ∈ gtb := tg8 (i := 0) rfl rfl
theorem msX12_isCounted : Cond.selects yX12_isCounted.cls yX12_isCounted yX12_isCounted ∈ gtb := tinS (by decide +kernel) rfl
def mX12_allGone : Mu := (yX12_allGone, cX12_allGone, 4, (some .int))
set_option maxRecDepth 100000 in
theorem mkX12_allGone : Cond.code yX12_allGone cX12_allGone 4 (some .int) ∈ gtb := tg7 (i := 237) rfl rfl
set_option maxRecDepth 100000 in
theorem miX12_allGone : Cond.instanceMethod yX12_allGone ∈ gtb := tg7 (i := 236) rfl rfl
theorem msX12_allGone : Cond.selects yX12_allGone.cls yX12_allGone yX12_allGone ∈ gtb := tinS (by decide +kernel) rfl
def mX12_canRun : Mu := (yX12_canRun, cX12_canRun, 4, (some .boolean))
set_option maxRecDepth 100000 in
theorem mkX12_canRun : Cond.code yX12_canRun cX12_canRun 4 (some .boolean) ∈ gtb := tg8 (i := 17) rfl rfl
set_option maxRecDepth 100000 in
theorem miX12_canRun : Cond.instanceMethod yX12_canRun ∈ gtb := tg8 (i := 16) rfl rfl
theorem msX12_canRun : Cond.selects yX12_canRun.cls yX12_canRun yX12_canRun ∈ gtb := tinS (by decide +kernel) rfl
def mX12_giveTo : Mu := (yX12_giveTo, cX12_giveTo, 5, (some .boolean))
set_option maxRecDepth 100000 in
theorem mkX12_giveTo : Cond.code yX12_giveTo cX12_giveTo 5 (some .boolean) ∈ gtb := tg8 (i := 13) rfl rfl
set_option maxRecDepth 100000 in
theorem miX12_giveTo : Cond.instanceMethod yX12_giveTo ∈ gtb := tg8 (i := 12) rfl rfl
theorem msX12_giveTo : Cond.selects yX12_giveTo.cls yX12_giveTo yX12_giveTo ∈ gtb := tinS (by decide +kernel) rfl
def mX12_ask : Mu := (yX12_ask, cX12_ask, 2, none)
set_option maxRecDepth 100000 in
theorem mkX12_ask : Cond.code yX12_ask cX12_ask 2 none ∈ gtb := tg8 (i := 9) rfl rfl
set_option maxRecDepth 100000 in
theorem miX12_ask : Cond.instanceMethod yX12_ask ∈ gtb := tg8 (i := 8) rfl rfl
theorem msX12_ask : Cond.selects yX12_ask.cls yX12_ask yX12_ask ∈ gtb := tinS (by decide +kernel) rfl
def mX12_fewest : Mu := (yX12_fewest, cX12_fewest, 3, (some .int))
set_option maxRecDepth 100000 in
theorem mkX12_fewest : Cond.code yX12_fewest cX12_fewest 3 (some .int) ∈ gtb := tg8 (i := 5) rfl rfl
set_option maxRecDepth 100000 in
theorem miX12_fewest : Cond.instanceMethod yX12_fewest ∈ gtb := tg8 (i := 4) rfl rfl
theorem msX12_fewest : Cond.selects yX12_fewest.cls yX12_fewest yX12_fewest ∈ gtb := tinS (by decide +kernel) rfl
def mX12_runners : Mu := (yX12_runners, cX12_runners, 2, (some .int))
set_option maxRecDepth 100000 in
theorem mkX12_runners : Cond.code yX12_runners cX12_runners 2 (some .int) ∈ gtb := tg7 (i := 233) rfl rfl
set_option maxRecDepth 100000 in
theorem miX12_runners : Cond.instanceMethod yX12_runners ∈ gtb := tg7 (i := 231) rfl rfl
set_option maxRecDepth 100000 in
theorem msX12_runners : Cond.selects yX12_runners.cls yX12_runners yX12_runners ∈ gtb := tg7 (i := 232) rfl rfl
def mX12_orders : Mu := (yX12_orders, cX12_orders, 4, none)
set_option maxRecDepth 100000 in
theorem mkX12_orders : Cond.code yX12_orders cX12_orders 4 none ∈ gtb := tg8 (i := 25) rfl rfl
set_option maxRecDepth 100000 in
theorem miX12_orders : Cond.instanceMethod yX12_orders ∈ gtb := tg8 (i := 24) rfl rfl
theorem msX12_orders : Cond.selects yX12_orders.cls yX12_orders yX12_orders ∈ gtb := tinS (by decide +kernel) rfl
def mX12_wrong : Mu := (yX12_wrong, cX12_wrong, 1, (some .int))
set_option maxRecDepth 100000 in
theorem mkX12_wrong : Cond.code yX12_wrong cX12_wrong 1 (some .int) ∈ gtb := tg8 (i := 21) rfl rfl
set_option maxRecDepth 100000 in
theorem miX12_wrong : Cond.instanceMethod yX12_wrong ∈ gtb := tg8 (i := 19) rfl rfl
set_option maxRecDepth 100000 in
theorem msX12_wrong : Cond.selects yX12_wrong.cls yX12_wrong yX12_wrong ∈ gtb := tg8 (i := 20) rfl rfl
def mX12_keptBy : Mu := (yX12_keptBy, cX12_keptBy, 6, (some .int))
set_option maxRecDepth 100000 in
theorem mkX12_keptBy : Cond.code yX12_keptBy cX12_keptBy 6 (some .int) ∈ gtb := tg8 (i := 38) rfl rfl
set_option maxRecDepth 100000 in
theorem miX12_keptBy : Cond.instanceMethod yX12_keptBy ∈ gtb := tg8 (i := 37) rfl rfl
theorem msX12_keptBy : Cond.selects yX12_keptBy.cls yX12_keptBy yX12_keptBy ∈ gtb := tinS (by decide +kernel) rfl
def mX12_areLooks : Mu := (yX12_areLooks, cX12_areLooks, 2, (some .boolean))
set_option maxRecDepth 100000 in
theorem mkX12_areLooks : Cond.code yX12_areLooks cX12_areLooks 2 (some .boolean) ∈ gtb := tg8 (i := 33) rfl rfl
set_option maxRecDepth 100000 in
theorem miX12_areLooks : Cond.instanceMethod yX12_areLooks ∈ gtb := tg8 (i := 32) rfl rfl
theorem msX12_areLooks : Cond.selects yX12_areLooks.cls yX12_areLooks yX12_areLooks ∈ gtb := tinS (by decide +kernel) rfl
def mX12_kept : Mu := (yX12_kept, cX12_kept, 3, (some .int))
set_option maxRecDepth 100000 in
theorem mkX12_kept : Cond.code yX12_kept cX12_kept 3 (some .int) ∈ gtb := tg8 (i := 29) rfl rfl
set_option maxRecDepth 100000 in
theorem miX12_kept : Cond.instanceMethod yX12_kept ∈ gtb := tg8 (i := 27) rfl rfl
set_option maxRecDepth 100000 in
theorem msX12_kept : Cond.selects yX12_kept.cls yX12_kept yX12_kept ∈ gtb := tg8 (i := 28) rfl rfl
def mX12_neededFor : Mu := (yX12_neededFor, cX12_neededFor, 7, (some .int))
set_option maxRecDepth 100000 in
theorem mkX12_neededFor : Cond.code yX12_neededFor cX12_neededFor 7 (some .int) ∈ gtb := tg8 (i := 52) rfl rfl
set_option maxRecDepth 100000 in
theorem miX12_neededFor : Cond.instanceMethod yX12_neededFor ∈ gtb := tg8 (i := 51) rfl rfl
theorem msX12_neededFor : Cond.selects yX12_neededFor.cls yX12_neededFor yX12_neededFor ∈ gtb := tinS (by decide +kernel) rfl
def mX12_isGoal : Mu := (yX12_isGoal, cX12_isGoal, 1, (some .boolean))
set_option maxRecDepth 100000 in
theorem mkX12_isGoal : Cond.code yX12_isGoal cX12_isGoal 1 (some .boolean) ∈ gtb := tg8 (i := 46) rfl rfl
set_option maxRecDepth 100000 in
theorem mtX12_isGoal : Cond.static yX12_isGoal ∈ gtb := tg8 (i := 45) rfl rfl
def mX12_needed : Mu := (yX12_needed, cX12_needed, 3, (some .int))
set_option maxRecDepth 100000 in
theorem mkX12_needed : Cond.code yX12_needed cX12_needed 3 (some .int) ∈ gtb := tg8 (i := 43) rfl rfl
set_option maxRecDepth 100000 in
theorem miX12_needed : Cond.instanceMethod yX12_needed ∈ gtb := tg8 (i := 41) rfl rfl
set_option maxRecDepth 100000 in
theorem msX12_needed : Cond.selects yX12_needed.cls yX12_needed yX12_needed ∈ gtb := tg8 (i := 42) rfl rfl
def mX12_keptOf : Mu := (yX12_keptOf, cX12_keptOf, 5, (some .int))
set_option maxRecDepth 100000 in
theorem mkX12_keptOf : Cond.code yX12_keptOf cX12_keptOf 5 (some .int) ∈ gtb := tg8 (i := 60) rfl rfl
set_option maxRecDepth 100000 in
theorem miX12_keptOf : Cond.instanceMethod yX12_keptOf ∈ gtb := tg8 (i := 59) rfl rfl
theorem msX12_keptOf : Cond.selects yX12_keptOf.cls yX12_keptOf yX12_keptOf ∈ gtb := tinS (by decide +kernel) rfl
def mX12_second : Mu := (yX12_second, cX12_second, 13, (some .int))
set_option maxRecDepth 100000 in
theorem mkX12_second : Cond.code yX12_second cX12_second 13 (some .int) ∈ gtb := tg8 (i := 56) rfl rfl
set_option maxRecDepth 100000 in
theorem miX12_second : Cond.instanceMethod yX12_second ∈ gtb := tg8 (i := 54) rfl rfl
set_option maxRecDepth 100000 in
theorem msX12_second : Cond.selects yX12_second.cls yX12_second yX12_second ∈ gtb := tg8 (i := 55) rfl rfl
def mX12_drift : Mu := (yX12_drift, cX12_drift, 3, (some .int))
set_option maxRecDepth 100000 in
theorem mkX12_drift : Cond.code yX12_drift cX12_drift 3 (some .int) ∈ gtb := tg8 (i := 65) rfl rfl
set_option maxRecDepth 100000 in
theorem miX12_drift : Cond.instanceMethod yX12_drift ∈ gtb := tg8 (i := 63) rfl rfl
set_option maxRecDepth 100000 in
theorem msX12_drift : Cond.selects yX12_drift.cls yX12_drift yX12_drift ∈ gtb := tg8 (i := 64) rfl rfl
def mX12_string : Mu := (yX12_string, cX12_string, 5, (some .int))
set_option maxRecDepth 100000 in
theorem mkX12_string : Cond.code yX12_string cX12_string 5 (some .int) ∈ gtb := tg8 (i := 69) rfl rfl
set_option maxRecDepth 100000 in
theorem miX12_string : Cond.instanceMethod yX12_string ∈ gtb := tg8 (i := 67) rfl rfl
set_option maxRecDepth 100000 in
theorem msX12_string : Cond.selects yX12_string.cls yX12_string yX12_string ∈ gtb := tg8 (i := 68) rfl rfl
def mX12_right : Mu := (yX12_right, cX12_right, 6, (some .int))
set_option maxRecDepth 100000 in
theorem mkX12_right : Cond.code yX12_right cX12_right 6 (some .int) ∈ gtb := tg8 (i := 75) rfl rfl
set_option maxRecDepth 100000 in
theorem miX12_right : Cond.instanceMethod yX12_right ∈ gtb := tg8 (i := 73) rfl rfl
set_option maxRecDepth 100000 in
theorem msX12_right : Cond.selects yX12_right.cls yX12_right yX12_right ∈ gtb := tg8 (i := 74) rfl rfl
def mX12_along : Mu := (yX12_along, cX12_along, 1, (some .int))
set_option maxRecDepth 100000 in
theorem mkX12_along : Cond.code yX12_along cX12_along 1 (some .int) ∈ gtb := tg8 (i := 91) rfl rfl
set_option maxRecDepth 100000 in
theorem mtX12_along : Cond.static yX12_along ∈ gtb := tg8 (i := 90) rfl rfl
def mX12_findEnd : Mu := (yX12_findEnd, cX12_findEnd, 6, none)
set_option maxRecDepth 100000 in
theorem mkX12_findEnd : Cond.code yX12_findEnd cX12_findEnd 6 none ∈ gtb := tg8 (i := 88) rfl rfl
set_option maxRecDepth 100000 in
theorem miX12_findEnd : Cond.instanceMethod yX12_findEnd ∈ gtb := tg8 (i := 87) rfl rfl
theorem msX12_findEnd : Cond.selects yX12_findEnd.cls yX12_findEnd yX12_findEnd ∈ gtb := tinS (by decide +kernel) rfl
def mX12_isStep : Mu := (yX12_isStep, cX12_isStep, 1, (some .boolean))
set_option maxRecDepth 100000 in
theorem mkX12_isStep : Cond.code yX12_isStep cX12_isStep 1 (some .boolean) ∈ gtb := tg8 (i := 82) rfl rfl
set_option maxRecDepth 100000 in
theorem mtX12_isStep : Cond.static yX12_isStep ∈ gtb := tg8 (i := 81) rfl rfl
def mX12_where : Mu := (yX12_where, cX12_where, 3, (some .int))
set_option maxRecDepth 100000 in
theorem mkX12_where : Cond.code yX12_where cX12_where 3 (some .int) ∈ gtb := tg8 (i := 79) rfl rfl
set_option maxRecDepth 100000 in
theorem miX12_where : Cond.instanceMethod yX12_where ∈ gtb := tg8 (i := 77) rfl rfl
set_option maxRecDepth 100000 in
theorem msX12_where : Cond.selects yX12_where.cls yX12_where yX12_where ∈ gtb := tg8 (i := 78) rfl rfl
def mX12_up : Mu := (yX12_up, cX12_up, 5, (some .int))
set_option maxRecDepth 100000 in
theorem mkX12_up : Cond.code yX12_up cX12_up 5 (some .int) ∈ gtb := tg8 (i := 95) rfl rfl
set_option maxRecDepth 100000 in
theorem miX12_up : Cond.instanceMethod yX12_up ∈ gtb := tg8 (i := 93) rfl rfl
set_option maxRecDepth 100000 in
theorem msX12_up : Cond.selects yX12_up.cls yX12_up yX12_up ∈ gtb := tg8 (i := 94) rfl rfl
def mX12_join : Mu := (yX12_join, cX12_join, 3, (some .int))
set_option maxRecDepth 100000 in
theorem mkX12_join : Cond.code yX12_join cX12_join 3 (some .int) ∈ gtb := tg8 (i := 99) rfl rfl
set_option maxRecDepth 100000 in
theorem miX12_join : Cond.instanceMethod yX12_join ∈ gtb := tg8 (i := 97) rfl rfl
set_option maxRecDepth 100000 in
theorem msX12_join : Cond.selects yX12_join.cls yX12_join yX12_join ∈ gtb := tg8 (i := 98) rfl rfl
def mX12_round : Mu := (yX12_round, cX12_round, 4, (some .int))
set_option maxRecDepth 100000 in
theorem mkX12_round : Cond.code yX12_round cX12_round 4 (some .int) ∈ gtb := tg8 (i := 103) rfl rfl
set_option maxRecDepth 100000 in
theorem miX12_round : Cond.instanceMethod yX12_round ∈ gtb := tg8 (i := 101) rfl rfl
set_option maxRecDepth 100000 in
theorem msX12_round : Cond.selects yX12_round.cls yX12_round yX12_round ∈ gtb := tg8 (i := 102) rfl rfl
def mX12_morning : Mu := (yX12_morning, cX12_morning, 2, (some .int))
set_option maxRecDepth 100000 in
theorem mkX12_morning : Cond.code yX12_morning cX12_morning 2 (some .int) ∈ gtb := tg8 (i := 108) rfl rfl
set_option maxRecDepth 100000 in
theorem miX12_morning : Cond.instanceMethod yX12_morning ∈ gtb := tg8 (i := 106) rfl rfl
set_option maxRecDepth 100000 in
theorem msX12_morning : Cond.selects yX12_morning.cls yX12_morning yX12_morning ∈ gtb := tg8 (i := 107) rfl rfl
def mX12_outBy : Mu := (yX12_outBy, cX12_outBy, 6, (some .int))
set_option maxRecDepth 100000 in
theorem mkX12_outBy : Cond.code yX12_outBy cX12_outBy 6 (some .int) ∈ gtb := tg8 (i := 116) rfl rfl
set_option maxRecDepth 100000 in
theorem miX12_outBy : Cond.instanceMethod yX12_outBy ∈ gtb := tg8 (i := 115) rfl rfl
theorem msX12_outBy : Cond.selects yX12_outBy.cls yX12_outBy yX12_outBy ∈ gtb := tinS (by decide +kernel) rfl
def mX12_order : Mu := (yX12_order, cX12_order, 6, (some .int))
set_option maxRecDepth 100000 in
theorem mkX12_order : Cond.code yX12_order cX12_order 6 (some .int) ∈ gtb := tg8 (i := 112) rfl rfl
set_option maxRecDepth 100000 in
theorem miX12_order : Cond.instanceMethod yX12_order ∈ gtb := tg8 (i := 110) rfl rfl
set_option maxRecDepth 100000 in
theorem msX12_order : Cond.selects yX12_order.cls yX12_order yX12_order ∈ gtb := tg8 (i := 111) rfl rfl
def mX12_bits : Mu := (yX12_bits, cX12_bits, 3, (some .int))
set_option maxRecDepth 100000 in
theorem mkX12_bits : Cond.code yX12_bits cX12_bits 3 (some .int) ∈ gtb := tg8 (i := 131) rfl rfl
set_option maxRecDepth 100000 in
theorem mtX12_bits : Cond.static yX12_bits ∈ gtb := tg8 (i := 130) rfl rfl
def mX12_findOut : Mu := (yX12_findOut, cX12_findOut, 5, none)
set_option maxRecDepth 100000 in
theorem mkX12_findOut : Cond.code yX12_findOut cX12_findOut 5 none ∈ gtb := tg8 (i := 124) rfl rfl
set_option maxRecDepth 100000 in
theorem miX12_findOut : Cond.instanceMethod yX12_findOut ∈ gtb := tg8 (i := 123) rfl rfl
theorem msX12_findOut : Cond.selects yX12_findOut.cls yX12_findOut yX12_findOut ∈ gtb := tinS (by decide +kernel) rfl
def mX12_earliest : Mu := (yX12_earliest, cX12_earliest, 4, (some .int))
set_option maxRecDepth 100000 in
theorem mkX12_earliest : Cond.code yX12_earliest cX12_earliest 4 (some .int) ∈ gtb := tg8 (i := 128) rfl rfl
set_option maxRecDepth 100000 in
theorem miX12_earliest : Cond.instanceMethod yX12_earliest ∈ gtb := tg8 (i := 127) rfl rfl
theorem msX12_earliest : Cond.selects yX12_earliest.cls yX12_earliest yX12_earliest ∈ gtb := tinS (by decide +kernel) rfl
def mX12_best : Mu := (yX12_best, cX12_best, 8, (some .int))
set_option maxRecDepth 100000 in
theorem mkX12_best : Cond.code yX12_best cX12_best 8 (some .int) ∈ gtb := tg8 (i := 120) rfl rfl
set_option maxRecDepth 100000 in
theorem miX12_best : Cond.instanceMethod yX12_best ∈ gtb := tg8 (i := 118) rfl rfl
set_option maxRecDepth 100000 in
theorem msX12_best : Cond.selects yX12_best.cls yX12_best yX12_best ∈ gtb := tg8 (i := 119) rfl rfl
def mX12_leads : Mu := (yX12_leads, cX12_leads, 6, (some .boolean))
set_option maxRecDepth 100000 in
theorem mkX12_leads : Cond.code yX12_leads cX12_leads 6 (some .boolean) ∈ gtb := tg8 (i := 135) rfl rfl
set_option maxRecDepth 100000 in
theorem miX12_leads : Cond.instanceMethod yX12_leads ∈ gtb := tg8 (i := 134) rfl rfl
theorem msX12_leads : Cond.selects yX12_leads.cls yX12_leads yX12_leads ∈ gtb := tinS (by decide +kernel) rfl
def mX12_goes : Mu := (yX12_goes, cX12_goes, 3, (some .int))
set_option maxRecDepth 100000 in
theorem mkX12_goes : Cond.code yX12_goes cX12_goes 3 (some .int) ∈ gtb := tg8 (i := 139) rfl rfl
set_option maxRecDepth 100000 in
theorem miX12_goes : Cond.instanceMethod yX12_goes ∈ gtb := tg8 (i := 137) rfl rfl
set_option maxRecDepth 100000 in
theorem msX12_goes : Cond.selects yX12_goes.cls yX12_goes yX12_goes ∈ gtb := tg8 (i := 138) rfl rfl
def mX12_drawOf : Mu := (yX12_drawOf, cX12_drawOf, 7, (some .int))
set_option maxRecDepth 100000 in
theorem mkX12_drawOf : Cond.code yX12_drawOf cX12_drawOf 7 (some .int) ∈ gtb := tg8 (i := 148) rfl rfl
set_option maxRecDepth 100000 in
theorem miX12_drawOf : Cond.instanceMethod yX12_drawOf ∈ gtb := tg8 (i := 147) rfl rfl
theorem msX12_drawOf : Cond.selects yX12_drawOf.cls yX12_drawOf yX12_drawOf ∈ gtb := tinS (by decide +kernel) rfl
def mX12_list : Mu := (yX12_list, cX12_list, 11, (some .int))
set_option maxRecDepth 100000 in
theorem mkX12_list : Cond.code yX12_list cX12_list 11 (some .int) ∈ gtb := tg8 (i := 143) rfl rfl
set_option maxRecDepth 100000 in
theorem miX12_list : Cond.instanceMethod yX12_list ∈ gtb := tg8 (i := 141) rfl rfl
set_option maxRecDepth 100000 in
theorem msX12_list : Cond.selects yX12_list.cls yX12_list yX12_list ∈ gtb := tg8 (i := 142) rfl rfl
def mX12_listed : Mu := (yX12_listed, cX12_listed, 2, (some .int))
set_option maxRecDepth 100000 in
theorem mkX12_listed : Cond.code yX12_listed cX12_listed 2 (some .int) ∈ gtb := tg8 (i := 152) rfl rfl
set_option maxRecDepth 100000 in
theorem miX12_listed : Cond.instanceMethod yX12_listed ∈ gtb := tg8 (i := 150) rfl rfl
set_option maxRecDepth 100000 in
theorem msX12_listed : Cond.selects yX12_listed.cls yX12_listed yX12_listed ∈ gtb := tg8 (i := 151) rfl rfl
def mX12_across : Mu := (yX12_across, cX12_across, 11, (some .int))
set_option maxRecDepth 100000 in
theorem mkX12_across : Cond.code yX12_across cX12_across 11 (some .int) ∈ gtb := tg8 (i := 156) rfl rfl
set_option maxRecDepth 100000 in
theorem miX12_across : Cond.instanceMethod yX12_across ∈ gtb := tg8 (i := 154) rfl rfl
set_option maxRecDepth 100000 in
theorem msX12_across : Cond.selects yX12_across.cls yX12_across yX12_across ∈ gtb := tg8 (i := 155) rfl rfl
def mX12_count : Mu := (yX12_count, cX12_count, 2, (some .int))
set_option maxRecDepth 100000 in
theorem mkX12_count : Cond.code yX12_count cX12_count 2 (some .int) ∈ gtb := tg8 (i := 160) rfl rfl
set_option maxRecDepth 100000 in
theorem miX12_count : Cond.instanceMethod yX12_count ∈ gtb := tg8 (i := 158) rfl rfl
set_option maxRecDepth 100000 in
theorem msX12_count : Cond.selects yX12_count.cls yX12_count yX12_count ∈ gtb := tg8 (i := 159) rfl rfl
def mJ6_numberOfTrailingZeros_0f7a4 : Mu := (yJ6_numberOfTrailingZeros_0f7a4, cJ6_numberOfTrailingZeros_0f7a4, 2, (some .int))
set_option maxRecDepth 100000 in
theorem mkJ6_numberOfTrailingZeros_0f7a4 : Cond.code yJ6_numberOfTrailingZeros_0f7a4 cJ6_numberOfTrailingZeros_0f7a4 2 (some .int) ∈ gtb := tg5 (i := 157) rfl rfl
set_option maxRecDepth 100000 in
theorem mtJ6_numberOfTrailingZeros_0f7a4 : Cond.static yJ6_numberOfTrailingZeros_0f7a4 ∈ gtb := tg5 (i := 156) rfl rfl
def mJ6_bitCount_0f7a4 : Mu := (yJ6_bitCount_0f7a4, cJ6_bitCount_0f7a4, 1, (some .int))
set_option maxRecDepth 100000 in
theorem mkJ6_bitCount_0f7a4 : Cond.code yJ6_bitCount_0f7a4 cJ6_bitCount_0f7a4 1 (some .int) ∈ gtb := tg5 (i := 108) rfl rfl
set_option maxRecDepth 100000 in
theorem mtJ6_bitCount_0f7a4 : Cond.static yJ6_bitCount_0f7a4 ∈ gtb := tg5 (i := 107) rfl rfl
def mJ9_abs_0f7a4 : Mu := (yJ9_abs_0f7a4, cJ9_abs_0f7a4, 1, (some .int))
set_option maxRecDepth 100000 in
theorem mkJ9_abs_0f7a4 : Cond.code yJ9_abs_0f7a4 cJ9_abs_0f7a4 1 (some .int) ∈ gtb := tg4 (i := 87) rfl rfl
set_option maxRecDepth 100000 in
theorem mtJ9_abs_0f7a4 : Cond.static yJ9_abs_0f7a4 ∈ gtb := tg4 (i := 86) rfl rfl
def mJ9_max_7cf53 : Mu := (yJ9_max_7cf53, cJ9_max_7cf53, 2, (some .int))
set_option maxRecDepth 100000 in
theorem mkJ9_max_7cf53 : Cond.code yJ9_max_7cf53 cJ9_max_7cf53 2 (some .int) ∈ gtb := tg4 (i := 23) rfl rfl
set_option maxRecDepth 100000 in
theorem mtJ9_max_7cf53 : Cond.static yJ9_max_7cf53 ∈ gtb := tg4 (i := 22) rfl rfl
def mJ9_min_7cf53 : Mu := (yJ9_min_7cf53, cJ9_min_7cf53, 2, (some .int))
set_option maxRecDepth 100000 in
theorem mkJ9_min_7cf53 : Cond.code yJ9_min_7cf53 cJ9_min_7cf53 2 (some .int) ∈ gtb := tg4 (i := 42) rfl rfl
set_option maxRecDepth 100000 in
theorem mtJ9_min_7cf53 : Cond.static yJ9_min_7cf53 ∈ gtb := tg4 (i := 41) rfl rfl
def mJ0_length_8abf5 : Mu := (yJ0_length_8abf5, cJ0_length_8abf5, 1, (some .int))
set_option maxRecDepth 100000 in
theorem mkJ0_length_8abf5 : Cond.code yJ0_length_8abf5 cJ0_length_8abf5 1 (some .int) ∈ gtb := tg1 (i := 162) rfl rfl
set_option maxRecDepth 100000 in
theorem miJ0_length_8abf5 : Cond.instanceMethod yJ0_length_8abf5 ∈ gtb := tg1 (i := 160) rfl rfl
set_option maxRecDepth 100000 in
theorem msJ0_length_8abf5 : Cond.selects yJ0_length_8abf5.cls yJ0_length_8abf5 yJ0_length_8abf5 ∈ gtb := tg1 (i := 161) rfl rfl
def mJ0_charAt_5068e : Mu := (yJ0_charAt_5068e, cJ0_charAt_5068e, 2, (some .char))
set_option maxRecDepth 100000 in
theorem mkJ0_charAt_5068e : Cond.code yJ0_charAt_5068e cJ0_charAt_5068e 2 (some .char) ∈ gtb := tg1 (i := 172) rfl rfl
set_option maxRecDepth 100000 in
theorem miJ0_charAt_5068e : Cond.instanceMethod yJ0_charAt_5068e ∈ gtb := tg1 (i := 170) rfl rfl
set_option maxRecDepth 100000 in
theorem msJ0_charAt_5068e : Cond.selects yJ0_charAt_5068e.cls yJ0_charAt_5068e yJ0_charAt_5068e ∈ gtb := tg1 (i := 171) rfl rfl
def mJ0_coder_7d493 : Mu := (yJ0_coder_7d493, cJ0_coder_7d493, 1, (some .byte))
set_option maxRecDepth 100000 in
theorem mkJ0_coder_7d493 : Cond.code yJ0_coder_7d493 cJ0_coder_7d493 1 (some .byte) ∈ gtb := tg1 (i := 166) rfl rfl
set_option maxRecDepth 100000 in
theorem miJ0_coder_7d493 : Cond.instanceMethod yJ0_coder_7d493 ∈ gtb := tg1 (i := 164) rfl rfl
set_option maxRecDepth 100000 in
theorem msJ0_coder_7d493 : Cond.selects yJ0_coder_7d493.cls yJ0_coder_7d493 yJ0_coder_7d493 ∈ gtb := tg1 (i := 165) rfl rfl
def mJ0_isLatin1_aae02 : Mu := (yJ0_isLatin1_aae02, cJ0_isLatin1_aae02, 1, (some .boolean))
set_option maxRecDepth 100000 in
theorem mkJ0_isLatin1_aae02 : Cond.code yJ0_isLatin1_aae02 cJ0_isLatin1_aae02 1 (some .boolean) ∈ gtb := tg1 (i := 176) rfl rfl
set_option maxRecDepth 100000 in
theorem miJ0_isLatin1_aae02 : Cond.instanceMethod yJ0_isLatin1_aae02 ∈ gtb := tg1 (i := 174) rfl rfl
set_option maxRecDepth 100000 in
theorem msJ0_isLatin1_aae02 : Cond.selects yJ0_isLatin1_aae02.cls yJ0_isLatin1_aae02 yJ0_isLatin1_aae02 ∈ gtb := tg1 (i := 175) rfl rfl
def mJ0_checkIndex_df160 : Mu := (yJ0_checkIndex_df160, cJ0_checkIndex_df160, 2, none)
set_option maxRecDepth 100000 in
theorem mkJ0_checkIndex_df160 : Cond.code yJ0_checkIndex_df160 cJ0_checkIndex_df160 2 none ∈ gtb := tg1 (i := 182) rfl rfl
set_option maxRecDepth 100000 in
theorem mtJ0_checkIndex_df160 : Cond.static yJ0_checkIndex_df160 ∈ gtb := tg1 (i := 181) rfl rfl
def mJ1_charAt_3b067 : Mu := (yJ1_charAt_3b067, cJ1_charAt_3b067, 2, (some .char))
set_option maxRecDepth 100000 in
theorem mkJ1_charAt_3b067 : Cond.code yJ1_charAt_3b067 cJ1_charAt_3b067 2 (some .char) ∈ gtb := tg1 (i := 179) rfl rfl
set_option maxRecDepth 100000 in
theorem mtJ1_charAt_3b067 : Cond.static yJ1_charAt_3b067 ∈ gtb := tg1 (i := 178) rfl rfl
def mJ2_getChar_3b067 : Mu := (yJ2_getChar_3b067, cJ2_getChar_3b067, 2, (some .char))
set_option maxRecDepth 100000 in
theorem mkJ2_getChar_3b067 : Cond.code yJ2_getChar_3b067 cJ2_getChar_3b067 2 (some .char) ∈ gtb := tg1 (i := 200) rfl rfl
set_option maxRecDepth 100000 in
theorem mtJ2_getChar_3b067 : Cond.static yJ2_getChar_3b067 ∈ gtb := tg1 (i := 199) rfl rfl
def mJ2_length_9d52b : Mu := (yJ2_length_9d52b, cJ2_length_9d52b, 1, (some .int))
set_option maxRecDepth 100000 in
theorem mkJ2_length_9d52b : Cond.code yJ2_length_9d52b cJ2_length_9d52b 1 (some .int) ∈ gtb := tg1 (i := 196) rfl rfl
set_option maxRecDepth 100000 in
theorem mtJ2_length_9d52b : Cond.static yJ2_length_9d52b ∈ gtb := tg1 (i := 195) rfl rfl
def mJ2_charAt_3b067 : Mu := (yJ2_charAt_3b067, cJ2_charAt_3b067, 2, (some .char))
set_option maxRecDepth 100000 in
theorem mkJ2_charAt_3b067 : Cond.code yJ2_charAt_3b067 cJ2_charAt_3b067 2 (some .char) ∈ gtb := tg1 (i := 190) rfl rfl
set_option maxRecDepth 100000 in
theorem mtJ2_charAt_3b067 : Cond.static yJ2_charAt_3b067 ∈ gtb := tg1 (i := 189) rfl rfl
def mJ2_checkIndex_2214a : Mu := (yJ2_checkIndex_2214a, cJ2_checkIndex_2214a, 2, none)
set_option maxRecDepth 100000 in
theorem mkJ2_checkIndex_2214a : Cond.code yJ2_checkIndex_2214a cJ2_checkIndex_2214a 2 none ∈ gtb := tg1 (i := 193) rfl rfl
set_option maxRecDepth 100000 in
theorem mtJ2_checkIndex_2214a : Cond.static yJ2_checkIndex_2214a ∈ gtb := tg1 (i := 192) rfl rfl
def mJ7_fill_53178 : Mu := (yJ7_fill_53178, cJ7_fill_53178, 4, none)
set_option maxRecDepth 100000 in
theorem mkJ7_fill_53178 : Cond.code yJ7_fill_53178 cJ7_fill_53178 4 none ∈ gtb := tg1 (i := 64) rfl rfl
set_option maxRecDepth 100000 in
theorem mtJ7_fill_53178 : Cond.static yJ7_fill_53178 ∈ gtb := tg1 (i := 63) rfl rfl
def mJ3_checkIndex_8e157 : Mu := (yJ3_checkIndex_8e157, cJ3_checkIndex_8e157, 3, (some .int))
set_option maxRecDepth 100000 in
theorem mkJ3_checkIndex_8e157 : Cond.code yJ3_checkIndex_8e157 cJ3_checkIndex_8e157 3 (some .int) ∈ gtb := tg1 (i := 187) rfl rfl
set_option maxRecDepth 100000 in
theorem mtJ3_checkIndex_8e157 : Cond.static yJ3_checkIndex_8e157 ∈ gtb := tg1 (i := 186) rfl rfl
set_option maxRecDepth 100000 in
theorem oX11_1 : Cond.methodLink RX11 1 Lib.objectInit ∈ gtb := tg1 (i := 27) rfl rfl
theorem lX11_9 : CL RX11 9 mX10_init 0 := ⟨Or.inr ⟨RX11, by decide +kernel⟩, iniRX10, mkX10_init, ⟨by decide +kernel, by decide +kernel, by decide +kernel⟩, by decide⟩
set_option maxRecDepth 100000 in
theorem lX11_18 : CL RX11 18 mX0_init 0 := ⟨Or.inl (tg1 (i := 49) rfl rfl), iniRX0, mkX0_init, ⟨by decide +kernel, by decide +kernel, by decide +kernel⟩, by decide⟩
set_option maxRecDepth 100000 in
theorem lX11_28 : CL RX11 28 mX8_init 2 := ⟨Or.inl (tg1 (i := 149) rfl rfl), iniRX8, mkX8_init, ⟨by decide +kernel, by decide +kernel, by decide +kernel⟩, by decide⟩
theorem lX11_37 : CL RX11 37 mX3_init 0 := ⟨Or.inr ⟨RX11, by decide +kernel⟩, iniRX3, mkX3_init, ⟨by decide +kernel, by decide +kernel, by decide +kernel⟩, by decide⟩
theorem lX11_48 : CL RX11 48 mX4_init 0 := ⟨Or.inr ⟨RX11, by decide +kernel⟩, iniRX4, mkX4_init, ⟨by decide +kernel, by decide +kernel, by decide +kernel⟩, by decide⟩
theorem lX11_55 : CL RX11 55 mX2_init 0 := ⟨Or.inr ⟨RX11, by decide +kernel⟩, iniRX2, mkX2_init, ⟨by decide +kernel, by decide +kernel, by decide +kernel⟩, by decide⟩
theorem lX11_62 : CL RX11 62 mX5_init 0 := ⟨Or.inr ⟨RX11, by decide +kernel⟩, iniRX5, mkX5_init, ⟨by decide +kernel, by decide +kernel, by decide +kernel⟩, by decide⟩
theorem lX11_69 : CL RX11 69 mX9_init 0 := ⟨Or.inr ⟨RX11, by decide +kernel⟩, iniRX9, mkX9_init, ⟨by decide +kernel, by decide +kernel, by decide +kernel⟩, by decide⟩
theorem lX11_76 : CL RX11 76 mX7_init 0 := ⟨Or.inr ⟨RX11, by decide +kernel⟩, iniRX7, mkX7_init, ⟨by decide +kernel, by decide +kernel, by decide +kernel⟩, by decide⟩
theorem lX11_83 : CL RX11 83 mX6_init 0 := ⟨Or.inr ⟨RX11, by decide +kernel⟩, iniRX6, mkX6_init, ⟨by decide +kernel, by decide +kernel, by decide +kernel⟩, by decide⟩
set_option maxRecDepth 100000 in
theorem lX11_92 : CL RX11 92 mX10_append 1 := ⟨Or.inl (tg3 (i := 57) rfl rfl), iniRX10, mkX10_append, ⟨by decide +kernel, by decide +kernel, by decide +kernel⟩, by decide⟩
set_option maxRecDepth 100000 in
theorem lX11_96 : CL RX11 96 mX8_readCamp 1 := ⟨Or.inl (tg3 (i := 69) rfl rfl), iniRX8, mkX8_readCamp, ⟨by decide +kernel, by decide +kernel, by decide +kernel⟩, by decide⟩
set_option maxRecDepth 100000 in
theorem lX11_100 : CL RX11 100 mX3_clear 0 := ⟨Or.inl (tg3 (i := 171) rfl rfl), iniRX3, mkX3_clear, ⟨by decide +kernel, by decide +kernel, by decide +kernel⟩, by decide⟩
set_option maxRecDepth 100000 in
theorem lX11_107 : CL RX11 107 mX2_clear 0 := ⟨Or.inl (tg3 (i := 176) rfl rfl), iniRX2, mkX2_clear, ⟨by decide +kernel, by decide +kernel, by decide +kernel⟩, by decide⟩
set_option maxRecDepth 100000 in
theorem lX11_108 : CL RX11 108 mX9_clear 0 := ⟨Or.inl (tg3 (i := 181) rfl rfl), iniRX9, mkX9_clear, ⟨by decide +kernel, by decide +kernel, by decide +kernel⟩, by decide⟩
set_option maxRecDepth 100000 in
theorem lX11_109 : CL RX11 109 mX7_forgetRow 0 := ⟨Or.inl (tg3 (i := 185) rfl rfl), iniRX7, mkX7_forgetRow, ⟨by decide +kernel, by decide +kernel, by decide +kernel⟩, by decide⟩
set_option maxRecDepth 100000 in
theorem lX11_112 : CL RX11 112 mX6_clear 0 := ⟨Or.inl (tg3 (i := 189) rfl rfl), iniRX6, mkX6_clear, ⟨by decide +kernel, by decide +kernel, by decide +kernel⟩, by decide⟩
set_option maxRecDepth 100000 in
theorem lX11_122 : CL RX11 122 mX0_general 1 := ⟨Or.inl (tg3 (i := 201) rfl rfl), iniRX0, mkX0_general, ⟨by decide +kernel, by decide +kernel, by decide +kernel⟩, by decide⟩
set_option maxRecDepth 100000 in
theorem lX11_126 : CL RX11 126 mX0_ofHut 2 := ⟨Or.inl (tg3 (i := 205) rfl rfl), iniRX0, mkX0_ofHut, ⟨by decide +kernel, by decide +kernel, by decide +kernel⟩, by decide⟩
set_option maxRecDepth 100000 in
theorem lX11_130 : CL RX11 130 mX0_ofGarden 2 := ⟨Or.inl (tg3 (i := 209) rfl rfl), iniRX0, mkX0_ofGarden, ⟨by decide +kernel, by decide +kernel, by decide +kernel⟩, by decide⟩
set_option maxRecDepth 100000 in
theorem lX11_140 : CL RX11 140 mX11_isHut 1 := ⟨Or.inl (tg3 (i := 217) rfl rfl), iniRX11, mkX11_isHut, ⟨by decide +kernel, by decide +kernel, by decide +kernel⟩, by decide⟩
set_option maxRecDepth 100000 in
theorem lX11_144 : CL RX11 144 mX0_minutesBetween 2 := ⟨Or.inl (tg3 (i := 221) rfl rfl), iniRX0, mkX0_minutesBetween, ⟨by decide +kernel, by decide +kernel, by decide +kernel⟩, by decide⟩
set_option maxRecDepth 100000 in
theorem lX11_160 : CL RX11 160 mX3_begin 1 := ⟨Or.inl (tg3 (i := 234) rfl rfl), iniRX3, mkX3_begin, ⟨by decide +kernel, by decide +kernel, by decide +kernel⟩, by decide⟩
set_option maxRecDepth 100000 in
theorem lX11_163 : CL RX11 163 mX11_isTunnel 1 := ⟨Or.inl (tg4 (i := 2) rfl rfl), iniRX11, mkX11_isTunnel, ⟨by decide +kernel, by decide +kernel, by decide +kernel⟩, by decide⟩
set_option maxRecDepth 100000 in
theorem lX11_166 : CL RX11 166 mX11_isWithin 3 := ⟨Or.inl (tg4 (i := 6) rfl rfl), iniRX11, mkX11_isWithin, ⟨by decide +kernel, by decide +kernel, by decide +kernel⟩, by decide⟩
set_option maxRecDepth 100000 in
theorem lX11_170 : CL RX11 170 mX3_dig 3 := ⟨Or.inl (tg4 (i := 9) rfl rfl), iniRX3, mkX3_dig, ⟨by decide +kernel, by decide +kernel, by decide +kernel⟩, by decide⟩
set_option maxRecDepth 100000 in
theorem lX11_174 : CL RX11 174 mX3_ofTunnel 3 := ⟨Or.inl (tg4 (i := 55) rfl rfl), iniRX3, mkX3_ofTunnel, ⟨by decide +kernel, by decide +kernel, by decide +kernel⟩, by decide⟩
set_option maxRecDepth 100000 in
theorem lX11_177 : CL RX11 177 mX3_boardsLeft 1 := ⟨Or.inl (tg4 (i := 64) rfl rfl), iniRX3, mkX3_boardsLeft, ⟨by decide +kernel, by decide +kernel, by decide +kernel⟩, by decide⟩
set_option maxRecDepth 100000 in
theorem lX11_184 : CL RX11 184 mX11_isGarden 1 := ⟨Or.inl (tg4 (i := 73) rfl rfl), iniRX11, mkX11_isGarden, ⟨by decide +kernel, by decide +kernel, by decide +kernel⟩, by decide⟩
set_option maxRecDepth 100000 in
theorem lX11_187 : CL RX11 187 mX3_walkOut 4 := ⟨Or.inl (tg4 (i := 77) rfl rfl), iniRX3, mkX3_walkOut, ⟨by decide +kernel, by decide +kernel, by decide +kernel⟩, by decide⟩
set_option maxRecDepth 100000 in
theorem lX11_194 : CL RX11 194 mX3_mostIn 3 := ⟨Or.inl (tg4 (i := 100) rfl rfl), iniRX3, mkX3_mostIn, ⟨by decide +kernel, by decide +kernel, by decide +kernel⟩, by decide⟩
set_option maxRecDepth 100000 in
theorem lX11_198 : CL RX11 198 mX3_fewestDays 2 := ⟨Or.inl (tg4 (i := 122) rfl rfl), iniRX3, mkX3_fewestDays, ⟨by decide +kernel, by decide +kernel, by decide +kernel⟩, by decide⟩
set_option maxRecDepth 100000 in
theorem lX11_202 : CL RX11 202 mX3_copyFrom 1 := ⟨Or.inl (tg4 (i := 131) rfl rfl), iniRX3, mkX3_copyFrom, ⟨by decide +kernel, by decide +kernel, by decide +kernel⟩, by decide⟩
set_option maxRecDepth 100000 in
theorem lX11_206 : CL RX11 206 mX3_allFeet 0 := ⟨Or.inl (tg4 (i := 136) rfl rfl), iniRX3, mkX3_allFeet, ⟨by decide +kernel, by decide +kernel, by decide +kernel⟩, by decide⟩
set_option maxRecDepth 100000 in
theorem lX11_216 : CL RX11 216 mX2_fewestRunners 2 := ⟨Or.inl (tg4 (i := 152) rfl rfl), iniRX2, mkX2_fewestRunners, ⟨by decide +kernel, by decide +kernel, by decide +kernel⟩, by decide⟩
set_option maxRecDepth 100000 in
theorem lX11_219 : CL RX11 219 mX2_wrongOrders 2 := ⟨Or.inl (tg4 (i := 180) rfl rfl), iniRX2, mkX2_wrongOrders, ⟨by decide +kernel, by decide +kernel, by decide +kernel⟩, by decide⟩
set_option maxRecDepth 100000 in
theorem lX11_222 : CL RX11 222 mX11_areLooks 1 := ⟨Or.inl (tg4 (i := 192) rfl rfl), iniRX11, mkX11_areLooks, ⟨by decide +kernel, by decide +kernel, by decide +kernel⟩, by decide⟩
set_option maxRecDepth 100000 in
theorem lX11_225 : CL RX11 225 mX5_reckon 2 := ⟨Or.inl (tg4 (i := 196) rfl rfl), iniRX5, mkX5_reckon, ⟨by decide +kernel, by decide +kernel, by decide +kernel⟩, by decide⟩
set_option maxRecDepth 100000 in
theorem lX11_232 : CL RX11 232 mX0_shiftsFor 2 := ⟨Or.inl (tg4 (i := 205) rfl rfl), iniRX0, mkX0_shiftsFor, ⟨by decide +kernel, by decide +kernel, by decide +kernel⟩, by decide⟩
set_option maxRecDepth 100000 in
theorem lX11_235 : CL RX11 235 mX5_divide 3 := ⟨Or.inl (tg4 (i := 214) rfl rfl), iniRX5, mkX5_divide, ⟨by decide +kernel, by decide +kernel, by decide +kernel⟩, by decide⟩
set_option maxRecDepth 100000 in
theorem lX11_248 : CL RX11 248 mX9_mayTellAt 1 := ⟨Or.inl (tg4 (i := 232) rfl rfl), iniRX9, mkX9_mayTellAt, ⟨by decide +kernel, by decide +kernel, by decide +kernel⟩, by decide⟩
set_option maxRecDepth 100000 in
theorem lX11_251 : CL RX11 251 mX9_add 4 := ⟨Or.inl (tg4 (i := 239) rfl rfl), iniRX9, mkX9_add, ⟨by decide +kernel, by decide +kernel, by decide +kernel⟩, by decide⟩
set_option maxRecDepth 100000 in
theorem lX11_258 : CL RX11 258 mX9_correct 3 := ⟨Or.inl (tg5 (i := 7) rfl rfl), iniRX9, mkX9_correct, ⟨by decide +kernel, by decide +kernel, by decide +kernel⟩, by decide⟩
set_option maxRecDepth 100000 in
theorem lX11_262 : CL RX11 262 mX11_isStep 1 := ⟨Or.inl (tg5 (i := 15) rfl rfl), iniRX11, mkX11_isStep, ⟨by decide +kernel, by decide +kernel, by decide +kernel⟩, by decide⟩
set_option maxRecDepth 100000 in
theorem lX11_266 : CL RX11 266 mX9_offBy 1 := ⟨Or.inl (tg5 (i := 17) rfl rfl), iniRX9, mkX9_offBy, ⟨by decide +kernel, by decide +kernel, by decide +kernel⟩, by decide⟩
set_option maxRecDepth 100000 in
theorem lX11_269 : CL RX11 269 mX9_along 1 := ⟨Or.inl (tg5 (i := 21) rfl rfl), iniRX9, mkX9_along, ⟨by decide +kernel, by decide +kernel, by decide +kernel⟩, by decide⟩
set_option maxRecDepth 100000 in
theorem lX11_272 : CL RX11 272 mX9_toward 1 := ⟨Or.inl (tg5 (i := 35) rfl rfl), iniRX9, mkX9_toward, ⟨by decide +kernel, by decide +kernel, by decide +kernel⟩, by decide⟩
set_option maxRecDepth 100000 in
theorem lX11_275 : CL RX11 275 mX9_comesUp 3 := ⟨Or.inl (tg5 (i := 45) rfl rfl), iniRX9, mkX9_comesUp, ⟨by decide +kernel, by decide +kernel, by decide +kernel⟩, by decide⟩
set_option maxRecDepth 100000 in
theorem lX11_278 : CL RX11 278 mX7_addPerson 1 := ⟨Or.inl (tg5 (i := 56) rfl rfl), iniRX7, mkX7_addPerson, ⟨by decide +kernel, by decide +kernel, by decide +kernel⟩, by decide⟩
set_option maxRecDepth 100000 in
theorem lX11_281 : CL RX11 281 mX7_meetsRound 2 := ⟨Or.inl (tg5 (i := 64) rfl rfl), iniRX7, mkX7_meetsRound, ⟨by decide +kernel, by decide +kernel, by decide +kernel⟩, by decide⟩
set_option maxRecDepth 100000 in
theorem lX11_285 : CL RX11 285 mX7_addRound 2 := ⟨Or.inl (tg5 (i := 72) rfl rfl), iniRX7, mkX7_addRound, ⟨by decide +kernel, by decide +kernel, by decide +kernel⟩, by decide⟩
set_option maxRecDepth 100000 in
theorem lX11_294 : CL RX11 294 mX7_lastOut 1 := ⟨Or.inl (tg5 (i := 84) rfl rfl), iniRX7, mkX7_lastOut, ⟨by decide +kernel, by decide +kernel, by decide +kernel⟩, by decide⟩
set_option maxRecDepth 100000 in
theorem lX11_298 : CL RX11 298 mX7_findBest 1 := ⟨Or.inl (tg5 (i := 97) rfl rfl), iniRX7, mkX7_findBest, ⟨by decide +kernel, by decide +kernel, by decide +kernel⟩, by decide⟩
set_option maxRecDepth 100000 in
theorem lX11_310 : CL RX11 310 mJ6_bitCount_0f7a4 1 := ⟨Or.inl (tg5 (i := 141) rfl rfl), iniRJ6, mkJ6_bitCount_0f7a4, ⟨by decide +kernel, by decide +kernel, by decide +kernel⟩, by decide⟩
set_option maxRecDepth 100000 in
theorem lX11_315 : CL RX11 315 mX6_begin 2 := ⟨Or.inl (tg5 (i := 142) rfl rfl), iniRX6, mkX6_begin, ⟨by decide +kernel, by decide +kernel, by decide +kernel⟩, by decide⟩
set_option maxRecDepth 100000 in
theorem lX11_318 : CL RX11 318 mX6_drawFrom 2 := ⟨Or.inl (tg5 (i := 146) rfl rfl), iniRX6, mkX6_drawFrom, ⟨by decide +kernel, by decide +kernel, by decide +kernel⟩, by decide⟩
set_option maxRecDepth 100000 in
theorem lX11_325 : CL RX11 325 mX0_setting 1 := ⟨Or.inl (tg5 (i := 167) rfl rfl), iniRX0, mkX0_setting, ⟨by decide +kernel, by decide +kernel, by decide +kernel⟩, by decide⟩
set_option maxRecDepth 100000 in
theorem lX11_328 : CL RX11 328 mX0_bestCrossing 2 := ⟨Or.inl (tg5 (i := 168) rfl rfl), iniRX0, mkX0_bestCrossing, ⟨by decide +kernel, by decide +kernel, by decide +kernel⟩, by decide⟩
set_option maxRecDepth 100000 in
theorem lX11_331 : CL RX11 331 mX0_metFrom 3 := ⟨Or.inl (tg5 (i := 177) rfl rfl), iniRX0, mkX0_metFrom, ⟨by decide +kernel, by decide +kernel, by decide +kernel⟩, by decide⟩
set_option maxRecDepth 100000 in
theorem lX11_337 : CL RX11 337 mX2_allMissing 0 := ⟨Or.inl (tg5 (i := 182) rfl rfl), iniRX2, mkX2_allMissing, ⟨by decide +kernel, by decide +kernel, by decide +kernel⟩, by decide⟩
set_option maxRecDepth 100000 in
theorem oX0_3 : Cond.methodLink RX0 3 Lib.objectInit ∈ gtb := tg1 (i := 52) rfl rfl
set_option maxRecDepth 100000 in
theorem lX0_59 : CL RX0 59 mX0_clear 0 := ⟨Or.inl (tg1 (i := 55) rfl rfl), iniRX0, mkX0_clear, ⟨by decide +kernel, by decide +kernel, by decide +kernel⟩, by decide⟩
set_option maxRecDepth 100000 in
theorem aX0_62 : Cond.methodLink RX0 62 arraycopyName ∈ gtb := tg1 (i := 59) rfl rfl
set_option maxRecDepth 100000 in
theorem lX0_68 : CL RX0 68 mJ7_fill_53178 2 := ⟨Or.inl (tg1 (i := 62) rfl rfl), iniRJ7, mkJ7_fill_53178, ⟨by decide +kernel, by decide +kernel, by decide +kernel⟩, by decide⟩
set_option maxRecDepth 100000 in
theorem lX0_87 : CL RX0 87 mX0_hasRun 2 := ⟨Or.inl (tg3 (i := 225) rfl rfl), iniRX0, mkX0_hasRun, ⟨by decide +kernel, by decide +kernel, by decide +kernel⟩, by decide⟩
set_option maxRecDepth 100000 in
theorem lX0_91 : CL RX0 91 mJ9_max_7cf53 2 := ⟨Or.inl (tg4 (i := 21) rfl rfl), iniRJ9, mkJ9_max_7cf53, ⟨by decide +kernel, by decide +kernel, by decide +kernel⟩, by decide⟩
set_option maxRecDepth 100000 in
theorem lX0_97 : CL RX0 97 mJ9_abs_0f7a4 1 := ⟨Or.inl (tg4 (i := 85) rfl rfl), iniRJ9, mkJ9_abs_0f7a4, ⟨by decide +kernel, by decide +kernel, by decide +kernel⟩, by decide⟩
set_option maxRecDepth 100000 in
theorem lX0_101 : CL RX0 101 mX0_pumpMen 1 := ⟨Or.inl (tg4 (i := 17) rfl rfl), iniRX0, mkX0_pumpMen, ⟨by decide +kernel, by decide +kernel, by decide +kernel⟩, by decide⟩
set_option maxRecDepth 100000 in
theorem lX0_104 : CL RX0 104 mX0_tenthsDug 2 := ⟨Or.inl (tg4 (i := 209) rfl rfl), iniRX0, mkX0_tenthsDug, ⟨by decide +kernel, by decide +kernel, by decide +kernel⟩, by decide⟩
set_option maxRecDepth 100000 in
theorem lX0_107 : CL RX0 107 mX0_metFrom 3 := ⟨Or.inl (tg5 (i := 172) rfl rfl), iniRX0, mkX0_metFrom, ⟨by decide +kernel, by decide +kernel, by decide +kernel⟩, by decide⟩
set_option maxRecDepth 100000 in
theorem lX0_111 : CL RX0 111 mJ9_min_7cf53 2 := ⟨Or.inl (tg5 (i := 176) rfl rfl), iniRJ9, mkJ9_min_7cf53, ⟨by decide +kernel, by decide +kernel, by decide +kernel⟩, by decide⟩
set_option maxRecDepth 100000 in
theorem oX1_1 : Cond.methodLink RX1 1 Lib.objectInit ∈ gtb := tg2 (i := 37) rfl rfl
set_option maxRecDepth 100000 in
theorem oX2_3 : Cond.methodLink RX2 3 Lib.objectInit ∈ gtb := tg2 (i := 111) rfl rfl
set_option maxRecDepth 100000 in
theorem lX2_24 : CL RX2 24 mJ7_fill_53178 2 := ⟨Or.inl (tg3 (i := 180) rfl rfl), iniRJ7, mkJ7_fill_53178, ⟨by decide +kernel, by decide +kernel, by decide +kernel⟩, by decide⟩
set_option maxRecDepth 100000 in
theorem lX2_39 : CL RX2 39 mX2_missingAtCounts 1 := ⟨Or.inl (tg4 (i := 156) rfl rfl), iniRX2, mkX2_missingAtCounts, ⟨by decide +kernel, by decide +kernel, by decide +kernel⟩, by decide⟩
set_option maxRecDepth 100000 in
theorem aX2_43 : Cond.methodLink RX2 43 arraycopyName ∈ gtb := tg4 (i := 160) rfl rfl
set_option maxRecDepth 100000 in
theorem lX2_49 : CL RX2 49 mX2_canBeRight 3 := ⟨Or.inl (tg4 (i := 161) rfl rfl), iniRX2, mkX2_canBeRight, ⟨by decide +kernel, by decide +kernel, by decide +kernel⟩, by decide⟩
set_option maxRecDepth 100000 in
theorem lX2_61 : CL RX2 61 mX4_greatest 0 := ⟨Or.inl (tg4 (i := 175) rfl rfl), iniRX4, mkX4_greatest, ⟨by decide +kernel, by decide +kernel, by decide +kernel⟩, by decide⟩
set_option maxRecDepth 100000 in
theorem lX2_65 : CL RX2 65 mX4_clear 0 := ⟨Or.inl (tg4 (i := 165) rfl rfl), iniRX4, mkX4_clear, ⟨by decide +kernel, by decide +kernel, by decide +kernel⟩, by decide⟩
set_option maxRecDepth 100000 in
theorem lX2_74 : CL RX2 74 mX2_waysFrom 2 := ⟨Or.inl (tg4 (i := 166) rfl rfl), iniRX2, mkX2_waysFrom, ⟨by decide +kernel, by decide +kernel, by decide +kernel⟩, by decide⟩
set_option maxRecDepth 100000 in
theorem lX2_78 : CL RX2 78 mX2_isLater 2 := ⟨Or.inl (tg4 (i := 170) rfl rfl), iniRX2, mkX2_isLater, ⟨by decide +kernel, by decide +kernel, by decide +kernel⟩, by decide⟩
set_option maxRecDepth 100000 in
theorem lX2_82 : CL RX2 82 mX0_minutesBetween 2 := ⟨Or.inl (tg4 (i := 174) rfl rfl), iniRX0, mkX0_minutesBetween, ⟨by decide +kernel, by decide +kernel, by decide +kernel⟩, by decide⟩
set_option maxRecDepth 100000 in
theorem lX2_86 : CL RX2 86 mX2_giveMinutes 3 := ⟨Or.inl (tg4 (i := 184) rfl rfl), iniRX2, mkX2_giveMinutes, ⟨by decide +kernel, by decide +kernel, by decide +kernel⟩, by decide⟩
set_option maxRecDepth 100000 in
theorem oX3_3 : Cond.methodLink RX3 3 Lib.objectInit ∈ gtb := tg2 (i := 31) rfl rfl
theorem lX3_35 : CL RX3 35 mX1_init 0 := ⟨Or.inr ⟨RX11, by decide +kernel⟩, iniRX1, mkX1_init, ⟨by decide +kernel, by decide +kernel, by decide +kernel⟩, by decide⟩
set_option maxRecDepth 100000 in
theorem lX3_47 : CL RX3 47 mJ7_fill_53178 2 := ⟨Or.inl (tg3 (i := 175) rfl rfl), iniRJ7, mkJ7_fill_53178, ⟨by decide +kernel, by decide +kernel, by decide +kernel⟩, by decide⟩
set_option maxRecDepth 100000 in
theorem aX3_53 : Cond.methodLink RX3 53 arraycopyName ∈ gtb := tg4 (i := 135) rfl rfl
set_option maxRecDepth 100000 in
theorem lX3_63 : CL RX3 63 mX0_tenthsDug 2 := ⟨Or.inl (tg4 (i := 13) rfl rfl), iniRX0, mkX0_tenthsDug, ⟨by decide +kernel, by decide +kernel, by decide +kernel⟩, by decide⟩
set_option maxRecDepth 100000 in
theorem lX3_69 : CL RX3 69 mX3_boarded 2 := ⟨Or.inl (tg4 (i := 24) rfl rfl), iniRX3, mkX3_boarded, ⟨by decide +kernel, by decide +kernel, by decide +kernel⟩, by decide⟩
set_option maxRecDepth 100000 in
theorem lX3_73 : CL RX3 73 mX0_setting 1 := ⟨Or.inl (tg4 (i := 28) rfl rfl), iniRX0, mkX0_setting, ⟨by decide +kernel, by decide +kernel, by decide +kernel⟩, by decide⟩
set_option maxRecDepth 100000 in
theorem lX3_77 : CL RX3 77 mX1_draw 1 := ⟨Or.inl (tg4 (i := 43) rfl rfl), iniRX1, mkX1_draw, ⟨by decide +kernel, by decide +kernel, by decide +kernel⟩, by decide⟩
set_option maxRecDepth 100000 in
theorem lX3_80 : CL RX3 80 mX3_boardsLeft 1 := ⟨Or.inl (tg4 (i := 32) rfl rfl), iniRX3, mkX3_boardsLeft, ⟨by decide +kernel, by decide +kernel, by decide +kernel⟩, by decide⟩
set_option maxRecDepth 100000 in
theorem lX3_84 : CL RX3 84 mJ9_min_7cf53 2 := ⟨Or.inl (tg4 (i := 40) rfl rfl), iniRJ9, mkJ9_min_7cf53, ⟨by decide +kernel, by decide +kernel, by decide +kernel⟩, by decide⟩
set_option maxRecDepth 100000 in
theorem lX3_89 : CL RX3 89 mX0_allBoards 0 := ⟨Or.inl (tg4 (i := 36) rfl rfl), iniRX0, mkX0_allBoards, ⟨by decide +kernel, by decide +kernel, by decide +kernel⟩, by decide⟩
set_option maxRecDepth 100000 in
theorem lX3_93 : CL RX3 93 mX0_pumpMen 1 := ⟨Or.inl (tg4 (i := 59) rfl rfl), iniRX0, mkX0_pumpMen, ⟨by decide +kernel, by decide +kernel, by decide +kernel⟩, by decide⟩
set_option maxRecDepth 100000 in
theorem lX3_96 : CL RX3 96 mX0_isInReach 2 := ⟨Or.inl (tg4 (i := 81) rfl rfl), iniRX0, mkX0_isInReach, ⟨by decide +kernel, by decide +kernel, by decide +kernel⟩, by decide⟩
set_option maxRecDepth 100000 in
theorem lX3_100 : CL RX3 100 mX3_roomLeft 2 := ⟨Or.inl (tg4 (i := 88) rfl rfl), iniRX3, mkX3_roomLeft, ⟨by decide +kernel, by decide +kernel, by decide +kernel⟩, by decide⟩
set_option maxRecDepth 100000 in
theorem lX3_106 : CL RX3 106 mX4_clear 0 := ⟨Or.inl (tg4 (i := 104) rfl rfl), iniRX4, mkX4_clear, ⟨by decide +kernel, by decide +kernel, by decide +kernel⟩, by decide⟩
set_option maxRecDepth 100000 in
theorem lX3_132 : CL RX3 132 mX4_greatest 0 := ⟨Or.inl (tg4 (i := 109) rfl rfl), iniRX4, mkX4_greatest, ⟨by decide +kernel, by decide +kernel, by decide +kernel⟩, by decide⟩
set_option maxRecDepth 100000 in
theorem lX3_135 : CL RX3 135 mX3_mostIn 3 := ⟨Or.inl (tg4 (i := 126) rfl rfl), iniRX3, mkX3_mostIn, ⟨by decide +kernel, by decide +kernel, by decide +kernel⟩, by decide⟩
set_option maxRecDepth 100000 in
theorem oX4_3 : Cond.methodLink RX4 3 Lib.objectInit ∈ gtb := tg2 (i := 89) rfl rfl
set_option maxRecDepth 100000 in
theorem lX4_21 : CL RX4 21 mJ7_fill_53178 2 := ⟨Or.inl (tg4 (i := 108) rfl rfl), iniRJ7, mkJ7_fill_53178, ⟨by decide +kernel, by decide +kernel, by decide +kernel⟩, by decide⟩
set_option maxRecDepth 100000 in
theorem lX4_27 : CL RX4 27 mX4_cutBehind 1 := ⟨Or.inl (tg4 (i := 113) rfl rfl), iniRX4, mkX4_cutBehind, ⟨by decide +kernel, by decide +kernel, by decide +kernel⟩, by decide⟩
set_option maxRecDepth 100000 in
theorem lX4_31 : CL RX4 31 mJ9_min_7cf53 2 := ⟨Or.inl (tg4 (i := 117) rfl rfl), iniRJ9, mkJ9_min_7cf53, ⟨by decide +kernel, by decide +kernel, by decide +kernel⟩, by decide⟩
set_option maxRecDepth 100000 in
theorem oX5_3 : Cond.methodLink RX5 3 Lib.objectInit ∈ gtb := tg2 (i := 131) rfl rfl
set_option maxRecDepth 100000 in
theorem lX5_31 : CL RX5 31 mX5_keptUntilDug 3 := ⟨Or.inl (tg4 (i := 218) rfl rfl), iniRX5, mkX5_keptUntilDug, ⟨by decide +kernel, by decide +kernel, by decide +kernel⟩, by decide⟩
set_option maxRecDepth 100000 in
theorem lX5_37 : CL RX5 37 mX0_shiftsFor 2 := ⟨Or.inl (tg4 (i := 222) rfl rfl), iniRX0, mkX0_shiftsFor, ⟨by decide +kernel, by decide +kernel, by decide +kernel⟩, by decide⟩
set_option maxRecDepth 100000 in
theorem oX6_1 : Cond.methodLink RX6 1 Lib.objectInit ∈ gtb := tg2 (i := 238) rfl rfl
theorem lX6_15 : CL RX6 15 mX1_init 0 := ⟨Or.inr ⟨RX11, by decide +kernel⟩, iniRX1, mkX1_init, ⟨by decide +kernel, by decide +kernel, by decide +kernel⟩, by decide⟩
set_option maxRecDepth 100000 in
theorem lX6_31 : CL RX6 31 mJ6_bitCount_0f7a4 1 := ⟨Or.inl (tg5 (i := 150) rfl rfl), iniRJ6, mkJ6_bitCount_0f7a4, ⟨by decide +kernel, by decide +kernel, by decide +kernel⟩, by decide⟩
set_option maxRecDepth 100000 in
theorem lX6_37 : CL RX6 37 mX1_draw 1 := ⟨Or.inl (tg5 (i := 151) rfl rfl), iniRX1, mkX1_draw, ⟨by decide +kernel, by decide +kernel, by decide +kernel⟩, by decide⟩
set_option maxRecDepth 100000 in
theorem lX6_40 : CL RX6 40 mX6_memberOf 2 := ⟨Or.inl (tg5 (i := 152) rfl rfl), iniRX6, mkX6_memberOf, ⟨by decide +kernel, by decide +kernel, by decide +kernel⟩, by decide⟩
set_option maxRecDepth 100000 in
theorem lX6_44 : CL RX6 44 mJ6_numberOfTrailingZeros_0f7a4 1 := ⟨Or.inl (tg5 (i := 155) rfl rfl), iniRJ6, mkJ6_numberOfTrailingZeros_0f7a4, ⟨by decide +kernel, by decide +kernel, by decide +kernel⟩, by decide⟩
set_option maxRecDepth 100000 in
theorem oX7_3 : Cond.methodLink RX7 3 Lib.objectInit ∈ gtb := tg2 (i := 196) rfl rfl
set_option maxRecDepth 100000 in
theorem lX7_40 : CL RX7 40 mX7_roundMet 2 := ⟨Or.inl (tg5 (i := 68) rfl rfl), iniRX7, mkX7_roundMet, ⟨by decide +kernel, by decide +kernel, by decide +kernel⟩, by decide⟩
set_option maxRecDepth 100000 in
theorem lX7_52 : CL RX7 52 mX10_at 1 := ⟨Or.inl (tg5 (i := 88) rfl rfl), iniRX10, mkX10_at, ⟨by decide +kernel, by decide +kernel, by decide +kernel⟩, by decide⟩
set_option maxRecDepth 100000 in
theorem lX7_56 : CL RX7 56 mX7_outFrom 2 := ⟨Or.inl (tg5 (i := 89) rfl rfl), iniRX7, mkX7_outFrom, ⟨by decide +kernel, by decide +kernel, by decide +kernel⟩, by decide⟩
set_option maxRecDepth 100000 in
theorem lX7_59 : CL RX7 59 mX7_reckonEarliest 0 := ⟨Or.inl (tg5 (i := 101) rfl rfl), iniRX7, mkX7_reckonEarliest, ⟨by decide +kernel, by decide +kernel, by decide +kernel⟩, by decide⟩
set_option maxRecDepth 100000 in
theorem lX7_62 : CL RX7 62 mJ6_bitCount_0f7a4 1 := ⟨Or.inl (tg5 (i := 106) rfl rfl), iniRJ6, mkJ6_bitCount_0f7a4, ⟨by decide +kernel, by decide +kernel, by decide +kernel⟩, by decide⟩
set_option maxRecDepth 100000 in
theorem lX7_67 : CL RX7 67 mX7_reckonLatest 1 := ⟨Or.inl (tg5 (i := 112) rfl rfl), iniRX7, mkX7_reckonLatest, ⟨by decide +kernel, by decide +kernel, by decide +kernel⟩, by decide⟩
set_option maxRecDepth 100000 in
theorem lX7_71 : CL RX7 71 mX7_fillRow 1 := ⟨Or.inl (tg5 (i := 121) rfl rfl), iniRX7, mkX7_fillRow, ⟨by decide +kernel, by decide +kernel, by decide +kernel⟩, by decide⟩
set_option maxRecDepth 100000 in
theorem lX7_74 : CL RX7 74 mJ9_min_7cf53 2 := ⟨Or.inl (tg5 (i := 105) rfl rfl), iniRJ9, mkJ9_min_7cf53, ⟨by decide +kernel, by decide +kernel, by decide +kernel⟩, by decide⟩
set_option maxRecDepth 100000 in
theorem lX7_79 : CL RX7 79 mX7_beginBefore 2 := ⟨Or.inl (tg5 (i := 116) rfl rfl), iniRX7, mkX7_beginBefore, ⟨by decide +kernel, by decide +kernel, by decide +kernel⟩, by decide⟩
set_option maxRecDepth 100000 in
theorem lX7_82 : CL RX7 82 mJ9_max_7cf53 2 := ⟨Or.inl (tg5 (i := 120) rfl rfl), iniRJ9, mkJ9_max_7cf53, ⟨by decide +kernel, by decide +kernel, by decide +kernel⟩, by decide⟩
set_option maxRecDepth 100000 in
theorem lX7_85 : CL RX7 85 mX7_leastNext 3 := ⟨Or.inl (tg5 (i := 125) rfl rfl), iniRX7, mkX7_leastNext, ⟨by decide +kernel, by decide +kernel, by decide +kernel⟩, by decide⟩
set_option maxRecDepth 100000 in
theorem lX7_89 : CL RX7 89 mX7_canFollow 3 := ⟨Or.inl (tg5 (i := 129) rfl rfl), iniRX7, mkX7_canFollow, ⟨by decide +kernel, by decide +kernel, by decide +kernel⟩, by decide⟩
set_option maxRecDepth 100000 in
theorem oX8_3 : Cond.methodLink RX8 3 Lib.objectInit ∈ gtb := tg1 (i := 152) rfl rfl
set_option maxRecDepth 100000 in
theorem lX8_34 : CL RX8 34 mX8_keywordCode 1 := ⟨Or.inl (tg1 (i := 155) rfl rfl), iniRX8, mkX8_keywordCode, ⟨by decide +kernel, by decide +kernel, by decide +kernel⟩, by decide⟩
set_option maxRecDepth 100000 in
theorem lX8_40 : CL RX8 40 mJ0_length_8abf5 0 := ⟨Or.inl (tg1 (i := 159) rfl rfl), iniRJ0, mkJ0_length_8abf5, ⟨by decide +kernel, by decide +kernel, by decide +kernel⟩, by decide⟩
set_option maxRecDepth 100000 in
theorem lX8_46 : CL RX8 46 mJ0_charAt_5068e 1 := ⟨Or.inl (tg1 (i := 169) rfl rfl), iniRJ0, mkJ0_charAt_5068e, ⟨by decide +kernel, by decide +kernel, by decide +kernel⟩, by decide⟩
set_option maxRecDepth 100000 in
theorem lX8_50 : CL RX8 50 mX8_isLetter 1 := ⟨Or.inl (tg1 (i := 207) rfl rfl), iniRX8, mkX8_isLetter, ⟨by decide +kernel, by decide +kernel, by decide +kernel⟩, by decide⟩
set_option maxRecDepth 100000 in
theorem lX8_54 : CL RX8 54 mX8_withLetter 2 := ⟨Or.inl (tg1 (i := 210) rfl rfl), iniRX8, mkX8_withLetter, ⟨by decide +kernel, by decide +kernel, by decide +kernel⟩, by decide⟩
set_option maxRecDepth 100000 in
theorem lX8_60 : CL RX8 60 mX0_clear 0 := ⟨Or.inl (tg3 (i := 73) rfl rfl), iniRX0, mkX0_clear, ⟨by decide +kernel, by decide +kernel, by decide +kernel⟩, by decide⟩
set_option maxRecDepth 100000 in
theorem lX8_77 : CL RX8 77 mX8_readToken 0 := ⟨Or.inl (tg3 (i := 74) rfl rfl), iniRX8, mkX8_readToken, ⟨by decide +kernel, by decide +kernel, by decide +kernel⟩, by decide⟩
set_option maxRecDepth 100000 in
theorem lX8_83 : CL RX8 83 mX8_acceptToken 0 := ⟨Or.inl (tg3 (i := 97) rfl rfl), iniRX8, mkX8_acceptToken, ⟨by decide +kernel, by decide +kernel, by decide +kernel⟩, by decide⟩
set_option maxRecDepth 100000 in
theorem lX8_89 : CL RX8 89 mX8_skipBlanks 0 := ⟨Or.inl (tg3 (i := 78) rfl rfl), iniRX8, mkX8_skipBlanks, ⟨by decide +kernel, by decide +kernel, by decide +kernel⟩, by decide⟩
set_option maxRecDepth 100000 in
theorem lX8_92 : CL RX8 92 mX10_at 1 := ⟨Or.inl (tg3 (i := 82) rfl rfl), iniRX10, mkX10_at, ⟨by decide +kernel, by decide +kernel, by decide +kernel⟩, by decide⟩
set_option maxRecDepth 100000 in
theorem lX8_97 : CL RX8 97 mX8_readWord 0 := ⟨Or.inl (tg3 (i := 86) rfl rfl), iniRX8, mkX8_readWord, ⟨by decide +kernel, by decide +kernel, by decide +kernel⟩, by decide⟩
set_option maxRecDepth 100000 in
theorem lX8_100 : CL RX8 100 mX8_isDigit 1 := ⟨Or.inl (tg3 (i := 90) rfl rfl), iniRX8, mkX8_isDigit, ⟨by decide +kernel, by decide +kernel, by decide +kernel⟩, by decide⟩
set_option maxRecDepth 100000 in
theorem lX8_103 : CL RX8 103 mX8_readNumber 0 := ⟨Or.inl (tg3 (i := 93) rfl rfl), iniRX8, mkX8_readNumber, ⟨by decide +kernel, by decide +kernel, by decide +kernel⟩, by decide⟩
set_option maxRecDepth 100000 in
theorem lX8_115 : CL RX8 115 mX8_acceptKeyword 0 := ⟨Or.inl (tg3 (i := 101) rfl rfl), iniRX8, mkX8_acceptKeyword, ⟨by decide +kernel, by decide +kernel, by decide +kernel⟩, by decide⟩
set_option maxRecDepth 100000 in
theorem lX8_118 : CL RX8 118 mX8_acceptName 0 := ⟨Or.inl (tg3 (i := 119) rfl rfl), iniRX8, mkX8_acceptName, ⟨by decide +kernel, by decide +kernel, by decide +kernel⟩, by decide⟩
set_option maxRecDepth 100000 in
theorem lX8_124 : CL RX8 124 mX8_acceptNumber 1 := ⟨Or.inl (tg3 (i := 137) rfl rfl), iniRX8, mkX8_acceptNumber, ⟨by decide +kernel, by decide +kernel, by decide +kernel⟩, by decide⟩
set_option maxRecDepth 100000 in
theorem lX8_127 : CL RX8 127 mX8_applyClause 0 := ⟨Or.inl (tg3 (i := 147) rfl rfl), iniRX8, mkX8_applyClause, ⟨by decide +kernel, by decide +kernel, by decide +kernel⟩, by decide⟩
set_option maxRecDepth 100000 in
theorem lX8_130 : CL RX8 130 mX0_indexOf 3 := ⟨Or.inl (tg3 (i := 105) rfl rfl), iniRX0, mkX0_indexOf, ⟨by decide +kernel, by decide +kernel, by decide +kernel⟩, by decide⟩
set_option maxRecDepth 100000 in
theorem lX8_134 : CL RX8 134 mX8_settingOf 1 := ⟨Or.inl (tg3 (i := 108) rfl rfl), iniRX8, mkX8_settingOf, ⟨by decide +kernel, by decide +kernel, by decide +kernel⟩, by decide⟩
set_option maxRecDepth 100000 in
theorem lX8_137 : CL RX8 137 mX0_wasSet 1 := ⟨Or.inl (tg3 (i := 111) rfl rfl), iniRX0, mkX0_wasSet, ⟨by decide +kernel, by decide +kernel, by decide +kernel⟩, by decide⟩
set_option maxRecDepth 100000 in
theorem lX8_140 : CL RX8 140 mX8_hasRoom 0 := ⟨Or.inl (tg3 (i := 115) rfl rfl), iniRX8, mkX8_hasRoom, ⟨by decide +kernel, by decide +kernel, by decide +kernel⟩, by decide⟩
set_option maxRecDepth 100000 in
theorem lX8_156 : CL RX8 156 mX8_acceptNewName 2 := ⟨Or.inl (tg3 (i := 123) rfl rfl), iniRX8, mkX8_acceptNewName, ⟨by decide +kernel, by decide +kernel, by decide +kernel⟩, by decide⟩
set_option maxRecDepth 100000 in
theorem lX8_166 : CL RX8 166 mX8_acceptHutName 0 := ⟨Or.inl (tg3 (i := 127) rfl rfl), iniRX8, mkX8_acceptHutName, ⟨by decide +kernel, by decide +kernel, by decide +kernel⟩, by decide⟩
set_option maxRecDepth 100000 in
theorem lX8_181 : CL RX8 181 mX0_hasRun 2 := ⟨Or.inl (tg3 (i := 131) rfl rfl), iniRX0, mkX0_hasRun, ⟨by decide +kernel, by decide +kernel, by decide +kernel⟩, by decide⟩
set_option maxRecDepth 100000 in
theorem lX8_197 : CL RX8 197 mX0_addHut 4 := ⟨Or.inl (tg3 (i := 151) rfl rfl), iniRX0, mkX0_addHut, ⟨by decide +kernel, by decide +kernel, by decide +kernel⟩, by decide⟩
set_option maxRecDepth 100000 in
theorem lX8_201 : CL RX8 201 mX0_addGarden 4 := ⟨Or.inl (tg3 (i := 155) rfl rfl), iniRX0, mkX0_addGarden, ⟨by decide +kernel, by decide +kernel, by decide +kernel⟩, by decide⟩
set_option maxRecDepth 100000 in
theorem lX8_204 : CL RX8 204 mX0_tellRun 3 := ⟨Or.inl (tg3 (i := 159) rfl rfl), iniRX0, mkX0_tellRun, ⟨by decide +kernel, by decide +kernel, by decide +kernel⟩, by decide⟩
set_option maxRecDepth 100000 in
theorem lX8_208 : CL RX8 208 mX0_addLook 2 := ⟨Or.inl (tg3 (i := 163) rfl rfl), iniRX0, mkX0_addLook, ⟨by decide +kernel, by decide +kernel, by decide +kernel⟩, by decide⟩
set_option maxRecDepth 100000 in
theorem lX8_212 : CL RX8 212 mX0_tellSetting 2 := ⟨Or.inl (tg3 (i := 167) rfl rfl), iniRX0, mkX0_tellSetting, ⟨by decide +kernel, by decide +kernel, by decide +kernel⟩, by decide⟩
set_option maxRecDepth 100000 in
theorem oX9_3 : Cond.methodLink RX9 3 Lib.objectInit ∈ gtb := tg2 (i := 150) rfl rfl
theorem lX9_49 : CL RX9 49 mX11_isStep 1 := ⟨Or.inr ⟨RX11, by decide +kernel⟩, iniRX11, mkX11_isStep, ⟨by decide +kernel, by decide +kernel, by decide +kernel⟩, by decide⟩
set_option maxRecDepth 100000 in
theorem lX9_56 : CL RX9 56 mX9_sumOf 2 := ⟨Or.inl (tg5 (i := 27) rfl rfl), iniRX9, mkX9_sumOf, ⟨by decide +kernel, by decide +kernel, by decide +kernel⟩, by decide⟩
set_option maxRecDepth 100000 in
theorem lX9_63 : CL RX9 63 mX9_feetKnown 2 := ⟨Or.inl (tg5 (i := 31) rfl rfl), iniRX9, mkX9_feetKnown, ⟨by decide +kernel, by decide +kernel, by decide +kernel⟩, by decide⟩
set_option maxRecDepth 100000 in
theorem lX9_67 : CL RX9 67 mX9_toward 1 := ⟨Or.inl (tg5 (i := 49) rfl rfl), iniRX9, mkX9_toward, ⟨by decide +kernel, by decide +kernel, by decide +kernel⟩, by decide⟩
set_option maxRecDepth 100000 in
theorem lX9_76 : CL RX9 76 mX9_offBy 1 := ⟨Or.inl (tg5 (i := 50) rfl rfl), iniRX9, mkX9_offBy, ⟨by decide +kernel, by decide +kernel, by decide +kernel⟩, by decide⟩
set_option maxRecDepth 100000 in
theorem lX9_79 : CL RX9 79 mX0_setting 1 := ⟨Or.inl (tg5 (i := 51) rfl rfl), iniRX0, mkX0_setting, ⟨by decide +kernel, by decide +kernel, by decide +kernel⟩, by decide⟩
set_option maxRecDepth 100000 in
theorem oX10_3 : Cond.methodLink RX10 3 Lib.objectInit ∈ gtb := tg1 (i := 35) rfl rfl
set_option maxRecDepth 100000 in
theorem lL_9 : CL RL 9 mX11_init 0 := ⟨Or.inl (tg1 (i := 24) rfl rfl), iniRX11, mkX11_init, ⟨by decide +kernel, by decide +kernel, by decide +kernel⟩, by decide⟩
set_option maxRecDepth 100000 in
theorem lL_12 : CL RL 12 mX12_init 0 := ⟨Or.inl (tg5 (i := 188) rfl rfl), iniRX12, mkX12_init, ⟨by decide +kernel, by decide +kernel, by decide +kernel⟩, by decide⟩
set_option maxRecDepth 100000 in
theorem lL_13 : CL RL 13 mX11_feed 5 := ⟨Or.inl (tg3 (i := 53) rfl rfl), iniRX11, mkX11_feed, ⟨by decide +kernel, by decide +kernel, by decide +kernel⟩, by decide⟩
set_option maxRecDepth 100000 in
theorem lL_17 : CL RL 17 mX12_feed 5 := ⟨Or.inl (tg6 (i := 235) rfl rfl), iniRX12, mkX12_feed, ⟨by decide +kernel, by decide +kernel, by decide +kernel⟩, by decide⟩
set_option maxRecDepth 100000 in
theorem lL_18 : CL RL 18 mX11_end 1 := ⟨Or.inl (tg3 (i := 61) rfl rfl), iniRX11, mkX11_end, ⟨by decide +kernel, by decide +kernel, by decide +kernel⟩, by decide⟩
set_option maxRecDepth 100000 in
theorem lL_22 : CL RL 22 mX12_end 1 := ⟨Or.inl (tg7 (i := 3) rfl rfl), iniRX12, mkX12_end, ⟨by decide +kernel, by decide +kernel, by decide +kernel⟩, by decide⟩
set_option maxRecDepth 100000 in
theorem lL_23 : CL RL 23 mX11_camp 0 := ⟨Or.inl (tg3 (i := 65) rfl rfl), iniRX11, mkX11_camp, ⟨by decide +kernel, by decide +kernel, by decide +kernel⟩, by decide⟩
set_option maxRecDepth 100000 in
theorem lL_27 : CL RL 27 mX12_camp 0 := ⟨Or.inl (tg7 (i := 10) rfl rfl), iniRX12, mkX12_camp, ⟨by decide +kernel, by decide +kernel, by decide +kernel⟩, by decide⟩
set_option maxRecDepth 100000 in
theorem lL_28 : CL RL 28 mX11_fault 1 := ⟨Or.inl (tg3 (i := 193) rfl rfl), iniRX11, mkX11_fault, ⟨by decide +kernel, by decide +kernel, by decide +kernel⟩, by decide⟩
set_option maxRecDepth 100000 in
theorem lL_31 : CL RL 31 mX12_fault 1 := ⟨Or.inl (tg7 (i := 114) rfl rfl), iniRX12, mkX12_fault, ⟨by decide +kernel, by decide +kernel, by decide +kernel⟩, by decide⟩
set_option maxRecDepth 100000 in
theorem lL_32 : CL RL 32 mX11_told 1 := ⟨Or.inl (tg3 (i := 197) rfl rfl), iniRX11, mkX11_told, ⟨by decide +kernel, by decide +kernel, by decide +kernel⟩, by decide⟩
set_option maxRecDepth 100000 in
theorem lL_35 : CL RL 35 mX12_told 1 := ⟨Or.inl (tg7 (i := 118) rfl rfl), iniRX12, mkX12_told, ⟨by decide +kernel, by decide +kernel, by decide +kernel⟩, by decide⟩
set_option maxRecDepth 100000 in
theorem lL_36 : CL RL 36 mX11_run 2 := ⟨Or.inl (tg3 (i := 213) rfl rfl), iniRX11, mkX11_run, ⟨by decide +kernel, by decide +kernel, by decide +kernel⟩, by decide⟩
set_option maxRecDepth 100000 in
theorem lL_40 : CL RL 40 mX12_run 2 := ⟨Or.inl (tg7 (i := 129) rfl rfl), iniRX12, mkX12_run, ⟨by decide +kernel, by decide +kernel, by decide +kernel⟩, by decide⟩
set_option maxRecDepth 100000 in
theorem lL_41 : CL RL 41 mX11_chance 1 := ⟨Or.inl (tg3 (i := 226) rfl rfl), iniRX11, mkX11_chance, ⟨by decide +kernel, by decide +kernel, by decide +kernel⟩, by decide⟩
set_option maxRecDepth 100000 in
theorem lL_44 : CL RL 44 mX12_chance 1 := ⟨Or.inl (tg7 (i := 137) rfl rfl), iniRX12, mkX12_chance, ⟨by decide +kernel, by decide +kernel, by decide +kernel⟩, by decide⟩
set_option maxRecDepth 100000 in
theorem lL_45 : CL RL 45 mX11_open 1 := ⟨Or.inl (tg3 (i := 230) rfl rfl), iniRX11, mkX11_open, ⟨by decide +kernel, by decide +kernel, by decide +kernel⟩, by decide⟩
set_option maxRecDepth 100000 in
theorem lL_48 : CL RL 48 mX12_open 1 := ⟨Or.inl (tg7 (i := 141) rfl rfl), iniRX12, mkX12_open, ⟨by decide +kernel, by decide +kernel, by decide +kernel⟩, by decide⟩
set_option maxRecDepth 100000 in
theorem lL_49 : CL RL 49 mX11_shift 2 := ⟨Or.inl (tg3 (i := 238) rfl rfl), iniRX11, mkX11_shift, ⟨by decide +kernel, by decide +kernel, by decide +kernel⟩, by decide⟩
set_option maxRecDepth 100000 in
theorem lL_52 : CL RL 52 mX12_shift 2 := ⟨Or.inl (tg7 (i := 154) rfl rfl), iniRX12, mkX12_shift, ⟨by decide +kernel, by decide +kernel, by decide +kernel⟩, by decide⟩
set_option maxRecDepth 100000 in
theorem lL_53 : CL RL 53 mX11_tunnel 2 := ⟨Or.inl (tg4 (i := 51) rfl rfl), iniRX11, mkX11_tunnel, ⟨by decide +kernel, by decide +kernel, by decide +kernel⟩, by decide⟩
set_option maxRecDepth 100000 in
theorem lL_56 : CL RL 56 mX12_tunnel 2 := ⟨Or.inl (tg7 (i := 172) rfl rfl), iniRX12, mkX12_tunnel, ⟨by decide +kernel, by decide +kernel, by decide +kernel⟩, by decide⟩
set_option maxRecDepth 100000 in
theorem lL_57 : CL RL 57 mX11_boards 0 := ⟨Or.inl (tg4 (i := 60) rfl rfl), iniRX11, mkX11_boards, ⟨by decide +kernel, by decide +kernel, by decide +kernel⟩, by decide⟩
set_option maxRecDepth 100000 in
theorem lL_60 : CL RL 60 mX12_boards 0 := ⟨Or.inl (tg7 (i := 145) rfl rfl), iniRX12, mkX12_boards, ⟨by decide +kernel, by decide +kernel, by decide +kernel⟩, by decide⟩
set_option maxRecDepth 100000 in
theorem lL_61 : CL RL 61 mX11_lies 1 := ⟨Or.inl (tg4 (i := 65) rfl rfl), iniRX11, mkX11_lies, ⟨by decide +kernel, by decide +kernel, by decide +kernel⟩, by decide⟩
set_option maxRecDepth 100000 in
theorem lL_64 : CL RL 64 mX12_lies 1 := ⟨Or.inl (tg7 (i := 177) rfl rfl), iniRX12, mkX12_lies, ⟨by decide +kernel, by decide +kernel, by decide +kernel⟩, by decide⟩
set_option maxRecDepth 100000 in
theorem lL_65 : CL RL 65 mX11_carry 3 := ⟨Or.inl (tg4 (i := 69) rfl rfl), iniRX11, mkX11_carry, ⟨by decide +kernel, by decide +kernel, by decide +kernel⟩, by decide⟩
set_option maxRecDepth 100000 in
theorem lL_69 : CL RL 69 mX12_carry 3 := ⟨Or.inl (tg7 (i := 181) rfl rfl), iniRX12, mkX12_carry, ⟨by decide +kernel, by decide +kernel, by decide +kernel⟩, by decide⟩
set_option maxRecDepth 100000 in
theorem lL_70 : CL RL 70 mX11_had 1 := ⟨Or.inl (tg4 (i := 92) rfl rfl), iniRX11, mkX11_had, ⟨by decide +kernel, by decide +kernel, by decide +kernel⟩, by decide⟩
set_option maxRecDepth 100000 in
theorem lL_73 : CL RL 73 mX12_had 1 := ⟨Or.inl (tg7 (i := 195) rfl rfl), iniRX12, mkX12_had, ⟨by decide +kernel, by decide +kernel, by decide +kernel⟩, by decide⟩
set_option maxRecDepth 100000 in
theorem lL_74 : CL RL 74 mX11_most 1 := ⟨Or.inl (tg4 (i := 96) rfl rfl), iniRX11, mkX11_most, ⟨by decide +kernel, by decide +kernel, by decide +kernel⟩, by decide⟩
set_option maxRecDepth 100000 in
theorem lL_77 : CL RL 77 mX12_most 1 := ⟨Or.inl (tg7 (i := 199) rfl rfl), iniRX12, mkX12_most, ⟨by decide +kernel, by decide +kernel, by decide +kernel⟩, by decide⟩
set_option maxRecDepth 100000 in
theorem lL_78 : CL RL 78 mX11_until 0 := ⟨Or.inl (tg4 (i := 118) rfl rfl), iniRX11, mkX11_until, ⟨by decide +kernel, by decide +kernel, by decide +kernel⟩, by decide⟩
set_option maxRecDepth 100000 in
theorem lL_81 : CL RL 81 mX12_until 0 := ⟨Or.inl (tg7 (i := 207) rfl rfl), iniRX12, mkX12_until, ⟨by decide +kernel, by decide +kernel, by decide +kernel⟩, by decide⟩
set_option maxRecDepth 100000 in
theorem lL_82 : CL RL 82 mX11_keep 1 := ⟨Or.inl (tg4 (i := 127) rfl rfl), iniRX11, mkX11_keep, ⟨by decide +kernel, by decide +kernel, by decide +kernel⟩, by decide⟩
set_option maxRecDepth 100000 in
theorem lL_85 : CL RL 85 mX12_keep 1 := ⟨Or.inl (tg7 (i := 211) rfl rfl), iniRX12, mkX12_keep, ⟨by decide +kernel, by decide +kernel, by decide +kernel⟩, by decide⟩
set_option maxRecDepth 100000 in
theorem lL_86 : CL RL 86 mX11_take 1 := ⟨Or.inl (tg4 (i := 140) rfl rfl), iniRX11, mkX11_take, ⟨by decide +kernel, by decide +kernel, by decide +kernel⟩, by decide⟩
set_option maxRecDepth 100000 in
theorem lL_89 : CL RL 89 mX12_take 1 := ⟨Or.inl (tg7 (i := 222) rfl rfl), iniRX12, mkX12_take, ⟨by decide +kernel, by decide +kernel, by decide +kernel⟩, by decide⟩
set_option maxRecDepth 100000 in
theorem lL_90 : CL RL 90 mX11_gone 2 := ⟨Or.inl (tg4 (i := 144) rfl rfl), iniRX11, mkX11_gone, ⟨by decide +kernel, by decide +kernel, by decide +kernel⟩, by decide⟩
set_option maxRecDepth 100000 in
theorem lL_93 : CL RL 93 mX12_gone 2 := ⟨Or.inl (tg7 (i := 226) rfl rfl), iniRX12, mkX12_gone, ⟨by decide +kernel, by decide +kernel, by decide +kernel⟩, by decide⟩
set_option maxRecDepth 100000 in
theorem lL_94 : CL RL 94 mX11_runners 0 := ⟨Or.inl (tg4 (i := 148) rfl rfl), iniRX11, mkX11_runners, ⟨by decide +kernel, by decide +kernel, by decide +kernel⟩, by decide⟩
set_option maxRecDepth 100000 in
theorem lL_97 : CL RL 97 mX12_runners 0 := ⟨Or.inl (tg7 (i := 230) rfl rfl), iniRX12, mkX12_runners, ⟨by decide +kernel, by decide +kernel, by decide +kernel⟩, by decide⟩
set_option maxRecDepth 100000 in
theorem lL_98 : CL RL 98 mX11_wrong 0 := ⟨Or.inl (tg4 (i := 176) rfl rfl), iniRX11, mkX11_wrong, ⟨by decide +kernel, by decide +kernel, by decide +kernel⟩, by decide⟩
set_option maxRecDepth 100000 in
theorem lL_101 : CL RL 101 mX12_wrong 0 := ⟨Or.inl (tg8 (i := 18) rfl rfl), iniRX12, mkX12_wrong, ⟨by decide +kernel, by decide +kernel, by decide +kernel⟩, by decide⟩
set_option maxRecDepth 100000 in
theorem lL_102 : CL RL 102 mX11_kept 2 := ⟨Or.inl (tg4 (i := 188) rfl rfl), iniRX11, mkX11_kept, ⟨by decide +kernel, by decide +kernel, by decide +kernel⟩, by decide⟩
set_option maxRecDepth 100000 in
theorem lL_105 : CL RL 105 mX12_kept 2 := ⟨Or.inl (tg8 (i := 26) rfl rfl), iniRX12, mkX12_kept, ⟨by decide +kernel, by decide +kernel, by decide +kernel⟩, by decide⟩
set_option maxRecDepth 100000 in
theorem lL_106 : CL RL 106 mX11_needed 2 := ⟨Or.inl (tg4 (i := 201) rfl rfl), iniRX11, mkX11_needed, ⟨by decide +kernel, by decide +kernel, by decide +kernel⟩, by decide⟩
set_option maxRecDepth 100000 in
theorem lL_109 : CL RL 109 mX12_needed 2 := ⟨Or.inl (tg8 (i := 40) rfl rfl), iniRX12, mkX12_needed, ⟨by decide +kernel, by decide +kernel, by decide +kernel⟩, by decide⟩
set_option maxRecDepth 100000 in
theorem lL_110 : CL RL 110 mX11_second 4 := ⟨Or.inl (tg4 (i := 210) rfl rfl), iniRX11, mkX11_second, ⟨by decide +kernel, by decide +kernel, by decide +kernel⟩, by decide⟩
set_option maxRecDepth 100000 in
theorem lL_114 : CL RL 114 mX12_second 4 := ⟨Or.inl (tg8 (i := 53) rfl rfl), iniRX12, mkX12_second, ⟨by decide +kernel, by decide +kernel, by decide +kernel⟩, by decide⟩
set_option maxRecDepth 100000 in
theorem lL_115 : CL RL 115 mX11_drift 1 := ⟨Or.inl (tg4 (i := 224) rfl rfl), iniRX11, mkX11_drift, ⟨by decide +kernel, by decide +kernel, by decide +kernel⟩, by decide⟩
set_option maxRecDepth 100000 in
theorem lL_118 : CL RL 118 mX12_drift 1 := ⟨Or.inl (tg8 (i := 62) rfl rfl), iniRX12, mkX12_drift, ⟨by decide +kernel, by decide +kernel, by decide +kernel⟩, by decide⟩
set_option maxRecDepth 100000 in
theorem lL_119 : CL RL 119 mX11_string 4 := ⟨Or.inl (tg4 (i := 228) rfl rfl), iniRX11, mkX11_string, ⟨by decide +kernel, by decide +kernel, by decide +kernel⟩, by decide⟩
set_option maxRecDepth 100000 in
theorem lL_122 : CL RL 122 mX12_string 4 := ⟨Or.inl (tg8 (i := 66) rfl rfl), iniRX12, mkX12_string, ⟨by decide +kernel, by decide +kernel, by decide +kernel⟩, by decide⟩
set_option maxRecDepth 100000 in
theorem lL_123 : CL RL 123 mX11_right 3 := ⟨Or.inl (tg5 (i := 3) rfl rfl), iniRX11, mkX11_right, ⟨by decide +kernel, by decide +kernel, by decide +kernel⟩, by decide⟩
set_option maxRecDepth 100000 in
theorem lL_126 : CL RL 126 mX12_right 3 := ⟨Or.inl (tg8 (i := 72) rfl rfl), iniRX12, mkX12_right, ⟨by decide +kernel, by decide +kernel, by decide +kernel⟩, by decide⟩
set_option maxRecDepth 100000 in
theorem lL_127 : CL RL 127 mX11_where 2 := ⟨Or.inl (tg5 (i := 11) rfl rfl), iniRX11, mkX11_where, ⟨by decide +kernel, by decide +kernel, by decide +kernel⟩, by decide⟩
set_option maxRecDepth 100000 in
theorem lL_130 : CL RL 130 mX12_where 2 := ⟨Or.inl (tg8 (i := 76) rfl rfl), iniRX12, mkX12_where, ⟨by decide +kernel, by decide +kernel, by decide +kernel⟩, by decide⟩
set_option maxRecDepth 100000 in
theorem lL_131 : CL RL 131 mX11_up 2 := ⟨Or.inl (tg5 (i := 41) rfl rfl), iniRX11, mkX11_up, ⟨by decide +kernel, by decide +kernel, by decide +kernel⟩, by decide⟩
set_option maxRecDepth 100000 in
theorem lL_134 : CL RL 134 mX12_up 2 := ⟨Or.inl (tg8 (i := 92) rfl rfl), iniRX12, mkX12_up, ⟨by decide +kernel, by decide +kernel, by decide +kernel⟩, by decide⟩
set_option maxRecDepth 100000 in
theorem lL_135 : CL RL 135 mX11_join 2 := ⟨Or.inl (tg5 (i := 52) rfl rfl), iniRX11, mkX11_join, ⟨by decide +kernel, by decide +kernel, by decide +kernel⟩, by decide⟩
set_option maxRecDepth 100000 in
theorem lL_138 : CL RL 138 mX12_join 2 := ⟨Or.inl (tg8 (i := 96) rfl rfl), iniRX12, mkX12_join, ⟨by decide +kernel, by decide +kernel, by decide +kernel⟩, by decide⟩
set_option maxRecDepth 100000 in
theorem lL_139 : CL RL 139 mX11_round 2 := ⟨Or.inl (tg5 (i := 60) rfl rfl), iniRX11, mkX11_round, ⟨by decide +kernel, by decide +kernel, by decide +kernel⟩, by decide⟩
set_option maxRecDepth 100000 in
theorem lL_142 : CL RL 142 mX12_round 2 := ⟨Or.inl (tg8 (i := 100) rfl rfl), iniRX12, mkX12_round, ⟨by decide +kernel, by decide +kernel, by decide +kernel⟩, by decide⟩
set_option maxRecDepth 100000 in
theorem lL_143 : CL RL 143 mX11_morning 0 := ⟨Or.inl (tg5 (i := 76) rfl rfl), iniRX11, mkX11_morning, ⟨by decide +kernel, by decide +kernel, by decide +kernel⟩, by decide⟩
set_option maxRecDepth 100000 in
theorem lL_146 : CL RL 146 mX12_morning 0 := ⟨Or.inl (tg8 (i := 105) rfl rfl), iniRX12, mkX12_morning, ⟨by decide +kernel, by decide +kernel, by decide +kernel⟩, by decide⟩
set_option maxRecDepth 100000 in
theorem lL_147 : CL RL 147 mX11_order 0 := ⟨Or.inl (tg5 (i := 80) rfl rfl), iniRX11, mkX11_order, ⟨by decide +kernel, by decide +kernel, by decide +kernel⟩, by decide⟩
set_option maxRecDepth 100000 in
theorem lL_150 : CL RL 150 mX12_order 0 := ⟨Or.inl (tg8 (i := 109) rfl rfl), iniRX12, mkX12_order, ⟨by decide +kernel, by decide +kernel, by decide +kernel⟩, by decide⟩
set_option maxRecDepth 100000 in
theorem lL_151 : CL RL 151 mX11_best 1 := ⟨Or.inl (tg5 (i := 93) rfl rfl), iniRX11, mkX11_best, ⟨by decide +kernel, by decide +kernel, by decide +kernel⟩, by decide⟩
set_option maxRecDepth 100000 in
theorem lL_154 : CL RL 154 mX12_best 1 := ⟨Or.inl (tg8 (i := 117) rfl rfl), iniRX12, mkX12_best, ⟨by decide +kernel, by decide +kernel, by decide +kernel⟩, by decide⟩
set_option maxRecDepth 100000 in
theorem lL_155 : CL RL 155 mX11_goes 2 := ⟨Or.inl (tg5 (i := 133) rfl rfl), iniRX11, mkX11_goes, ⟨by decide +kernel, by decide +kernel, by decide +kernel⟩, by decide⟩
set_option maxRecDepth 100000 in
theorem lL_158 : CL RL 158 mX12_goes 2 := ⟨Or.inl (tg8 (i := 136) rfl rfl), iniRX12, mkX12_goes, ⟨by decide +kernel, by decide +kernel, by decide +kernel⟩, by decide⟩
set_option maxRecDepth 100000 in
theorem lL_159 : CL RL 159 mX11_list 6 := ⟨Or.inl (tg5 (i := 137) rfl rfl), iniRX11, mkX11_list, ⟨by decide +kernel, by decide +kernel, by decide +kernel⟩, by decide⟩
set_option maxRecDepth 100000 in
theorem lL_163 : CL RL 163 mX12_list 6 := ⟨Or.inl (tg8 (i := 140) rfl rfl), iniRX12, mkX12_list, ⟨by decide +kernel, by decide +kernel, by decide +kernel⟩, by decide⟩
set_option maxRecDepth 100000 in
theorem lL_164 : CL RL 164 mX11_listed 1 := ⟨Or.inl (tg5 (i := 159) rfl rfl), iniRX11, mkX11_listed, ⟨by decide +kernel, by decide +kernel, by decide +kernel⟩, by decide⟩
set_option maxRecDepth 100000 in
theorem lL_167 : CL RL 167 mX12_listed 1 := ⟨Or.inl (tg8 (i := 149) rfl rfl), iniRX12, mkX12_listed, ⟨by decide +kernel, by decide +kernel, by decide +kernel⟩, by decide⟩
set_option maxRecDepth 100000 in
theorem lL_168 : CL RL 168 mX11_across 3 := ⟨Or.inl (tg5 (i := 163) rfl rfl), iniRX11, mkX11_across, ⟨by decide +kernel, by decide +kernel, by decide +kernel⟩, by decide⟩
set_option maxRecDepth 100000 in
theorem lL_171 : CL RL 171 mX12_across 3 := ⟨Or.inl (tg8 (i := 153) rfl rfl), iniRX12, mkX12_across, ⟨by decide +kernel, by decide +kernel, by decide +kernel⟩, by decide⟩
set_option maxRecDepth 100000 in
theorem lL_172 : CL RL 172 mX11_count 1 := ⟨Or.inl (tg5 (i := 178) rfl rfl), iniRX11, mkX11_count, ⟨by decide +kernel, by decide +kernel, by decide +kernel⟩, by decide⟩
set_option maxRecDepth 100000 in
theorem lL_175 : CL RL 175 mX12_count 1 := ⟨Or.inl (tg8 (i := 157) rfl rfl), iniRX12, mkX12_count, ⟨by decide +kernel, by decide +kernel, by decide +kernel⟩, by decide⟩
set_option maxRecDepth 100000 in
theorem lX12_23 : CL RX12 23 mX12_byteAt 1 := ⟨Or.inl (tg7 (i := 18) rfl rfl), iniRX12, mkX12_byteAt, ⟨by decide +kernel, by decide +kernel, by decide +kernel⟩, by decide⟩
set_option maxRecDepth 100000 in
theorem lX12_30 : CL RX12 30 mX12_isSmall 1 := ⟨Or.inl (tg7 (i := 22) rfl rfl), iniRX12, mkX12_isSmall, ⟨by decide +kernel, by decide +kernel, by decide +kernel⟩, by decide⟩
set_option maxRecDepth 100000 in
theorem lX12_34 : CL RX12 34 mX12_isDigit 1 := ⟨Or.inl (tg7 (i := 25) rfl rfl), iniRX12, mkX12_isDigit, ⟨by decide +kernel, by decide +kernel, by decide +kernel⟩, by decide⟩
set_option maxRecDepth 100000 in
theorem lX12_40 : CL RX12 40 mJ0_length_8abf5 0 := ⟨Or.inl (tg7 (i := 40) rfl rfl), iniRJ0, mkJ0_length_8abf5, ⟨by decide +kernel, by decide +kernel, by decide +kernel⟩, by decide⟩
set_option maxRecDepth 100000 in
theorem lX12_45 : CL RX12 45 mJ0_charAt_5068e 1 := ⟨Or.inl (tg7 (i := 41) rfl rfl), iniRJ0, mkJ0_charAt_5068e, ⟨by decide +kernel, by decide +kernel, by decide +kernel⟩, by decide⟩
set_option maxRecDepth 100000 in
theorem lX12_49 : CL RX12 49 mX12_bad 1 := ⟨Or.inl (tg7 (i := 46) rfl rfl), iniRX12, mkX12_bad, ⟨by decide +kernel, by decide +kernel, by decide +kernel⟩, by decide⟩
set_option maxRecDepth 100000 in
theorem lX12_52 : CL RX12 52 mX12_in 3 := ⟨Or.inl (tg7 (i := 7) rfl rfl), iniRX12, mkX12_in, ⟨by decide +kernel, by decide +kernel, by decide +kernel⟩, by decide⟩
set_option maxRecDepth 100000 in
theorem lX12_59 : CL RX12 59 mX12_scan 0 := ⟨Or.inl (tg7 (i := 14) rfl rfl), iniRX12, mkX12_scan, ⟨by decide +kernel, by decide +kernel, by decide +kernel⟩, by decide⟩
set_option maxRecDepth 100000 in
theorem lX12_63 : CL RX12 63 mX12_name 0 := ⟨Or.inl (tg7 (i := 58) rfl rfl), iniRX12, mkX12_name, ⟨by decide +kernel, by decide +kernel, by decide +kernel⟩, by decide⟩
set_option maxRecDepth 100000 in
theorem lX12_67 : CL RX12 67 mX12_find 2 := ⟨Or.inl (tg7 (i := 54) rfl rfl), iniRX12, mkX12_find, ⟨by decide +kernel, by decide +kernel, by decide +kernel⟩, by decide⟩
set_option maxRecDepth 100000 in
theorem lX12_73 : CL RX12 73 mX12_is 1 := ⟨Or.inl (tg7 (i := 36) rfl rfl), iniRX12, mkX12_is, ⟨by decide +kernel, by decide +kernel, by decide +kernel⟩, by decide⟩
set_option maxRecDepth 100000 in
theorem lX12_102 : CL RX12 102 mX12_fresh 2 := ⟨Or.inl (tg7 (i := 50) rfl rfl), iniRX12, mkX12_fresh, ⟨by decide +kernel, by decide +kernel, by decide +kernel⟩, by decide⟩
set_option maxRecDepth 100000 in
theorem lX12_106 : CL RX12 106 mX12_number 2 := ⟨Or.inl (tg7 (i := 62) rfl rfl), iniRX12, mkX12_number, ⟨by decide +kernel, by decide +kernel, by decide +kernel⟩, by decide⟩
set_option maxRecDepth 100000 in
theorem lX12_153 : CL RX12 153 mX12_wordAt 0 := ⟨Or.inl (tg7 (i := 90) rfl rfl), iniRX12, mkX12_wordAt, ⟨by decide +kernel, by decide +kernel, by decide +kernel⟩, by decide⟩
set_option maxRecDepth 100000 in
theorem lX12_165 : CL RX12 165 mX12_least 1 := ⟨Or.inl (tg7 (i := 104) rfl rfl), iniRX12, mkX12_least, ⟨by decide +kernel, by decide +kernel, by decide +kernel⟩, by decide⟩
set_option maxRecDepth 100000 in
theorem lX12_168 : CL RX12 168 mX12_greatest 1 := ⟨Or.inl (tg7 (i := 107) rfl rfl), iniRX12, mkX12_greatest, ⟨by decide +kernel, by decide +kernel, by decide +kernel⟩, by decide⟩
set_option maxRecDepth 100000 in
theorem lX12_177 : CL RX12 177 mX12_usual 1 := ⟨Or.inl (tg7 (i := 32) rfl rfl), iniRX12, mkX12_usual, ⟨by decide +kernel, by decide +kernel, by decide +kernel⟩, by decide⟩
set_option maxRecDepth 100000 in
theorem lX12_182 : CL RX12 182 mX12_readHut 0 := ⟨Or.inl (tg7 (i := 42) rfl rfl), iniRX12, mkX12_readHut, ⟨by decide +kernel, by decide +kernel, by decide +kernel⟩, by decide⟩
set_option maxRecDepth 100000 in
theorem lX12_188 : CL RX12 188 mX12_readGarden 0 := ⟨Or.inl (tg7 (i := 67) rfl rfl), iniRX12, mkX12_readGarden, ⟨by decide +kernel, by decide +kernel, by decide +kernel⟩, by decide⟩
set_option maxRecDepth 100000 in
theorem lX12_193 : CL RX12 193 mX12_readCount 0 := ⟨Or.inl (tg7 (i := 72) rfl rfl), iniRX12, mkX12_readCount, ⟨by decide +kernel, by decide +kernel, by decide +kernel⟩, by decide⟩
set_option maxRecDepth 100000 in
theorem lX12_198 : CL RX12 198 mX12_readRun 0 := ⟨Or.inl (tg7 (i := 77) rfl rfl), iniRX12, mkX12_readRun, ⟨by decide +kernel, by decide +kernel, by decide +kernel⟩, by decide⟩
set_option maxRecDepth 100000 in
theorem lX12_202 : CL RX12 202 mX12_readLook 0 := ⟨Or.inl (tg7 (i := 82) rfl rfl), iniRX12, mkX12_readLook, ⟨by decide +kernel, by decide +kernel, by decide +kernel⟩, by decide⟩
set_option maxRecDepth 100000 in
theorem lX12_205 : CL RX12 205 mX12_readSmall 0 := ⟨Or.inl (tg7 (i := 86) rfl rfl), iniRX12, mkX12_readSmall, ⟨by decide +kernel, by decide +kernel, by decide +kernel⟩, by decide⟩
set_option maxRecDepth 100000 in
theorem oX12_208 : Cond.methodLink RX12 208 Lib.objectInit ∈ gtb := tg5 (i := 191) rfl rfl
set_option maxRecDepth 100000 in
theorem lX12_348 : CL RX12 348 mX12_putFour 1 := ⟨Or.inl (tg6 (i := 239) rfl rfl), iniRX12, mkX12_putFour, ⟨by decide +kernel, by decide +kernel, by decide +kernel⟩, by decide⟩
set_option maxRecDepth 100000 in
theorem lX12_352 : CL RX12 352 mX12_readCamp 0 := ⟨Or.inl (tg7 (i := 28) rfl rfl), iniRX12, mkX12_readCamp, ⟨by decide +kernel, by decide +kernel, by decide +kernel⟩, by decide⟩
set_option maxRecDepth 100000 in
theorem lX12_367 : CL RX12 367 mX12_beginAnew 0 := ⟨Or.inl (tg7 (i := 110) rfl rfl), iniRX12, mkX12_beginAnew, ⟨by decide +kernel, by decide +kernel, by decide +kernel⟩, by decide⟩
set_option maxRecDepth 100000 in
theorem lX12_408 : CL RX12 408 mX12_isHut 1 := ⟨Or.inl (tg7 (i := 133) rfl rfl), iniRX12, mkX12_isHut, ⟨by decide +kernel, by decide +kernel, by decide +kernel⟩, by decide⟩
set_option maxRecDepth 100000 in
theorem lX12_419 : CL RX12 419 mJ9_max_7cf53 2 := ⟨Or.inl (tg7 (i := 153) rfl rfl), iniRJ9, mkJ9_max_7cf53, ⟨by decide +kernel, by decide +kernel, by decide +kernel⟩, by decide⟩
set_option maxRecDepth 100000 in
theorem lX12_425 : CL RX12 425 mX12_boardsLeft 0 := ⟨Or.inl (tg7 (i := 149) rfl rfl), iniRX12, mkX12_boardsLeft, ⟨by decide +kernel, by decide +kernel, by decide +kernel⟩, by decide⟩
set_option maxRecDepth 100000 in
theorem lX12_428 : CL RX12 428 mX12_isTunnel 1 := ⟨Or.inl (tg7 (i := 158) rfl rfl), iniRX12, mkX12_isTunnel, ⟨by decide +kernel, by decide +kernel, by decide +kernel⟩, by decide⟩
set_option maxRecDepth 100000 in
theorem lX12_433 : CL RX12 433 mJ9_min_7cf53 2 := ⟨Or.inl (tg7 (i := 163) rfl rfl), iniRJ9, mkJ9_min_7cf53, ⟨by decide +kernel, by decide +kernel, by decide +kernel⟩, by decide⟩
set_option maxRecDepth 100000 in
theorem lX12_436 : CL RX12 436 mX12_draw 1 := ⟨Or.inl (tg7 (i := 164) rfl rfl), iniRX12, mkX12_draw, ⟨by decide +kernel, by decide +kernel, by decide +kernel⟩, by decide⟩
set_option maxRecDepth 100000 in
theorem lX12_441 : CL RX12 441 mJ9_abs_0f7a4 1 := ⟨Or.inl (tg7 (i := 194) rfl rfl), iniRJ9, mkJ9_abs_0f7a4, ⟨by decide +kernel, by decide +kernel, by decide +kernel⟩, by decide⟩
set_option maxRecDepth 100000 in
theorem lX12_444 : CL RX12 444 mX12_isGarden 1 := ⟨Or.inl (tg7 (i := 185) rfl rfl), iniRX12, mkX12_isGarden, ⟨by decide +kernel, by decide +kernel, by decide +kernel⟩, by decide⟩
set_option maxRecDepth 100000 in
theorem lX12_449 : CL RX12 449 mX12_reaches 2 := ⟨Or.inl (tg7 (i := 190) rfl rfl), iniRX12, mkX12_reaches, ⟨by decide +kernel, by decide +kernel, by decide +kernel⟩, by decide⟩
set_option maxRecDepth 100000 in
theorem lX12_452 : CL RX12 452 mX12_mostIn 1 := ⟨Or.inl (tg7 (i := 203) rfl rfl), iniRX12, mkX12_mostIn, ⟨by decide +kernel, by decide +kernel, by decide +kernel⟩, by decide⟩
set_option maxRecDepth 100000 in
theorem lX12_455 : CL RX12 455 mX12_isSlot 1 := ⟨Or.inl (tg7 (i := 215) rfl rfl), iniRX12, mkX12_isSlot, ⟨by decide +kernel, by decide +kernel, by decide +kernel⟩, by decide⟩
set_option maxRecDepth 100000 in
theorem lX12_458 : CL RX12 458 mX12_allFeet 0 := ⟨Or.inl (tg7 (i := 218) rfl rfl), iniRX12, mkX12_allFeet, ⟨by decide +kernel, by decide +kernel, by decide +kernel⟩, by decide⟩
set_option maxRecDepth 100000 in
theorem lX12_461 : CL RX12 461 mX12_isCounted 1 := ⟨Or.inl (tg7 (i := 238) rfl rfl), iniRX12, mkX12_isCounted, ⟨by decide +kernel, by decide +kernel, by decide +kernel⟩, by decide⟩
set_option maxRecDepth 100000 in
theorem lX12_467 : CL RX12 467 mX12_canRun 2 := ⟨Or.inl (tg8 (i := 14) rfl rfl), iniRX12, mkX12_canRun, ⟨by decide +kernel, by decide +kernel, by decide +kernel⟩, by decide⟩
set_option maxRecDepth 100000 in
theorem lX12_470 : CL RX12 470 mX12_giveTo 2 := ⟨Or.inl (tg8 (i := 10) rfl rfl), iniRX12, mkX12_giveTo, ⟨by decide +kernel, by decide +kernel, by decide +kernel⟩, by decide⟩
set_option maxRecDepth 100000 in
theorem lX12_474 : CL RX12 474 mX12_ask 0 := ⟨Or.inl (tg8 (i := 6) rfl rfl), iniRX12, mkX12_ask, ⟨by decide +kernel, by decide +kernel, by decide +kernel⟩, by decide⟩
set_option maxRecDepth 100000 in
theorem lX12_477 : CL RX12 477 mX12_allGone 1 := ⟨Or.inl (tg7 (i := 234) rfl rfl), iniRX12, mkX12_allGone, ⟨by decide +kernel, by decide +kernel, by decide +kernel⟩, by decide⟩
set_option maxRecDepth 100000 in
theorem lX12_481 : CL RX12 481 mX12_fewest 0 := ⟨Or.inl (tg8 (i := 2) rfl rfl), iniRX12, mkX12_fewest, ⟨by decide +kernel, by decide +kernel, by decide +kernel⟩, by decide⟩
set_option maxRecDepth 100000 in
theorem lX12_487 : CL RX12 487 mX12_orders 2 := ⟨Or.inl (tg8 (i := 22) rfl rfl), iniRX12, mkX12_orders, ⟨by decide +kernel, by decide +kernel, by decide +kernel⟩, by decide⟩
set_option maxRecDepth 100000 in
theorem lX12_492 : CL RX12 492 mX12_areLooks 1 := ⟨Or.inl (tg8 (i := 30) rfl rfl), iniRX12, mkX12_areLooks, ⟨by decide +kernel, by decide +kernel, by decide +kernel⟩, by decide⟩
set_option maxRecDepth 100000 in
theorem lX12_497 : CL RX12 497 mX12_keptBy 2 := ⟨Or.inl (tg8 (i := 35) rfl rfl), iniRX12, mkX12_keptBy, ⟨by decide +kernel, by decide +kernel, by decide +kernel⟩, by decide⟩
set_option maxRecDepth 100000 in
theorem lX12_502 : CL RX12 502 mX12_isGoal 1 := ⟨Or.inl (tg8 (i := 44) rfl rfl), iniRX12, mkX12_isGoal, ⟨by decide +kernel, by decide +kernel, by decide +kernel⟩, by decide⟩
set_option maxRecDepth 100000 in
theorem lX12_507 : CL RX12 507 mX12_neededFor 2 := ⟨Or.inl (tg8 (i := 49) rfl rfl), iniRX12, mkX12_neededFor, ⟨by decide +kernel, by decide +kernel, by decide +kernel⟩, by decide⟩
set_option maxRecDepth 100000 in
theorem lX12_510 : CL RX12 510 mX12_keptOf 3 := ⟨Or.inl (tg8 (i := 57) rfl rfl), iniRX12, mkX12_keptOf, ⟨by decide +kernel, by decide +kernel, by decide +kernel⟩, by decide⟩
set_option maxRecDepth 100000 in
theorem lX12_529 : CL RX12 529 mX12_along 1 := ⟨Or.inl (tg8 (i := 89) rfl rfl), iniRX12, mkX12_along, ⟨by decide +kernel, by decide +kernel, by decide +kernel⟩, by decide⟩
set_option maxRecDepth 100000 in
theorem lX12_532 : CL RX12 532 mX12_isStep 1 := ⟨Or.inl (tg8 (i := 80) rfl rfl), iniRX12, mkX12_isStep, ⟨by decide +kernel, by decide +kernel, by decide +kernel⟩, by decide⟩
set_option maxRecDepth 100000 in
theorem lX12_538 : CL RX12 538 mX12_findEnd 1 := ⟨Or.inl (tg8 (i := 85) rfl rfl), iniRX12, mkX12_findEnd, ⟨by decide +kernel, by decide +kernel, by decide +kernel⟩, by decide⟩
set_option maxRecDepth 100000 in
theorem lX12_549 : CL RX12 549 mX12_outBy 2 := ⟨Or.inl (tg8 (i := 113) rfl rfl), iniRX12, mkX12_outBy, ⟨by decide +kernel, by decide +kernel, by decide +kernel⟩, by decide⟩
set_option maxRecDepth 100000 in
theorem lX12_552 : CL RX12 552 mX12_bits 1 := ⟨Or.inl (tg8 (i := 129) rfl rfl), iniRX12, mkX12_bits, ⟨by decide +kernel, by decide +kernel, by decide +kernel⟩, by decide⟩
set_option maxRecDepth 100000 in
theorem lX12_555 : CL RX12 555 mX12_findOut 2 := ⟨Or.inl (tg8 (i := 121) rfl rfl), iniRX12, mkX12_findOut, ⟨by decide +kernel, by decide +kernel, by decide +kernel⟩, by decide⟩
set_option maxRecDepth 100000 in
theorem lX12_558 : CL RX12 558 mX12_earliest 1 := ⟨Or.inl (tg8 (i := 125) rfl rfl), iniRX12, mkX12_earliest, ⟨by decide +kernel, by decide +kernel, by decide +kernel⟩, by decide⟩
set_option maxRecDepth 100000 in
theorem lX12_561 : CL RX12 561 mX12_leads 5 := ⟨Or.inl (tg8 (i := 132) rfl rfl), iniRX12, mkX12_leads, ⟨by decide +kernel, by decide +kernel, by decide +kernel⟩, by decide⟩
set_option maxRecDepth 100000 in
theorem lX12_567 : CL RX12 567 mX12_drawOf 2 := ⟨Or.inl (tg8 (i := 145) rfl rfl), iniRX12, mkX12_drawOf, ⟨by decide +kernel, by decide +kernel, by decide +kernel⟩, by decide⟩
set_option maxRecDepth 100000 in
theorem lJ0_335 : CL RJ0 335 mJ0_coder_7d493 0 := ⟨Or.inl (tg1 (i := 163) rfl rfl), iniRJ0, mkJ0_coder_7d493, ⟨by decide +kernel, by decide +kernel, by decide +kernel⟩, by decide⟩
set_option maxRecDepth 100000 in
theorem lJ0_492 : CL RJ0 492 mJ0_isLatin1_aae02 0 := ⟨Or.inl (tg1 (i := 173) rfl rfl), iniRJ0, mkJ0_isLatin1_aae02, ⟨by decide +kernel, by decide +kernel, by decide +kernel⟩, by decide⟩
set_option maxRecDepth 100000 in
theorem lJ0_495 : CL RJ0 495 mJ1_charAt_3b067 2 := ⟨Or.inl (tg1 (i := 177) rfl rfl), iniRJ1, mkJ1_charAt_3b067, ⟨by decide +kernel, by decide +kernel, by decide +kernel⟩, by decide⟩
set_option maxRecDepth 100000 in
theorem lJ0_498 : CL RJ0 498 mJ2_charAt_3b067 2 := ⟨Or.inl (tg1 (i := 188) rfl rfl), iniRJ2, mkJ2_charAt_3b067, ⟨by decide +kernel, by decide +kernel, by decide +kernel⟩, by decide⟩
set_option maxRecDepth 100000 in
theorem lJ0_1059 : CL RJ0 1059 mJ3_checkIndex_8e157 3 := ⟨Or.inl (tg1 (i := 185) rfl rfl), iniRJ3, mkJ3_checkIndex_8e157, ⟨by decide +kernel, by decide +kernel, by decide +kernel⟩, by decide⟩
set_option maxRecDepth 100000 in
theorem lJ1_9 : CL RJ1 9 mJ0_checkIndex_df160 2 := ⟨Or.inl (tg1 (i := 180) rfl rfl), iniRJ0, mkJ0_checkIndex_df160, ⟨by decide +kernel, by decide +kernel, by decide +kernel⟩, by decide⟩
set_option maxRecDepth 100000 in
theorem lJ2_48 : CL RJ2 48 mJ2_length_9d52b 1 := ⟨Or.inl (tg1 (i := 194) rfl rfl), iniRJ2, mkJ2_length_9d52b, ⟨by decide +kernel, by decide +kernel, by decide +kernel⟩, by decide⟩
set_option maxRecDepth 100000 in
theorem lJ2_67 : CL RJ2 67 mJ2_checkIndex_2214a 2 := ⟨Or.inl (tg1 (i := 191) rfl rfl), iniRJ2, mkJ2_checkIndex_2214a, ⟨by decide +kernel, by decide +kernel, by decide +kernel⟩, by decide⟩
set_option maxRecDepth 100000 in
theorem lJ2_71 : CL RJ2 71 mJ2_getChar_3b067 2 := ⟨Or.inl (tg1 (i := 198) rfl rfl), iniRJ2, mkJ2_getChar_3b067, ⟨by decide +kernel, by decide +kernel, by decide +kernel⟩, by decide⟩
set_option maxRecDepth 100000 in
theorem lJ2_414 : CL RJ2 414 mJ0_checkIndex_df160 2 := ⟨Or.inl (tg1 (i := 197) rfl rfl), iniRJ0, mkJ0_checkIndex_df160, ⟨by decide +kernel, by decide +kernel, by decide +kernel⟩, by decide⟩
set_option maxRecDepth 100000 in
theorem qX11_7 : Cond.classLink RX11 7 RX10 ∈ gtb := tg1 (i := 30) rfl rfl
set_option maxRecDepth 100000 in
theorem qX11_16 : Cond.classLink RX11 16 RX0 ∈ gtb := tg1 (i := 47) rfl rfl
set_option maxRecDepth 100000 in
theorem qX11_26 : Cond.classLink RX11 26 RX8 ∈ gtb := tg1 (i := 147) rfl rfl
set_option maxRecDepth 100000 in
theorem qX11_35 : Cond.classLink RX11 35 RX3 ∈ gtb := tg2 (i := 26) rfl rfl
set_option maxRecDepth 100000 in
theorem qX11_46 : Cond.classLink RX11 46 RX4 ∈ gtb := tg2 (i := 84) rfl rfl
set_option maxRecDepth 100000 in
theorem qX11_53 : Cond.classLink RX11 53 RX2 ∈ gtb := tg2 (i := 106) rfl rfl
set_option maxRecDepth 100000 in
theorem qX11_60 : Cond.classLink RX11 60 RX5 ∈ gtb := tg2 (i := 126) rfl rfl
set_option maxRecDepth 100000 in
theorem qX11_67 : Cond.classLink RX11 67 RX9 ∈ gtb := tg2 (i := 145) rfl rfl
set_option maxRecDepth 100000 in
theorem qX11_74 : Cond.classLink RX11 74 RX7 ∈ gtb := tg2 (i := 191) rfl rfl
set_option maxRecDepth 100000 in
theorem qX11_81 : Cond.classLink RX11 81 RX6 ∈ gtb := tg2 (i := 233) rfl rfl
set_option maxRecDepth 100000 in
theorem qX3_33 : Cond.classLink RX3 33 RX1 ∈ gtb := tg2 (i := 32) rfl rfl
set_option maxRecDepth 100000 in
theorem qX6_13 : Cond.classLink RX6 13 RX1 ∈ gtb := tg2 (i := 239) rfl rfl
set_option maxRecDepth 100000 in
theorem qL_7 : Cond.classLink RL 7 RX11 ∈ gtb := tg1 (i := 22) rfl rfl
set_option maxRecDepth 100000 in
theorem qL_10 : Cond.classLink RL 10 RX12 ∈ gtb := tg5 (i := 186) rfl rfl
set_option maxRecDepth 100000 in
theorem kX11_265 : Cond.constant RX11 265 (-1000000) ∈ gtb := tg5 (i := 16) rfl rfl
set_option maxRecDepth 100000 in
theorem kX1_13 : Cond.constantLong RX1 13 1103515245 ∈ gtb := tg4 (i := 47) rfl rfl
set_option maxRecDepth 100000 in
theorem kX1_15 : Cond.constantLong RX1 15 12345 ∈ gtb := tg4 (i := 48) rfl rfl
set_option maxRecDepth 100000 in
theorem kX1_17 : Cond.constantLong RX1 17 2147483648 ∈ gtb := tg4 (i := 49) rfl rfl
set_option maxRecDepth 100000 in
theorem kX1_19 : Cond.constantLong RX1 19 65536 ∈ gtb := tg4 (i := 50) rfl rfl
set_option maxRecDepth 100000 in
theorem kX5_15 : Cond.constant RX5 15 1000000 ∈ gtb := tg4 (i := 200) rfl rfl
set_option maxRecDepth 100000 in
theorem kX5_35 : Cond.constantLong RX5 35 1000000 ∈ gtb := tg4 (i := 223) rfl rfl
set_option maxRecDepth 100000 in
theorem kX8_58 : Cond.constantLong RX8 58 32 ∈ gtb := tg1 (i := 213) rfl rfl
set_option maxRecDepth 100000 in
theorem kX12_394 : Cond.constantLong RX12 394 20 ∈ gtb := tg7 (i := 122) rfl rfl
set_option maxRecDepth 100000 in
theorem kX12_396 : Cond.constantLong RX12 396 59 ∈ gtb := tg7 (i := 123) rfl rfl
set_option maxRecDepth 100000 in
theorem kX12_398 : Cond.constantLong RX12 398 60 ∈ gtb := tg7 (i := 124) rfl rfl
set_option maxRecDepth 100000 in
theorem kX12_400 : Cond.constantLong RX12 400 89 ∈ gtb := tg7 (i := 125) rfl rfl
set_option maxRecDepth 100000 in
theorem kX12_402 : Cond.constantLong RX12 402 90 ∈ gtb := tg7 (i := 126) rfl rfl
set_option maxRecDepth 100000 in
theorem kX12_404 : Cond.constantLong RX12 404 3 ∈ gtb := tg7 (i := 127) rfl rfl
set_option maxRecDepth 100000 in
theorem kX12_406 : Cond.constantLong RX12 406 11 ∈ gtb := tg7 (i := 128) rfl rfl
set_option maxRecDepth 100000 in
theorem kX12_411 : Cond.constantLong RX12 411 1103515245 ∈ gtb := tg7 (i := 168) rfl rfl
set_option maxRecDepth 100000 in
theorem kX12_413 : Cond.constantLong RX12 413 12345 ∈ gtb := tg7 (i := 169) rfl rfl
set_option maxRecDepth 100000 in
theorem kX12_415 : Cond.constantLong RX12 415 2147483648 ∈ gtb := tg7 (i := 170) rfl rfl
set_option maxRecDepth 100000 in
theorem kX12_417 : Cond.constantLong RX12 417 65536 ∈ gtb := tg7 (i := 171) rfl rfl
set_option maxRecDepth 100000 in
theorem kX12_431 : Cond.constantLong RX12 431 99 ∈ gtb := tg7 (i := 162) rfl rfl
set_option maxRecDepth 100000 in
theorem kX12_439 : Cond.constantLong RX12 439 5 ∈ gtb := tg7 (i := 176) rfl rfl
set_option maxRecDepth 100000 in
theorem kX12_447 : Cond.constantLong RX12 447 9999 ∈ gtb := tg7 (i := 189) rfl rfl
set_option maxRecDepth 100000 in
theorem kX12_491 : Cond.constant RX12 491 1000000 ∈ gtb := tg8 (i := 39) rfl rfl
set_option maxRecDepth 100000 in
theorem kX12_495 : Cond.constantLong RX12 495 400 ∈ gtb := tg8 (i := 34) rfl rfl
set_option maxRecDepth 100000 in
theorem kX12_500 : Cond.constantLong RX12 500 999 ∈ gtb := tg8 (i := 47) rfl rfl
set_option maxRecDepth 100000 in
theorem kX12_505 : Cond.constantLong RX12 505 200 ∈ gtb := tg8 (i := 48) rfl rfl
set_option maxRecDepth 100000 in
theorem kX12_514 : Cond.constantLong RX12 514 1000000 ∈ gtb := tg8 (i := 61) rfl rfl
set_option maxRecDepth 100000 in
theorem kX12_516 : Cond.constantLong RX12 516 7 ∈ gtb := tg8 (i := 70) rfl rfl
set_option maxRecDepth 100000 in
theorem kX12_518 : Cond.constantLong RX12 518 9 ∈ gtb := tg8 (i := 71) rfl rfl
set_option maxRecDepth 100000 in
theorem kX12_535 : Cond.constantLong RX12 535 2 ∈ gtb := tg8 (i := 83) rfl rfl
set_option maxRecDepth 100000 in
theorem kX12_537 : Cond.constant RX12 537 (-1000000) ∈ gtb := tg8 (i := 84) rfl rfl
set_option maxRecDepth 100000 in
theorem kX12_544 : Cond.constantLong RX12 544 600 ∈ gtb := tg8 (i := 104) rfl rfl
set_option maxRecDepth 100000 in
theorem kX12_565 : Cond.constantLong RX12 565 30 ∈ gtb := tg8 (i := 144) rfl rfl
set_option maxRecDepth 100000 in
theorem kJ6_264 : Cond.constant RJ6 264 65536 ∈ gtb := tg5 (i := 158) rfl rfl
set_option maxRecDepth 100000 in
theorem kJ6_265 : Cond.constant RJ6 265 1431655765 ∈ gtb := tg5 (i := 109) rfl rfl
set_option maxRecDepth 100000 in
theorem kJ6_266 : Cond.constant RJ6 266 858993459 ∈ gtb := tg5 (i := 110) rfl rfl
set_option maxRecDepth 100000 in
theorem kJ6_267 : Cond.constant RJ6 267 252645135 ∈ gtb := tg5 (i := 111) rfl rfl
