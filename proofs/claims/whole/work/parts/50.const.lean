/-! What the start gives: constants, tables, texts, classes. -/
def e_n : List Cond := flatC narrow_1
set_option maxRecDepth 100000 in
theorem e_S1 : ∀ i, i < 5 → lw_tbl[([122, 539, 344, 681, 742] : List Nat).getD i 0]? = some (Cond.laysStatic RX5 (q_nS.getD i "") "LQuillRelay$Stage;") := by decide +kernel
set_option maxRecDepth 100000 in
theorem e_S2 : ∀ i, i < 5 → e_n[([2, 52, 10, 63, 75] : List Nat).getD i 0]? = some (Cond.exactly (.static RX5 (q_nS.getD i "") "LQuillRelay$Stage;") RX5) := by decide +kernel
set_option maxRecDepth 100000 in
theorem e_S0 : Cond.initialized RX5 ∈ lw_tbl := List.mem_of_getElem? (i := 70) (by decide +kernel)
set_option maxRecDepth 100000 in
theorem e_F1 : ∀ i, i < 5 → lw_tbl[([395, 400, 474, 393, 509] : List Nat).getD i 0]? = some (Cond.laysStatic RX1 (q_nF.getD i "") "LQuillRelay$Fault;") := by decide +kernel
set_option maxRecDepth 100000 in
theorem e_F2 : ∀ i, i < 5 → e_n[([20, 26, 35, 15, 43] : List Nat).getD i 0]? = some (Cond.exactly (.static RX1 (q_nF.getD i "") "LQuillRelay$Fault;") RX1) := by decide +kernel
set_option maxRecDepth 100000 in
theorem e_F0 : Cond.initialized RX1 ∈ lw_tbl := List.mem_of_getElem? (i := 79) (by decide +kernel)
set_option maxRecDepth 100000 in
theorem e_V1 : ∀ i, i < 8 → lw_tbl[([262, 1974, 1975, 1976, 1977, 1978, 1979, 1980] : List Nat).getD i 0]? = some (Cond.laysStatic RX7 (q_nV.getD i "") "LQuillRelay$Verb;") := by decide +kernel
set_option maxRecDepth 100000 in
theorem e_V2 : ∀ i, i < 8 → e_n[([6, 322, 336, 351, 367, 384, 402, 421] : List Nat).getD i 0]? = some (Cond.exactly (.static RX7 (q_nV.getD i "") "LQuillRelay$Verb;") RX7) := by decide +kernel
set_option maxRecDepth 100000 in
theorem e_V0 : Cond.initialized RX7 ∈ lw_tbl := List.mem_of_getElem? (i := 77) (by decide +kernel)
set_option maxRecDepth 100000 in
theorem e_S3 : ∀ i, i < 5 → e_n[([4, 54, 12, 65, 77] : List Nat).getD i 0]? = some (Cond.eq (.field (.static RX5 (q_nS.getD i "") "LQuillRelay$Stage;") "QuillRelay$Stage" "rankGroup" "I") (.int (([3, 1, 1, 0, 2] : List Int32).getD i 0))) := by decide +kernel
set_option maxRecDepth 100000 in
theorem e_V3 : ∀ i, i < 8 → e_n[([7, 323, 337, 352, 368, 385, 403, 422] : List Nat).getD i 0]? = some (Cond.eq (.field (.static RX7 (q_nV.getD i "") "LQuillRelay$Verb;") "java/lang/Enum" "ordinal" "I") (.int (([0, 1, 2, 3, 4, 5, 6, 7] : List Int32).getD i 0))) := by decide +kernel
def e_et : List (String × String × String) := [(RX5, "ABSENT", "LQuillRelay$Stage;"), (RX5, "READY", "LQuillRelay$Stage;"), (RX5, "RUNNING", "LQuillRelay$Stage;"), (RX5, "FINISHED", "LQuillRelay$Stage;"), (RX5, "WITHDRAWN", "LQuillRelay$Stage;"), (RX1, "NONE", "LQuillRelay$Fault;"), (RX1, "INDEX", "LQuillRelay$Fault;"), (RX1, "ARGUMENT", "LQuillRelay$Fault;"), (RX1, "STATE", "LQuillRelay$Fault;"), (RX1, "REFUSED", "LQuillRelay$Fault;"), (RX7, "START", "LQuillRelay$Verb;"), (RX7, "RUN", "LQuillRelay$Verb;"), (RX7, "PASS", "LQuillRelay$Verb;"), (RX7, "DROP", "LQuillRelay$Verb;"), (RX7, "QUIT", "LQuillRelay$Verb;"), (RX7, "PROTEST", "LQuillRelay$Verb;"), (RX7, "SPEED", "LQuillRelay$Verb;"), (RX7, "DRAW", "LQuillRelay$Verb;")]
def e_te (i : Nat) : Term := .static (e_et.getD i ("", "", "")).1 (e_et.getD i ("", "", "")).2.1 (e_et.getD i ("", "", "")).2.2
def e_px : List (List Nat) := [[0, 55, 13, 66, 78, 22, 28, 37, 17, 45, 9, 325, 339, 354, 370, 387, 405, 424],
  [55, 0, 57, 74, 86, 59, 60, 61, 58, 62, 56, 333, 347, 362, 378, 395, 413, 432],
  [13, 57, 0, 68, 80, 24, 30, 39, 19, 47, 14, 327, 341, 356, 372, 389, 407, 426],
  [66, 74, 68, 0, 87, 70, 71, 72, 69, 73, 67, 334, 348, 363, 379, 396, 414, 433],
  [78, 86, 80, 87, 0, 82, 83, 84, 81, 85, 79, 335, 349, 364, 380, 397, 415, 434],
  [22, 59, 24, 70, 82, 0, 32, 41, 25, 49, 23, 329, 343, 358, 374, 391, 409, 428],
  [28, 60, 30, 71, 83, 32, 0, 42, 31, 50, 29, 330, 344, 359, 375, 392, 410, 429],
  [37, 61, 39, 72, 84, 41, 42, 0, 40, 51, 38, 331, 345, 360, 376, 393, 411, 430],
  [17, 58, 19, 69, 81, 25, 31, 40, 0, 48, 18, 328, 342, 357, 373, 390, 408, 427],
  [45, 62, 47, 73, 85, 49, 50, 51, 48, 0, 46, 332, 346, 361, 377, 394, 412, 431],
  [9, 56, 14, 67, 79, 23, 29, 38, 18, 46, 0, 326, 340, 355, 371, 388, 406, 425],
  [325, 333, 327, 334, 335, 329, 330, 331, 328, 332, 326, 0, 350, 365, 381, 398, 416, 435],
  [339, 347, 341, 348, 349, 343, 344, 345, 342, 346, 340, 350, 0, 366, 382, 399, 417, 436],
  [354, 362, 356, 363, 364, 358, 359, 360, 357, 361, 355, 365, 366, 0, 383, 400, 418, 437],
  [370, 378, 372, 379, 380, 374, 375, 376, 373, 377, 371, 381, 382, 383, 0, 401, 419, 438],
  [387, 395, 389, 396, 397, 391, 392, 393, 390, 394, 388, 398, 399, 400, 401, 0, 420, 439],
  [405, 413, 407, 414, 415, 409, 410, 411, 408, 412, 406, 416, 417, 418, 419, 420, 0, 440],
  [424, 432, 426, 433, 434, 428, 429, 430, 427, 431, 425, 435, 436, 437, 438, 439, 440, 0]]
set_option maxRecDepth 100000 in
theorem e_p : ∀ i, i < 18 → ∀ j, j < 18 → i ≠ j → e_n[(e_px.getD i []).getD j 0]? = some (.not (.eq (e_te i) (e_te j))) ∨ e_n[(e_px.getD i []).getD j 0]? = some (.not (.eq (e_te j) (e_te i))) := by decide +kernel
set_option maxRecDepth 100000 in
theorem e_S9 : ∀ i, i < 5 → e_te (0 + i) = .static RX5 (q_nS.getD i "") "LQuillRelay$Stage;" := by decide +kernel
set_option maxRecDepth 100000 in
theorem e_F9 : ∀ i, i < 5 → e_te (5 + i) = .static RX1 (q_nF.getD i "") "LQuillRelay$Fault;" := by decide +kernel
set_option maxRecDepth 100000 in
theorem e_V9 : ∀ i, i < 8 → e_te (10 + i) = .static RX7 (q_nV.getD i "") "LQuillRelay$Verb;" := by decide +kernel
def e_ts : List (String × Nat) := [(RX7, 52), (RX7, 58), (RX7, 61), (RX7, 64), (RX7, 67), (RX7, 70), (RX7, 73), (RX7, 76), (RX9, 176), (RX9, 202), (RX9, 208), (RX9, 213), (RX9, 215), (RX9, 220), (RX9, 222), (RX9, 233), (RX9, 235)]
def e_tm (i : Nat) : Term := .string (e_ts.getD i ("", 0)).1 (e_ts.getD i ("", 0)).2
set_option maxRecDepth 100000 in
theorem e_t1 : ∀ i, i < 17 → e_n[([1387, 1396, 1405, 1415, 1427, 1437, 1452, 1467, 1324, 1332, 1339, 1347, 1353, 1363, 1368, 1374, 1380] : List Nat).getD i 0]? = some (Cond.exactly (e_tm i) "java/lang/String") := by decide +kernel
set_option maxRecDepth 100000 in
theorem e_t2 : ∀ i, i < 17 → e_n[([1388, 1397, 1406, 1416, 1428, 1438, 1453, 1468, 1325, 1333, 1340, 1348, 1354, 1364, 1369, 1375, 1381] : List Nat).getD i 0]? = some (Cond.eq (.field (e_tm i) "java/lang/String" "coder" "B") (.int 0)) := by decide +kernel
set_option maxRecDepth 100000 in
theorem e_t3 : ∀ i, i < 17 → e_n[([1389, 1398, 1407, 1417, 1429, 1439, 1454, 1469, 1326, 1334, 1341, 1349, 1355, 1365, 1370, 1376, 1382] : List Nat).getD i 0]? = some (Cond.arrayOf (.field (e_tm i) "java/lang/String" "value" "[B") .byte) := by decide +kernel
set_option maxRecDepth 100000 in
theorem e_t4 : ∀ i, i < 17 → e_n[([1390, 1399, 1408, 1418, 1430, 1440, 1455, 1470, 1327, 1335, 1342, 1350, 1356, 1366, 1371, 1377, 1383] : List Nat).getD i 0]? = some (Cond.eq (.length (.field (e_tm i) "java/lang/String" "value" "[B")) (.int (Int32.ofNat (q_sl.getD i 0)))) := by decide +kernel
set_option maxRecDepth 100000 in
theorem e_t5 : ∀ i, i < 17 → ∀ j, j < q_sl.getD i 0 → e_n[([1391, 1400, 1409, 1419, 1431, 1441, 1456, 1471, 1328, 1336, 1343, 1351, 1357, 1367, 1372, 1378, 1384] : List Nat).getD i 0 + j]? = some (Cond.eq (.elem (.field (e_tm i) "java/lang/String" "value" "[B") (.int (Int32.ofNat j))) (.int ((q_sb.getD i []).getD j 0))) := by decide +kernel
set_option maxRecDepth 100000 in
theorem e_t6 : ∀ i, i < 17 → ∀ j, j < 17 → Int32.ofNat (q_sl.getD i 0) = Int32.ofNat (q_sl.getD j 0) → (∀ n, n < q_sl.getD i 0 → (q_sb.getD i []).getD n 0 = (q_sb.getD j []).getD n 0) → i = j := by decide +kernel
theorem e_t7 : ∀ i, i < 17 → q_sl.getD i 0 < 12 := by decide +kernel
theorem e_t8 : ∀ i, i < 17 → ∀ j, j < 17 → Int32.ofNat (q_sl.getD i 0) = Int32.ofNat (q_sl.getD j 0) → q_sl.getD i 0 = q_sl.getD j 0 := by decide +kernel
set_option maxRecDepth 100000 in
theorem e_k1 : ∀ i, i < 9 → lw_tbl[([1835, 1876, 1882, 1895, 1896, 1905, 1906, 1907, 1908] : List Nat).getD i 0]? = some (Cond.stringRef RX9 (q_mk.getD i (0, "")).1 (q_mk.getD i (0, "")).2) := by decide +kernel
set_option maxRecDepth 100000 in
theorem e_k2 : ∀ i, i < 8 → e_n[([8, 324, 338, 353, 369, 386, 404, 423] : List Nat).getD i 0]? = some (Cond.eq (.field (.static RX7 (q_nV.getD i "") "LQuillRelay$Verb;") RX7 "pattern" "Ljava/lang/String;") (e_tm i)) := by decide +kernel
theorem e_k3 : ∀ i, i < 9 → e_tm (8 + i) = .string RX9 (q_mk.getD i (0, "")).1 := by decide +kernel
set_option maxRecDepth 100000 in
theorem e_m1 : ∀ i, i < 25 → lw_tbl[([447, 484, 501, 519, 587, 797, 816, 872, 885, 905, 937, 973, 990, 1006, 1007, 1020, 1323, 1341, 1342, 1432, 1433, 1441, 1449, 1457, 1469] : List Nat).getD i 0]? = some (Cond.stringRef RX8 (q_msg.getD i (0, "")).1 (q_msg.getD i (0, "")).2) := by decide +kernel
set_option maxRecDepth 100000 in
theorem e_m2 : ∀ i, i < 25 → e_n[([585, 608, 639, 669, 692, 708, 732, 747, 771, 796, 825, 841, 865, 906, 933, 970, 1096, 1117, 1156, 1178, 1206, 1226, 1254, 1275, 1300] : List Nat).getD i 0]? = some (Cond.exactly (.string RX8 (q_msg.getD i (0, "")).1) "java/lang/String") := by decide +kernel
set_option maxRecDepth 100000 in
theorem e_w1 : ∀ w ∈ q_NW, w ∈ lw_tbl := by decide +kernel
set_option maxRecDepth 100000 in
theorem e_w2 : ∀ w ∈ q_XW.take 39, w ∈ lw_tbl := by decide +kernel
set_option maxRecDepth 100000 in
theorem e_w3 : ∀ a ∈ q_XS, ∀ b ∈ q_XS, a ≠ b → Cond.not (.castable a b) ∈ e_n := by decide +kernel
theorem e_w4 : ∀ w ∈ q_NW, w.onTables = true := by decide +kernel
theorem e_w5 : ∀ w ∈ q_XW, w.onTables = true := by decide +kernel
set_option maxRecDepth 100000 in
theorem e_vb0 : Cond.laysStatic RX3 "VERBS" "[LQuillRelay$Verb;" ∈ lw_tbl := List.mem_of_getElem? (i := 1369) (by decide +kernel)
set_option maxRecDepth 100000 in
theorem e_vbi : Cond.initialized RX3 ∈ lw_tbl := List.mem_of_getElem? (i := 72) (by decide +kernel)
set_option maxRecDepth 100000 in
theorem e_vb1 : Cond.arrayOf (.static RX3 "VERBS" "[LQuillRelay$Verb;") (.object RX7) ∈ e_n := List.mem_of_getElem? (i := 300) (by decide +kernel)
set_option maxRecDepth 100000 in
theorem e_vb2 : Cond.eq (.length (.static RX3 "VERBS" "[LQuillRelay$Verb;")) (.int (Int32.ofNat 8)) ∈ e_n := List.mem_of_getElem? (i := 301) (by decide +kernel)
set_option maxRecDepth 100000 in
theorem e_vb3 : ∀ j, j < 8 → e_n[303 + j]? = some (Cond.eq (.elem (.static RX3 "VERBS" "[LQuillRelay$Verb;") (.int (Int32.ofNat j))) (.static RX7 (q_nV.getD j "") "LQuillRelay$Verb;")) := by decide +kernel
set_option maxRecDepth 100000 in
theorem e_sm0 : Cond.laysStatic RX0 "$SwitchMap$QuillRelay$Verb" "[I" ∈ lw_tbl := List.mem_of_getElem? (i := 1421) (by decide +kernel)
set_option maxRecDepth 100000 in
theorem e_smi : Cond.initialized RX0 ∈ lw_tbl := List.mem_of_getElem? (i := 99) (by decide +kernel)
set_option maxRecDepth 100000 in
theorem e_sm1 : Cond.arrayOf (.static RX0 "$SwitchMap$QuillRelay$Verb" "[I") .int ∈ e_n := List.mem_of_getElem? (i := 312) (by decide +kernel)
set_option maxRecDepth 100000 in
theorem e_sm2 : Cond.eq (.length (.static RX0 "$SwitchMap$QuillRelay$Verb" "[I")) (.int (Int32.ofNat 8)) ∈ e_n := List.mem_of_getElem? (i := 313) (by decide +kernel)
set_option maxRecDepth 100000 in
theorem e_sm3 : ∀ j, j < 8 → e_n[314 + j]? = some (Cond.eq (.elem (.static RX0 "$SwitchMap$QuillRelay$Verb" "[I") (.int (Int32.ofNat j))) (.int (nI ((j + 1) % 8)))) := by decide +kernel
set_option maxRecDepth 100000 in
theorem e_do0 : Cond.laysStatic "java/lang/Integer" "DigitOnes" "[B" ∈ lw_tbl := List.mem_of_getElem? (i := 1180) (by decide +kernel)
set_option maxRecDepth 100000 in
theorem e_doi : Cond.initialized "java/lang/Integer" ∈ lw_tbl := List.mem_of_getElem? (i := 98) (by decide +kernel)
set_option maxRecDepth 100000 in
theorem e_do1 : Cond.arrayOf (.static "java/lang/Integer" "DigitOnes" "[B") .byte ∈ e_n := List.mem_of_getElem? (i := 93) (by decide +kernel)
set_option maxRecDepth 100000 in
theorem e_do2 : Cond.eq (.length (.static "java/lang/Integer" "DigitOnes" "[B")) (.int (Int32.ofNat 100)) ∈ e_n := List.mem_of_getElem? (i := 94) (by decide +kernel)
set_option maxRecDepth 100000 in
theorem e_do3 : ∀ j, j < 100 → e_n[95 + j]? = some (Cond.eq (.elem (.static "java/lang/Integer" "DigitOnes" "[B") (.int (Int32.ofNat j))) (.int (nI (48 + j % 10)))) := by decide +kernel
set_option maxRecDepth 100000 in
theorem e_dt0 : Cond.laysStatic "java/lang/Integer" "DigitTens" "[B" ∈ lw_tbl := List.mem_of_getElem? (i := 1182) (by decide +kernel)
set_option maxRecDepth 100000 in
theorem e_dti : Cond.initialized "java/lang/Integer" ∈ lw_tbl := List.mem_of_getElem? (i := 98) (by decide +kernel)
set_option maxRecDepth 100000 in
theorem e_dt1 : Cond.arrayOf (.static "java/lang/Integer" "DigitTens" "[B") .byte ∈ e_n := List.mem_of_getElem? (i := 196) (by decide +kernel)
set_option maxRecDepth 100000 in
theorem e_dt2 : Cond.eq (.length (.static "java/lang/Integer" "DigitTens" "[B")) (.int (Int32.ofNat 100)) ∈ e_n := List.mem_of_getElem? (i := 197) (by decide +kernel)
set_option maxRecDepth 100000 in
theorem e_dt3 : ∀ j, j < 100 → e_n[198 + j]? = some (Cond.eq (.elem (.static "java/lang/Integer" "DigitTens" "[B") (.int (Int32.ofNat j))) (.int (nI (48 + j / 10)))) := by decide +kernel
set_option maxRecDepth 100000 in
theorem e_c0 : Cond.laysStatic "java/lang/String" "COMPACT_STRINGS" "Z" ∈ lw_tbl := List.mem_of_getElem? (i := 238) (by decide +kernel)
set_option maxRecDepth 100000 in
theorem e_ci : Cond.initialized "java/lang/String" ∈ lw_tbl := List.mem_of_getElem? (i := 75) (by decide +kernel)
set_option maxRecDepth 100000 in
theorem e_c1 : Cond.eq (.static "java/lang/String" "COMPACT_STRINGS" "Z") (.int 1) ∈ e_n := List.mem_of_getElem? (i := 5) (by decide +kernel)
set_option maxRecDepth 100000 in
theorem e_sf0 : Cond.laysStatic "jdk/internal/util/Preconditions" "SIOOBE_FORMATTER" "Ljava/util/function/BiFunction;" ∈ lw_tbl := List.mem_of_getElem? (i := 1110) (by decide +kernel)
set_option maxRecDepth 100000 in
theorem e_sfi : Cond.initialized "jdk/internal/util/Preconditions" ∈ lw_tbl := List.mem_of_getElem? (i := 95) (by decide +kernel)
set_option maxRecDepth 100000 in
theorem e_sf1 : Cond.isRef (.static "jdk/internal/util/Preconditions" "SIOOBE_FORMATTER" "Ljava/util/function/BiFunction;") ∈ e_n := List.mem_of_getElem? (i := 88) (by decide +kernel)
set_option maxRecDepth 100000 in
theorem e_us0 : Cond.laysStatic Bundle.tN "UNASSIGNED_STACK" Bundle.steD ∈ lw_tbl := List.mem_of_getElem? (i := 428) (by decide +kernel)
set_option maxRecDepth 100000 in
theorem e_usi : Cond.initialized Bundle.tN ∈ lw_tbl := List.mem_of_getElem? (i := 80) (by decide +kernel)
set_option maxRecDepth 100000 in
theorem e_us1 : Cond.isRef (.static Bundle.tN "UNASSIGNED_STACK" Bundle.steD) ∈ e_n := List.mem_of_getElem? (i := 33) (by decide +kernel)
set_option maxRecDepth 100000 in
theorem e_ss0 : Cond.laysStatic Bundle.tN "SUPPRESSED_SENTINEL" Bundle.listD ∈ lw_tbl := List.mem_of_getElem? (i := 430) (by decide +kernel)
set_option maxRecDepth 100000 in
theorem e_ssi : Cond.initialized Bundle.tN ∈ lw_tbl := List.mem_of_getElem? (i := 80) (by decide +kernel)
set_option maxRecDepth 100000 in
theorem e_ss1 : Cond.isRef (.static Bundle.tN "SUPPRESSED_SENTINEL" Bundle.listD) ∈ e_n := List.mem_of_getElem? (i := 34) (by decide +kernel)
set_option maxRecDepth 100000 in
theorem e_is0 : Cond.instantiable RJ0 4 ∈ lw_tbl := List.mem_of_getElem? (i := 559) (by decide +kernel)
set_option maxRecDepth 100000 in
theorem e_is1 : Cond.instantiable RJ4 4 ∈ lw_tbl := List.mem_of_getElem? (i := 229) (by decide +kernel)
set_option maxRecDepth 100000 in
theorem e_is2 : Cond.instantiable RJx00060 6 ∈ lw_tbl := List.mem_of_getElem? (i := 544) (by decide +kernel)
set_option maxRecDepth 100000 in
theorem e_is3 : Cond.instantiable RJx7c733 6 ∈ lw_tbl := List.mem_of_getElem? (i := 1043) (by decide +kernel)
set_option maxRecDepth 100000 in
theorem e_is4 : Cond.instantiable RX2 3 ∈ lw_tbl := List.mem_of_getElem? (i := 203) (by decide +kernel)
set_option maxRecDepth 100000 in
theorem e_is5 : Cond.instantiable RX3 6 ∈ lw_tbl := List.mem_of_getElem? (i := 223) (by decide +kernel)
set_option maxRecDepth 100000 in
theorem e_is6 : Cond.instantiable RX4 4 ∈ lw_tbl := List.mem_of_getElem? (i := 109) (by decide +kernel)
set_option maxRecDepth 100000 in
theorem e_is7 : Cond.instantiable RX6 14 ∈ lw_tbl := List.mem_of_getElem? (i := 116) (by decide +kernel)
set_option maxRecDepth 100000 in
theorem e_is8 : Cond.instantiable RX8 11 ∈ lw_tbl := List.mem_of_getElem? (i := 101) (by decide +kernel)
set_option maxRecDepth 100000 in
theorem e_is9 : Cond.instantiable RX9 19 ∈ lw_tbl := List.mem_of_getElem? (i := 1471) (by decide +kernel)
set_option maxRecDepth 100000 in
theorem e_ac_int : Cond.arrayClass .int ∈ lw_tbl := List.mem_of_getElem? (i := 185) (by decide +kernel)
set_option maxRecDepth 100000 in
theorem e_ac_byte : Cond.arrayClass .byte ∈ lw_tbl := List.mem_of_getElem? (i := 260) (by decide +kernel)
set_option maxRecDepth 100000 in
theorem e_ac_long : Cond.arrayClass .long ∈ lw_tbl := List.mem_of_getElem? (i := 1933) (by decide +kernel)
set_option maxRecDepth 100000 in
theorem e_ac_double : Cond.arrayClass .double ∈ lw_tbl := List.mem_of_getElem? (i := 1934) (by decide +kernel)
set_option maxRecDepth 100000 in
theorem e_ao_RX6 : Cond.arrayOver (.object RX6) ∈ lw_tbl := List.mem_of_getElem? (i := 115) (by decide +kernel)
set_option maxRecDepth 100000 in
theorem e_ao_RX4 : Cond.arrayOver (.object RX4) ∈ lw_tbl := List.mem_of_getElem? (i := 209) (by decide +kernel)
set_option maxRecDepth 100000 in
theorem e_pr_ensureCapacityInternal : Cond.privateMethod ⟨"java/lang/AbstractStringBuilder", "ensureCapacityInternal", "(I)V"⟩ ∈ lw_tbl := List.mem_of_getElem? (i := 1062) (by decide +kernel)
set_option maxRecDepth 100000 in
theorem e_pi_ensureCapacityInternal : Cond.instanceMethod ⟨"java/lang/AbstractStringBuilder", "ensureCapacityInternal", "(I)V"⟩ ∈ lw_tbl := List.mem_of_getElem? (i := 1063) (by decide +kernel)
set_option maxRecDepth 100000 in
theorem e_pr_newCapacity : Cond.privateMethod ⟨"java/lang/AbstractStringBuilder", "newCapacity", "(I)I"⟩ ∈ lw_tbl := List.mem_of_getElem? (i := 1066) (by decide +kernel)
set_option maxRecDepth 100000 in
theorem e_pi_newCapacity : Cond.instanceMethod ⟨"java/lang/AbstractStringBuilder", "newCapacity", "(I)I"⟩ ∈ lw_tbl := List.mem_of_getElem? (i := 1067) (by decide +kernel)
set_option maxRecDepth 100000 in
theorem e_ps : Cond.selects "java/lang/StringBuilder" ⟨"java/lang/AbstractStringBuilder", "isLatin1", "()Z"⟩ ⟨"java/lang/AbstractStringBuilder", "isLatin1", "()Z"⟩ ∈ lw_tbl := List.mem_of_getElem? (i := 1095) (by decide +kernel)
set_option maxRecDepth 100000 in
theorem e_pb : Cond.instantiable "java/lang/StringBuilder" 4 ∈ lw_tbl := List.mem_of_getElem? (i := 229) (by decide +kernel)
theorem s_selP {y z x : MethodName} {C : String} {s : State} {args : Array Value} {n : Nat} (hy : y.cls ≠ "java/lang/invoke/MethodHandle" ∧ y.cls ≠ "java/lang/invoke/VarHandle") (hins : (Cond.instantiable C n).before args s = true) (hpriv : (Cond.privateMethod y).before args s = true) (hinst : (Cond.instanceMethod y).before args s = true) (hsel : (Cond.selects C x z).before args s = true) (hz : z.cls = y.cls) : (Cond.selects C y y).before args s = true := by
  obtain ⟨c, k, hc, hk, -, hniab, -, -⟩ := Cond.instantiable_spec hins
  obtain ⟨mk, methM, hnamed, hmethM, -, -⟩ := Cond.instanceMethod_spec hinst
  have hfound : s.methodFound? y.cls y.name y.desc = some mk := State.methodFound?_of_named hnamed hy
  have hsl : selectMethod {} s.vm c mk = .method mk := selectMethod_private hmethM (Cond.privateMethod_at hpriv mk methM hnamed hmethM)
  have hni : (s.vm.classes[mk.cls]?).any (!·.isInterface) = true := by
    simp only [Cond.before, Cond.holds, Cond.value, hc] at hsel
    cases hr : s.methodFound? x.cls x.name x.desc with
    | none => simp [hr] at hsel
    | some r =>
      cases hm : s.methodNamed? z with
      | none => simp [hr, hm] at hsel
      | some m1 =>
        have e : m1.cls = mk.cls := Option.some.inj ((findClass_of_methodNamed hm).symm.trans ((hz ▸ findClass_of_methodNamed hnamed)))
        simp only [hr, hm] at hsel
        cases hs : selectMethod {} s.vm c r with
        | method m2 =>
          simp only [hs] at hsel
          rw [← e]
          have h9 : (decide (m2 = m1) && (s.vm.classes[m1.cls]?).any (!·.isInterface)) = true := Option.some.inj (eq_of_beq hsel)
          exact (Bool.and_eq_true _ _ ▸ h9).2
        | _ => simp [hs] at hsel
  simp only [Cond.before, Cond.holds, Cond.value, hc, hfound, hnamed, hsl]
  simp
  simpa using hni
/-- texts that differ lie apart -/
theorem e_Sof {args : Array Value} {s : State} {A : Nat → Prop} (hn : ∀ w ∈ e_n, w.before args s = true) (hA : ∀ a : Nat, a < s.heap.size → ¬ A a) :
    ∃ adK adV : Nat → Nat, vk_S 17 q_sl q_sb adK adV A s s.heap ∧ ∀ i : Nat, i < 17 → (e_tm i).eval args s none [] s = some (.ref (adK i)) := by
  have h0 : ∀ i : Nat, ∃ q : Nat × Nat, i < 17 → (e_tm i).eval args s none [] s = some (.ref q.1) ∧ va_O "java/lang/String" q.1 A s s.heap ∧ va_OF "java/lang/String" "coder" "B" (.int 0) q.1 A s s.heap ∧ va_OF "java/lang/String" "value" "[B" (.ref q.2) q.1 A s s.heap ∧ va_T .byte q.2 (q_sl.getD i 0) (fun j => .int ((q_sb.getD i []).getD j 0)) A s s.heap := by
    intro i
    by_cases hi : i < 17
    · obtain ⟨a, c, cA, kA, q1, q2, q3, q4, q5, q6, -⟩ := Cond.exactly_spec (args := args) (first := s) (o := none) (s := s) (idx := []) (t := e_tm i) (cls := "java/lang/String") (hn _ (List.mem_of_getElem? (e_t1 i hi)))
      obtain ⟨t, ht, hT⟩ := va_Tof (f := fun j => .int ((q_sb.getD i []).getD j 0)) (A := A) (N := q_sl.getD i 0) (by have := e_t7 i hi; omega) (hn _ (List.mem_of_getElem? (e_t3 i hi))) (va_eqt (hn _ (List.mem_of_getElem? (e_t4 i hi)))) (fun j hj => va_eqt (hn _ (List.mem_of_getElem? (e_t5 i hi j hj)))) hA
      exact ⟨(a, t), fun _ => ⟨q1, ⟨cA, q3, q5, by rw [q6]; exact q2, hA a (Array.getElem?_eq_some_iff.mp q3).1⟩, vk_OFof q1 (va_eqt (hn _ (List.mem_of_getElem? (e_t2 i hi)))) hA, vk_OFof q1 ht hA, hT⟩⟩
    · exact ⟨(0, 0), fun h => absurd h hi⟩
  obtain ⟨ad, had⟩ := Classical.axiomOfChoice h0
  refine ⟨fun i => (ad i).1, fun i => (ad i).2, ⟨fun i hi => (had i hi).2, fun i j hi hj e => ?_⟩, fun i hi => (had i hi).1⟩
  have e : (ad i).1 = (ad j).1 := e
  obtain ⟨cf, k, fi, f, cell, a1, a2, a3, a4, a5, a6⟩ := (had i hi).2.2.2.1
  obtain ⟨cf', k', fi', f', cell', b1, b2, b3, b4, b5, b6⟩ := (had j hj).2.2.2.1
  have e1 : f' = f := by
    have := b1.symm.trans a1
    simp only [Option.some.injEq, Prod.mk.injEq] at this
    exact this.2.2.2
  have e2 : cell' = cell := Option.some.inj (b3.symm.trans (e ▸ a3))
  subst e1
  subst e2
  have e3 : (ad i).2 = (ad j).2 := by
    have := a5.symm.trans b5
    simp only [Option.some.injEq, Value.ref.injEq] at this
    exact this
  obtain ⟨ce, x1, x2, x3, x4, x5, x6, x7⟩ := (had i hi).2.2.2.2
  obtain ⟨ce', y1, y2, y3, y4, y5, y6, y7⟩ := (had j hj).2.2.2.2
  have e4 : ce' = ce := Option.some.inj (y1.symm.trans (e3 ▸ x1))
  subst e4
  have e5 : Int32.ofNat (q_sl.getD i 0) = Int32.ofNat (q_sl.getD j 0) := x5.symm.trans y5
  refine e_t6 i hi j hj e5 fun n hn1 => ?_
  have h1 := x6 n hn1
  have h2 := y6 n (by rw [← e_t8 i hi j hj e5]; exact hn1)
  have := h1.symm.trans h2
  simp only [Option.some.injEq, Value.int.injEq] at this
  exact this
theorem e_En {E dd : String} {nm : List String} {F : List (String × String × String × List Int32)} {ad ad' : Nat → Nat} {A : Nat → Prop} {U : State} {H : Heap} (he : ∀ i, i < nm.length → ad' i = ad i) (h : va_En E dd nm F ad A U H) : va_En E dd nm F ad' A U H := by
  refine ⟨fun i hi => ?_, fun i j hi hj e => h.2 i j hi hj (by rw [← he i hi, ← he j hj]; exact e)⟩
  rw [he i hi]
  exact h.1 i hi
theorem e_kp {args : Array Value} {s : State} {ty : FieldType} (hp : ∀ C, ty ≠ .object C) (h : (Cond.arrayClass ty).before args s = true) : ∃ cA, ArrOfT s cA ty ∧ va_RA s cA ty := by
  obtain ⟨c, k, comp, h1, h2, h3⟩ := Cond.arrayClass_spec h
  refine ⟨c, fun n z => ⟨fun k h => (by cases h), k, h2, comp, h3⟩, ?_⟩
  cases ty with
  | object C => exact absurd rfl (hp C)
  | _ => exact h1
theorem e_ko {args : Array Value} {s : State} {C : String} (h : (Cond.arrayOver (.object C)).before args s = true) : ∃ cA, ArrOfT s cA (.object C) ∧ va_RA s cA (.object C) := by
  obtain ⟨comp, c, k, h1, h2, h3, h4, h5⟩ := Cond.arrayOver_spec h
  exact ⟨c, fun n z => ⟨fun k h => (by cases h), k, h3, comp, h4⟩, k, comp, h3, h4, h1, h5⟩
set_option maxRecDepth 100000 in
theorem q_u_Jx00060 : ∀ w ∈ u_ws RJx00060 TJx00060 6, w ∈ q_W := fun w h => q_W_in ((by decide +kernel : ∀ w ∈ u_ws RJx00060 TJx00060 6, w ∈ lw_tbl) w h) ((by decide +kernel : ∀ w ∈ u_ws RJx00060 TJx00060 6, goodWord w = true) w h)
set_option maxRecDepth 100000 in
theorem q_u_Jx7c733 : ∀ w ∈ u_ws RJx7c733 TJx7c733 6, w ∈ q_W := fun w h => q_W_in ((by decide +kernel : ∀ w ∈ u_ws RJx7c733 TJx7c733 6, w ∈ lw_tbl) w h) ((by decide +kernel : ∀ w ∈ u_ws RJx7c733 TJx7c733 6, goodWord w = true) w h)
set_option maxRecDepth 100000 in
theorem e_K {args : Array Value} {s : State} (hts : ∀ w ∈ lw_tbl, w.before args s = true) : ∃ (D : va_G) (κ : Nat → ClassId), va_K D vwCl (q_tys κ) s := by
  have hq : ∀ w ∈ q_W, w.before args s = true := fun w hw => hts w (List.mem_filter.mp hw).1
  obtain ⟨c0, i0, hc0⟩ := u_known hq q_u_J0 (hts _ e_is0)
  obtain ⟨c1, i1, hc1⟩ := u_known hq q_u_J4 (hts _ e_is1)
  obtain ⟨c2, i2, hc2⟩ := u_known hq q_u_Jx00060 (hts _ e_is2)
  obtain ⟨c3, i3, hc3⟩ := u_known hq q_u_Jx7c733 (hts _ e_is3)
  obtain ⟨c4, i4, hc4⟩ := u_known hq q_u_X2 (hts _ e_is4)
  obtain ⟨c5, i5, hc5⟩ := u_known hq q_u_X3 (hts _ e_is5)
  obtain ⟨c6, i6, hc6⟩ := u_known hq q_u_X4 (hts _ e_is6)
  obtain ⟨c7, i7, hc7⟩ := u_known hq q_u_X6 (hts _ e_is7)
  obtain ⟨c8, i8, hc8⟩ := u_known hq q_u_X8 (hts _ e_is8)
  obtain ⟨c9, i9, hc9⟩ := u_known hq q_u_X9 (hts _ e_is9)
  obtain ⟨k0, hk0⟩ := e_kp (fun C => by simp) (hts _ e_ac_int)
  obtain ⟨k1, hk1⟩ := e_kp (fun C => by simp) (hts _ e_ac_byte)
  obtain ⟨k2, hk2⟩ := e_kp (fun C => by simp) (hts _ e_ac_long)
  obtain ⟨k3, hk3⟩ := e_kp (fun C => by simp) (hts _ e_ac_double)
  obtain ⟨k4, hk4⟩ := e_ko (hts _ e_ao_RX6)
  obtain ⟨k5, hk5⟩ := e_ko (hts _ e_ao_RX4)
  refine ⟨(fun c => ([c0, c1, c2, c3, c4, c5, c6, c7, c8, c9] : List ClassId).getD c c0, fun c => ([i0, i1, i2, i3, i4, i5, i6, i7, i8, i9] : List (Nat → Nat)).getD c i0), fun c => ([k0, k1, k2, k3, k4, k5] : List ClassId).getD c k0, fun c q hq => ?_, fun k q hq => ?_⟩
  · have hl : c < 10 := (List.getElem?_eq_some_iff.mp hq).1
    rcases (show c = 0 ∨ c = 1 ∨ c = 2 ∨ c = 3 ∨ c = 4 ∨ c = 5 ∨ c = 6 ∨ c = 7 ∨ c = 8 ∨ c = 9 by omega) with rfl | rfl | rfl | rfl | rfl | rfl | rfl | rfl | rfl | rfl
    · cases hq; exact hc0
    · cases hq; exact hc1
    · cases hq; exact hc2
    · cases hq; exact hc3
    · cases hq; exact hc4
    · cases hq; exact hc5
    · cases hq; exact hc6
    · cases hq; exact hc7
    · cases hq; exact hc8
    · cases hq; exact hc9
  · have hl : k < 6 := (List.getElem?_eq_some_iff.mp hq).1
    rcases (show k = 0 ∨ k = 1 ∨ k = 2 ∨ k = 3 ∨ k = 4 ∨ k = 5 by omega) with rfl | rfl | rfl | rfl | rfl | rfl
    · cases hq; exact hk0
    · cases hq; exact hk1
    · cases hq; exact hk2
    · cases hq; exact hk3
    · cases hq; exact hk4
    · cases hq; exact hk5
