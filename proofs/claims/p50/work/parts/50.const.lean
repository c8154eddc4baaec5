/-! What the start gives: constants, tables, texts, classes. -/
def e_n : List Cond := flatC narrow_1
set_option maxRecDepth 100000 in
theorem e_S1 : ∀ i, i < 5 → lw_tbl[([68, 600, 490, 492, 498] : List Nat).getD i 0]? = some (Cond.laysStatic RX5 (q_nS.getD i "") "LQuillRelay$Stage;") := by decide +kernel
set_option maxRecDepth 100000 in
theorem e_S2 : ∀ i, i < 5 → e_n[([2, 273, 218, 222, 227] : List Nat).getD i 0]? = some (Cond.exactly (.static RX5 (q_nS.getD i "") "LQuillRelay$Stage;") RX5) := by decide +kernel
set_option maxRecDepth 100000 in
theorem e_S0 : Cond.initialized RX5 ∈ lw_tbl := List.mem_of_getElem? (i := 25) (by decide +kernel)
set_option maxRecDepth 100000 in
theorem e_F1 : ∀ i, i < 5 → lw_tbl[([542, 547, 550, 540, 572] : List Nat).getD i 0]? = some (Cond.laysStatic RX1 (q_nF.getD i "") "LQuillRelay$Fault;") := by decide +kernel
set_option maxRecDepth 100000 in
theorem e_F2 : ∀ i, i < 5 → e_n[([239, 246, 254, 233, 263] : List Nat).getD i 0]? = some (Cond.exactly (.static RX1 (q_nF.getD i "") "LQuillRelay$Fault;") RX1) := by decide +kernel
set_option maxRecDepth 100000 in
theorem e_F0 : Cond.initialized RX1 ∈ lw_tbl := List.mem_of_getElem? (i := 33) (by decide +kernel)
set_option maxRecDepth 100000 in
theorem e_V1 : ∀ i, i < 8 → lw_tbl[([984, 1426, 1427, 1428, 1429, 1430, 1431, 1432] : List Nat).getD i 0]? = some (Cond.laysStatic RX7 (q_nV.getD i "") "LQuillRelay$Verb;") := by decide +kernel
set_option maxRecDepth 100000 in
theorem e_V2 : ∀ i, i < 8 → e_n[([285, 322, 336, 351, 367, 384, 402, 421] : List Nat).getD i 0]? = some (Cond.exactly (.static RX7 (q_nV.getD i "") "LQuillRelay$Verb;") RX7) := by decide +kernel
set_option maxRecDepth 100000 in
theorem e_V0 : Cond.initialized RX7 ∈ lw_tbl := List.mem_of_getElem? (i := 32) (by decide +kernel)
set_option maxRecDepth 100000 in
theorem e_S3 : ∀ i, i < 5 → e_n[([4, 275, 220, 224, 229] : List Nat).getD i 0]? = some (Cond.eq (.field (.static RX5 (q_nS.getD i "") "LQuillRelay$Stage;") "QuillRelay$Stage" "rankGroup" "I") (.int (([3, 1, 1, 0, 2] : List Int32).getD i 0))) := by decide +kernel
set_option maxRecDepth 100000 in
theorem e_V3 : ∀ i, i < 8 → e_n[([286, 323, 337, 352, 368, 385, 403, 422] : List Nat).getD i 0]? = some (Cond.eq (.field (.static RX7 (q_nV.getD i "") "LQuillRelay$Verb;") "java/lang/Enum" "ordinal" "I") (.int (([0, 1, 2, 3, 4, 5, 6, 7] : List Int32).getD i 0))) := by decide +kernel
def e_et : List (String × String × String) := [(RX5, "ABSENT", "LQuillRelay$Stage;"), (RX5, "READY", "LQuillRelay$Stage;"), (RX5, "RUNNING", "LQuillRelay$Stage;"), (RX5, "FINISHED", "LQuillRelay$Stage;"), (RX5, "WITHDRAWN", "LQuillRelay$Stage;"), (RX1, "NONE", "LQuillRelay$Fault;"), (RX1, "INDEX", "LQuillRelay$Fault;"), (RX1, "ARGUMENT", "LQuillRelay$Fault;"), (RX1, "STATE", "LQuillRelay$Fault;"), (RX1, "REFUSED", "LQuillRelay$Fault;"), (RX7, "START", "LQuillRelay$Verb;"), (RX7, "RUN", "LQuillRelay$Verb;"), (RX7, "PASS", "LQuillRelay$Verb;"), (RX7, "DROP", "LQuillRelay$Verb;"), (RX7, "QUIT", "LQuillRelay$Verb;"), (RX7, "PROTEST", "LQuillRelay$Verb;"), (RX7, "SPEED", "LQuillRelay$Verb;"), (RX7, "DRAW", "LQuillRelay$Verb;")]
def e_te (i : Nat) : Term := .static (e_et.getD i ("", "", "")).1 (e_et.getD i ("", "", "")).2.1 (e_et.getD i ("", "", "")).2.2
def e_px : List (List Nat) := [[0, 276, 221, 225, 230, 241, 248, 256, 235, 265, 288, 325, 339, 354, 370, 387, 405, 424],
  [276, 0, 277, 278, 279, 281, 282, 283, 280, 284, 297, 334, 348, 363, 379, 396, 414, 433],
  [221, 277, 0, 226, 231, 242, 249, 257, 236, 266, 289, 326, 340, 355, 371, 388, 406, 425],
  [225, 278, 226, 0, 232, 243, 250, 258, 237, 267, 290, 327, 341, 356, 372, 389, 407, 426],
  [230, 279, 231, 232, 0, 244, 251, 259, 238, 268, 291, 328, 342, 357, 373, 390, 408, 427],
  [241, 281, 242, 243, 244, 0, 253, 261, 245, 270, 293, 330, 344, 359, 375, 392, 410, 429],
  [248, 282, 249, 250, 251, 253, 0, 262, 252, 271, 294, 331, 345, 360, 376, 393, 411, 430],
  [256, 283, 257, 258, 259, 261, 262, 0, 260, 272, 295, 332, 346, 361, 377, 394, 412, 431],
  [235, 280, 236, 237, 238, 245, 252, 260, 0, 269, 292, 329, 343, 358, 374, 391, 409, 428],
  [265, 284, 266, 267, 268, 270, 271, 272, 269, 0, 296, 333, 347, 362, 378, 395, 413, 432],
  [288, 297, 289, 290, 291, 293, 294, 295, 292, 296, 0, 335, 349, 364, 380, 397, 415, 434],
  [325, 334, 326, 327, 328, 330, 331, 332, 329, 333, 335, 0, 350, 365, 381, 398, 416, 435],
  [339, 348, 340, 341, 342, 344, 345, 346, 343, 347, 349, 350, 0, 366, 382, 399, 417, 436],
  [354, 363, 355, 356, 357, 359, 360, 361, 358, 362, 364, 365, 366, 0, 383, 400, 418, 437],
  [370, 379, 371, 372, 373, 375, 376, 377, 374, 378, 380, 381, 382, 383, 0, 401, 419, 438],
  [387, 396, 388, 389, 390, 392, 393, 394, 391, 395, 397, 398, 399, 400, 401, 0, 420, 439],
  [405, 414, 406, 407, 408, 410, 411, 412, 409, 413, 415, 416, 417, 418, 419, 420, 0, 440],
  [424, 433, 425, 426, 427, 429, 430, 431, 428, 432, 434, 435, 436, 437, 438, 439, 440, 0]]
set_option maxRecDepth 100000 in
theorem e_p : ∀ i, i < 18 → ∀ j, j < 18 → i ≠ j → e_n[(e_px.getD i []).getD j 0]? = some (.not (.eq (e_te i) (e_te j))) ∨ e_n[(e_px.getD i []).getD j 0]? = some (.not (.eq (e_te j) (e_te i))) := by decide +kernel
set_option maxRecDepth 100000 in
theorem e_S9 : ∀ i, i < 5 → e_te (0 + i) = .static RX5 (q_nS.getD i "") "LQuillRelay$Stage;" := by decide +kernel
set_option maxRecDepth 100000 in
theorem e_F9 : ∀ i, i < 5 → e_te (5 + i) = .static RX1 (q_nF.getD i "") "LQuillRelay$Fault;" := by decide +kernel
set_option maxRecDepth 100000 in
theorem e_V9 : ∀ i, i < 8 → e_te (10 + i) = .static RX7 (q_nV.getD i "") "LQuillRelay$Verb;" := by decide +kernel
def e_ts : List (String × Nat) := [(RX7, 52), (RX7, 58), (RX7, 61), (RX7, 64), (RX7, 67), (RX7, 70), (RX7, 73), (RX7, 76), (RL, 157), (RL, 166), (RL, 172), (RL, 174), (RL, 176), (RL, 178), (RL, 180), (RL, 182)]
def e_tm (i : Nat) : Term := .string (e_ts.getD i ("", 0)).1 (e_ts.getD i ("", 0)).2
set_option maxRecDepth 100000 in
theorem e_t1 : ∀ i, i < 16 → e_n[([1272, 1281, 1290, 1300, 1312, 1322, 1337, 1352, 996, 1004, 1014, 1024, 1029, 1042, 1047, 1057] : List Nat).getD i 0]? = some (Cond.exactly (e_tm i) "java/lang/String") := by decide +kernel
set_option maxRecDepth 100000 in
theorem e_t2 : ∀ i, i < 16 → e_n[([1273, 1282, 1291, 1301, 1313, 1323, 1338, 1353, 997, 1005, 1015, 1025, 1030, 1043, 1048, 1058] : List Nat).getD i 0]? = some (Cond.eq (.field (e_tm i) "java/lang/String" "coder" "B") (.int 0)) := by decide +kernel
set_option maxRecDepth 100000 in
theorem e_t3 : ∀ i, i < 16 → e_n[([1274, 1283, 1292, 1302, 1314, 1324, 1339, 1354, 998, 1006, 1016, 1026, 1031, 1044, 1049, 1059] : List Nat).getD i 0]? = some (Cond.arrayOf (.field (e_tm i) "java/lang/String" "value" "[B") .byte) := by decide +kernel
set_option maxRecDepth 100000 in
theorem e_t4 : ∀ i, i < 16 → e_n[([1275, 1284, 1293, 1303, 1315, 1325, 1340, 1355, 999, 1007, 1017, 1027, 1032, 1045, 1050, 1060] : List Nat).getD i 0]? = some (Cond.eq (.length (.field (e_tm i) "java/lang/String" "value" "[B")) (.int (Int32.ofNat (q_sl.getD i 0)))) := by decide +kernel
set_option maxRecDepth 100000 in
theorem e_t5 : ∀ i, i < 16 → ∀ j, j < q_sl.getD i 0 → e_n[([1276, 1285, 1294, 1304, 1316, 1326, 1341, 1356, 1000, 1008, 1018, 1028, 1033, 1046, 1051, 1061] : List Nat).getD i 0 + j]? = some (Cond.eq (.elem (.field (e_tm i) "java/lang/String" "value" "[B") (.int (Int32.ofNat j))) (.int ((q_sb.getD i []).getD j 0))) := by decide +kernel
set_option maxRecDepth 100000 in
theorem e_t6 : ∀ i, i < 16 → ∀ j, j < 16 → Int32.ofNat (q_sl.getD i 0) = Int32.ofNat (q_sl.getD j 0) → (∀ n, n < q_sl.getD i 0 → (q_sb.getD i []).getD n 0 = (q_sb.getD j []).getD n 0) → i = j := by decide +kernel
theorem e_t7 : ∀ i, i < 16 → q_sl.getD i 0 < 12 := by decide +kernel
theorem e_t8 : ∀ i, i < 16 → ∀ j, j < 16 → Int32.ofNat (q_sl.getD i 0) = Int32.ofNat (q_sl.getD j 0) → q_sl.getD i 0 = q_sl.getD j 0 := by decide +kernel
set_option maxRecDepth 100000 in
theorem e_k1 : ∀ i, i < 8 → lw_tbl[([1128, 1131, 1133, 1134, 1135, 1136, 1137, 1138] : List Nat).getD i 0]? = some (Cond.stringRef RL (q_mk.getD i (0, "")).1 (q_mk.getD i (0, "")).2) := by decide +kernel
set_option maxRecDepth 100000 in
theorem e_k2 : ∀ i, i < 8 → e_n[([287, 324, 338, 353, 369, 386, 404, 423] : List Nat).getD i 0]? = some (Cond.eq (.field (.static RX7 (q_nV.getD i "") "LQuillRelay$Verb;") RX7 "pattern" "Ljava/lang/String;") (e_tm i)) := by decide +kernel
theorem e_k3 : ∀ i, i < 8 → e_tm (8 + i) = .string RL (q_mk.getD i (0, "")).1 := by decide +kernel
set_option maxRecDepth 100000 in
theorem e_m1 : ∀ i, i < 21 → lw_tbl[([548, 552, 564, 582, 117, 1349, 728, 1287, 742, 1300, 769, 1376, 781, 794, 795, 1162, 1163, 1249, 1250, 808, 820] : List Nat).getD i 0]? = some (Cond.stringRef RX8 (q_msg.getD i (0, "")).1 (q_msg.getD i (0, "")).2) := by decide +kernel
set_option maxRecDepth 100000 in
theorem e_m2 : ∀ i, i < 21 → e_n[([679, 702, 733, 763, 560, 1224, 786, 1171, 801, 1195, 826, 1248, 842, 883, 910, 1062, 1101, 1123, 1151, 947, 972] : List Nat).getD i 0]? = some (Cond.exactly (.string RX8 (q_msg.getD i (0, "")).1) "java/lang/String") := by decide +kernel
set_option maxRecDepth 100000 in
theorem e_w1 : ∀ w ∈ q_NW, w ∈ lw_tbl := by decide +kernel
set_option maxRecDepth 100000 in
theorem e_w2 : ∀ w ∈ q_XW.take 38, w ∈ lw_tbl := by decide +kernel
set_option maxRecDepth 100000 in
theorem e_w3 : ∀ a ∈ q_XS, ∀ b ∈ q_XS, a ≠ b → Cond.not (.castable a b) ∈ e_n := by decide +kernel
theorem e_w4 : ∀ w ∈ q_NW, w.onTables = true := by decide +kernel
theorem e_w5 : ∀ w ∈ q_XW, w.onTables = true := by decide +kernel
set_option maxRecDepth 100000 in
theorem e_vb0 : Cond.laysStatic RX3 "VERBS" "[LQuillRelay$Verb;" ∈ lw_tbl := List.mem_of_getElem? (i := 1200) (by decide +kernel)
set_option maxRecDepth 100000 in
theorem e_vbi : Cond.initialized RX3 ∈ lw_tbl := List.mem_of_getElem? (i := 27) (by decide +kernel)
set_option maxRecDepth 100000 in
theorem e_vb1 : Cond.arrayOf (.static RX3 "VERBS" "[LQuillRelay$Verb;") (.object RX7) ∈ e_n := List.mem_of_getElem? (i := 300) (by decide +kernel)
set_option maxRecDepth 100000 in
theorem e_vb2 : Cond.eq (.length (.static RX3 "VERBS" "[LQuillRelay$Verb;")) (.int (Int32.ofNat 8)) ∈ e_n := List.mem_of_getElem? (i := 301) (by decide +kernel)
set_option maxRecDepth 100000 in
theorem e_vb3 : ∀ j, j < 8 → e_n[303 + j]? = some (Cond.eq (.elem (.static RX3 "VERBS" "[LQuillRelay$Verb;") (.int (Int32.ofNat j))) (.static RX7 (q_nV.getD j "") "LQuillRelay$Verb;")) := by decide +kernel
set_option maxRecDepth 100000 in
theorem e_sm0 : Cond.laysStatic RX0 "$SwitchMap$QuillRelay$Verb" "[I" ∈ lw_tbl := List.mem_of_getElem? (i := 1238) (by decide +kernel)
set_option maxRecDepth 100000 in
theorem e_smi : Cond.initialized RX0 ∈ lw_tbl := List.mem_of_getElem? (i := 52) (by decide +kernel)
set_option maxRecDepth 100000 in
theorem e_sm1 : Cond.arrayOf (.static RX0 "$SwitchMap$QuillRelay$Verb" "[I") .int ∈ e_n := List.mem_of_getElem? (i := 312) (by decide +kernel)
set_option maxRecDepth 100000 in
theorem e_sm2 : Cond.eq (.length (.static RX0 "$SwitchMap$QuillRelay$Verb" "[I")) (.int (Int32.ofNat 8)) ∈ e_n := List.mem_of_getElem? (i := 313) (by decide +kernel)
set_option maxRecDepth 100000 in
theorem e_sm3 : ∀ j, j < 8 → e_n[314 + j]? = some (Cond.eq (.elem (.static RX0 "$SwitchMap$QuillRelay$Verb" "[I") (.int (Int32.ofNat j))) (.int (nI ((j + 1) % 8)))) := by decide +kernel
set_option maxRecDepth 100000 in
theorem e_do0 : Cond.laysStatic "java/lang/Integer" "DigitOnes" "[B" ∈ lw_tbl := List.mem_of_getElem? (i := 323) (by decide +kernel)
set_option maxRecDepth 100000 in
theorem e_doi : Cond.initialized "java/lang/Integer" ∈ lw_tbl := List.mem_of_getElem? (i := 51) (by decide +kernel)
set_option maxRecDepth 100000 in
theorem e_do1 : Cond.arrayOf (.static "java/lang/Integer" "DigitOnes" "[B") .byte ∈ e_n := List.mem_of_getElem? (i := 13) (by decide +kernel)
set_option maxRecDepth 100000 in
theorem e_do2 : Cond.eq (.length (.static "java/lang/Integer" "DigitOnes" "[B")) (.int (Int32.ofNat 100)) ∈ e_n := List.mem_of_getElem? (i := 14) (by decide +kernel)
set_option maxRecDepth 100000 in
theorem e_do3 : ∀ j, j < 100 → e_n[15 + j]? = some (Cond.eq (.elem (.static "java/lang/Integer" "DigitOnes" "[B") (.int (Int32.ofNat j))) (.int (nI (48 + j % 10)))) := by decide +kernel
set_option maxRecDepth 100000 in
theorem e_dt0 : Cond.laysStatic "java/lang/Integer" "DigitTens" "[B" ∈ lw_tbl := List.mem_of_getElem? (i := 325) (by decide +kernel)
set_option maxRecDepth 100000 in
theorem e_dti : Cond.initialized "java/lang/Integer" ∈ lw_tbl := List.mem_of_getElem? (i := 51) (by decide +kernel)
set_option maxRecDepth 100000 in
theorem e_dt1 : Cond.arrayOf (.static "java/lang/Integer" "DigitTens" "[B") .byte ∈ e_n := List.mem_of_getElem? (i := 116) (by decide +kernel)
set_option maxRecDepth 100000 in
theorem e_dt2 : Cond.eq (.length (.static "java/lang/Integer" "DigitTens" "[B")) (.int (Int32.ofNat 100)) ∈ e_n := List.mem_of_getElem? (i := 117) (by decide +kernel)
set_option maxRecDepth 100000 in
theorem e_dt3 : ∀ j, j < 100 → e_n[118 + j]? = some (Cond.eq (.elem (.static "java/lang/Integer" "DigitTens" "[B") (.int (Int32.ofNat j))) (.int (nI (48 + j / 10)))) := by decide +kernel
set_option maxRecDepth 100000 in
theorem e_c0 : Cond.laysStatic "java/lang/String" "COMPACT_STRINGS" "Z" ∈ lw_tbl := List.mem_of_getElem? (i := 167) (by decide +kernel)
set_option maxRecDepth 100000 in
theorem e_ci : Cond.initialized "java/lang/String" ∈ lw_tbl := List.mem_of_getElem? (i := 30) (by decide +kernel)
set_option maxRecDepth 100000 in
theorem e_c1 : Cond.eq (.static "java/lang/String" "COMPACT_STRINGS" "Z") (.int 1) ∈ e_n := List.mem_of_getElem? (i := 7) (by decide +kernel)
set_option maxRecDepth 100000 in
theorem e_sf0 : Cond.laysStatic "jdk/internal/util/Preconditions" "SIOOBE_FORMATTER" "Ljava/util/function/BiFunction;" ∈ lw_tbl := List.mem_of_getElem? (i := 253) (by decide +kernel)
set_option maxRecDepth 100000 in
theorem e_sfi : Cond.initialized "jdk/internal/util/Preconditions" ∈ lw_tbl := List.mem_of_getElem? (i := 48) (by decide +kernel)
set_option maxRecDepth 100000 in
theorem e_sf1 : Cond.isRef (.static "jdk/internal/util/Preconditions" "SIOOBE_FORMATTER" "Ljava/util/function/BiFunction;") ∈ e_n := List.mem_of_getElem? (i := 8) (by decide +kernel)
set_option maxRecDepth 100000 in
theorem e_us0 : Cond.laysStatic Bundle.tN "UNASSIGNED_STACK" Bundle.steD ∈ lw_tbl := List.mem_of_getElem? (i := 98) (by decide +kernel)
set_option maxRecDepth 100000 in
theorem e_usi : Cond.initialized Bundle.tN ∈ lw_tbl := List.mem_of_getElem? (i := 34) (by decide +kernel)
set_option maxRecDepth 100000 in
theorem e_us1 : Cond.isRef (.static Bundle.tN "UNASSIGNED_STACK" Bundle.steD) ∈ e_n := List.mem_of_getElem? (i := 5) (by decide +kernel)
set_option maxRecDepth 100000 in
theorem e_ss0 : Cond.laysStatic Bundle.tN "SUPPRESSED_SENTINEL" Bundle.listD ∈ lw_tbl := List.mem_of_getElem? (i := 100) (by decide +kernel)
set_option maxRecDepth 100000 in
theorem e_ssi : Cond.initialized Bundle.tN ∈ lw_tbl := List.mem_of_getElem? (i := 34) (by decide +kernel)
set_option maxRecDepth 100000 in
theorem e_ss1 : Cond.isRef (.static Bundle.tN "SUPPRESSED_SENTINEL" Bundle.listD) ∈ e_n := List.mem_of_getElem? (i := 6) (by decide +kernel)
set_option maxRecDepth 100000 in
theorem e_is0 : Cond.instantiable RJ0 4 ∈ lw_tbl := List.mem_of_getElem? (i := 339) (by decide +kernel)
set_option maxRecDepth 100000 in
theorem e_is1 : Cond.instantiable RJ4 4 ∈ lw_tbl := List.mem_of_getElem? (i := 158) (by decide +kernel)
set_option maxRecDepth 100000 in
theorem e_is2 : Cond.instantiable RJx00060 6 ∈ lw_tbl := List.mem_of_getElem? (i := 436) (by decide +kernel)
set_option maxRecDepth 100000 in
theorem e_is3 : Cond.instantiable RJx7c733 6 ∈ lw_tbl := List.mem_of_getElem? (i := 153) (by decide +kernel)
set_option maxRecDepth 100000 in
theorem e_is4 : Cond.instantiable RX2 3 ∈ lw_tbl := List.mem_of_getElem? (i := 956) (by decide +kernel)
set_option maxRecDepth 100000 in
theorem e_is5 : Cond.instantiable RX3 6 ∈ lw_tbl := List.mem_of_getElem? (i := 976) (by decide +kernel)
set_option maxRecDepth 100000 in
theorem e_is6 : Cond.instantiable RX4 4 ∈ lw_tbl := List.mem_of_getElem? (i := 537) (by decide +kernel)
set_option maxRecDepth 100000 in
theorem e_is7 : Cond.instantiable RX6 14 ∈ lw_tbl := List.mem_of_getElem? (i := 628) (by decide +kernel)
set_option maxRecDepth 100000 in
theorem e_is8 : Cond.instantiable RX8 11 ∈ lw_tbl := List.mem_of_getElem? (i := 61) (by decide +kernel)
set_option maxRecDepth 100000 in
theorem e_ac_int : Cond.arrayClass .int ∈ lw_tbl := List.mem_of_getElem? (i := 938) (by decide +kernel)
set_option maxRecDepth 100000 in
theorem e_ac_byte : Cond.arrayClass .byte ∈ lw_tbl := List.mem_of_getElem? (i := 143) (by decide +kernel)
set_option maxRecDepth 100000 in
theorem e_ao_RX6 : Cond.arrayOver (.object RX6) ∈ lw_tbl := List.mem_of_getElem? (i := 870) (by decide +kernel)
set_option maxRecDepth 100000 in
theorem e_ao_RX4 : Cond.arrayOver (.object RX4) ∈ lw_tbl := List.mem_of_getElem? (i := 962) (by decide +kernel)
set_option maxRecDepth 100000 in
theorem e_pr_ensureCapacityInternal : Cond.privateMethod ⟨"java/lang/AbstractStringBuilder", "ensureCapacityInternal", "(I)V"⟩ ∈ lw_tbl := List.mem_of_getElem? (i := 201) (by decide +kernel)
set_option maxRecDepth 100000 in
theorem e_pi_ensureCapacityInternal : Cond.instanceMethod ⟨"java/lang/AbstractStringBuilder", "ensureCapacityInternal", "(I)V"⟩ ∈ lw_tbl := List.mem_of_getElem? (i := 202) (by decide +kernel)
set_option maxRecDepth 100000 in
theorem e_pr_newCapacity : Cond.privateMethod ⟨"java/lang/AbstractStringBuilder", "newCapacity", "(I)I"⟩ ∈ lw_tbl := List.mem_of_getElem? (i := 205) (by decide +kernel)
set_option maxRecDepth 100000 in
theorem e_pi_newCapacity : Cond.instanceMethod ⟨"java/lang/AbstractStringBuilder", "newCapacity", "(I)I"⟩ ∈ lw_tbl := List.mem_of_getElem? (i := 206) (by decide +kernel)
set_option maxRecDepth 100000 in
theorem e_pr_putStringAt : Cond.privateMethod ⟨"java/lang/AbstractStringBuilder", "putStringAt", "(ILjava/lang/String;)V"⟩ ∈ lw_tbl := List.mem_of_getElem? (i := 276) (by decide +kernel)
set_option maxRecDepth 100000 in
theorem e_pi_putStringAt : Cond.instanceMethod ⟨"java/lang/AbstractStringBuilder", "putStringAt", "(ILjava/lang/String;)V"⟩ ∈ lw_tbl := List.mem_of_getElem? (i := 277) (by decide +kernel)
set_option maxRecDepth 100000 in
theorem e_pr_inflateIfNeededFor : Cond.privateMethod ⟨"java/lang/AbstractStringBuilder", "inflateIfNeededFor", "(Ljava/lang/String;)V"⟩ ∈ lw_tbl := List.mem_of_getElem? (i := 280) (by decide +kernel)
set_option maxRecDepth 100000 in
theorem e_pi_inflateIfNeededFor : Cond.instanceMethod ⟨"java/lang/AbstractStringBuilder", "inflateIfNeededFor", "(Ljava/lang/String;)V"⟩ ∈ lw_tbl := List.mem_of_getElem? (i := 281) (by decide +kernel)
set_option maxRecDepth 100000 in
theorem e_ps : Cond.selects "java/lang/StringBuilder" ⟨"java/lang/AbstractStringBuilder", "isLatin1", "()Z"⟩ ⟨"java/lang/AbstractStringBuilder", "isLatin1", "()Z"⟩ ∈ lw_tbl := List.mem_of_getElem? (i := 238) (by decide +kernel)
set_option maxRecDepth 100000 in
theorem e_pb : Cond.instantiable "java/lang/StringBuilder" 4 ∈ lw_tbl := List.mem_of_getElem? (i := 158) (by decide +kernel)
theorem s_selP {y z x : MethodName} {C : String} {s : State} {args : Array Value} {n : Nat} (hy : y.cls ≠ "java/lang/invoke/MethodHandle" ∧ y.cls ≠ "java/lang/invoke/VarHandle") (hins : (Cond.instantiable C n).before args s = true) (hpriv : (Cond.privateMethod y).before args s = true) (hinst : (Cond.instanceMethod y).before args s = true) (hsel : (Cond.selects C x z).before args s = true) (hz : z.cls = y.cls) : (Cond.selects C y y).before args s = true := by
  obtain ⟨c, k, hc, hk, -, hniab, -, -⟩ := Cond.instantiable_spec hins
  obtain ⟨mk, methM, hnamed, hmethM, -, -⟩ := Cond.instanceMethod_spec hinst
  have hfound : s.methodFound? y.cls y.name y.desc = some mk := State.methodFound?_of_named hnamed hy
  have hsl : selectMethod {} s.vm c mk = .method mk := selectMethod_private hmethM (Cond.privateMethod_at hpriv mk methM hnamed hmethM)
  have hni : (s.vm.classes[mk.cls]?).any (!·.isInterface) = true := by
    simp only [Cond.before, Cond.holds, Cond.value, hc] at hsel
    cases hr : s.methodFound? x.cls x.name x.desc with
    | none => simp [hr] at hsel
    | some r =>
      cases hm : s.methodNamed? z with
      | none => simp [hr, hm] at hsel
      | some m1 =>
        have e : m1.cls = mk.cls := Option.some.inj ((findClass_of_methodNamed hm).symm.trans ((hz ▸ findClass_of_methodNamed hnamed)))
        simp only [hr, hm] at hsel
        cases hs : selectMethod {} s.vm c r with
        | method m2 =>
          simp only [hs] at hsel
          rw [← e]
          have h9 : (decide (m2 = m1) && (s.vm.classes[m1.cls]?).any (!·.isInterface)) = true := Option.some.inj (eq_of_beq hsel)
          exact (Bool.and_eq_true _ _ ▸ h9).2
        | _ => simp [hs] at hsel
  simp only [Cond.before, Cond.holds, Cond.value, hc, hfound, hnamed, hsl]
  simp
  simpa using hni
/-- texts that differ lie apart -/
theorem e_Sof {args : Array Value} {s : State} {A : Nat → Prop} (hn : ∀ w ∈ e_n, w.before args s = true) (hA : ∀ a : Nat, a < s.heap.size → ¬ A a) :
    ∃ adK adV : Nat → Nat, vk_S 16 q_sl q_sb adK adV A s s.heap ∧ ∀ i : Nat, i < 16 → (e_tm i).eval args s none [] s = some (.ref (adK i)) := by
  have h0 : ∀ i : Nat, ∃ q : Nat × Nat, i < 16 → (e_tm i).eval args s none [] s = some (.ref q.1) ∧ va_O "java/lang/String" q.1 A s s.heap ∧ va_OF "java/lang/String" "coder" "B" (.int 0) q.1 A s s.heap ∧ va_OF "java/lang/String" "value" "[B" (.ref q.2) q.1 A s s.heap ∧ va_T .byte q.2 (q_sl.getD i 0) (fun j => .int ((q_sb.getD i []).getD j 0)) A s s.heap := by
    intro i
    by_cases hi : i < 16
    · obtain ⟨a, c, cA, kA, q1, q2, q3, q4, q5, q6, -⟩ := Cond.exactly_spec (args := args) (first := s) (o := none) (s := s) (idx := []) (t := e_tm i) (cls := "java/lang/String") (hn _ (List.mem_of_getElem? (e_t1 i hi)))
      obtain ⟨t, ht, hT⟩ := va_Tof (f := fun j => .int ((q_sb.getD i []).getD j 0)) (A := A) (N := q_sl.getD i 0) (by have := e_t7 i hi; omega) (hn _ (List.mem_of_getElem? (e_t3 i hi))) (va_eqt (hn _ (List.mem_of_getElem? (e_t4 i hi)))) (fun j hj => va_eqt (hn _ (List.mem_of_getElem? (e_t5 i hi j hj)))) hA
      exact ⟨(a, t), fun _ => ⟨q1, ⟨cA, q3, q5, by rw [q6]; exact q2, hA a (Array.getElem?_eq_some_iff.mp q3).1⟩, vk_OFof q1 (va_eqt (hn _ (List.mem_of_getElem? (e_t2 i hi)))) hA, vk_OFof q1 ht hA, hT⟩⟩
    · exact ⟨(0, 0), fun h => absurd h hi⟩
  obtain ⟨ad, had⟩ := Classical.axiomOfChoice h0
  refine ⟨fun i => (ad i).1, fun i => (ad i).2, ⟨fun i hi => (had i hi).2, fun i j hi hj e => ?_⟩, fun i hi => (had i hi).1⟩
  have e : (ad i).1 = (ad j).1 := e
  obtain ⟨cf, k, fi, f, cell, a1, a2, a3, a4, a5, a6⟩ := (had i hi).2.2.2.1
  obtain ⟨cf', k', fi', f', cell', b1, b2, b3, b4, b5, b6⟩ := (had j hj).2.2.2.1
  have e1 : f' = f := by
    have := b1.symm.trans a1
    simp only [Option.some.injEq, Prod.mk.injEq] at this
    exact this.2.2.2
  have e2 : cell' = cell := Option.some.inj (b3.symm.trans (e ▸ a3))
  subst e1
  subst e2
  have e3 : (ad i).2 = (ad j).2 := by
    have := a5.symm.trans b5
    simp only [Option.some.injEq, Value.ref.injEq] at this
    exact this
  obtain ⟨ce, x1, x2, x3, x4, x5, x6, x7⟩ := (had i hi).2.2.2.2
  obtain ⟨ce', y1, y2, y3, y4, y5, y6, y7⟩ := (had j hj).2.2.2.2
  have e4 : ce' = ce := Option.some.inj (y1.symm.trans (e3 ▸ x1))
  subst e4
  have e5 : Int32.ofNat (q_sl.getD i 0) = Int32.ofNat (q_sl.getD j 0) := x5.symm.trans y5
  refine e_t6 i hi j hj e5 fun n hn1 => ?_
  have h1 := x6 n hn1
  have h2 := y6 n (by rw [← e_t8 i hi j hj e5]; exact hn1)
  have := h1.symm.trans h2
  simp only [Option.some.injEq, Value.int.injEq] at this
  exact this
theorem e_En {E dd : String} {nm : List String} {F : List (String × String × String × List Int32)} {ad ad' : Nat → Nat} {A : Nat → Prop} {U : State} {H : Heap} (he : ∀ i, i < nm.length → ad' i = ad i) (h : va_En E dd nm F ad A U H) : va_En E dd nm F ad' A U H := by
  refine ⟨fun i hi => ?_, fun i j hi hj e => h.2 i j hi hj (by rw [← he i hi, ← he j hj]; exact e)⟩
  rw [he i hi]
  exact h.1 i hi
theorem e_kp {args : Array Value} {s : State} {ty : FieldType} (hp : ∀ C, ty ≠ .object C) (h : (Cond.arrayClass ty).before args s = true) : ∃ cA, ArrOfT s cA ty ∧ va_RA s cA ty := by
  obtain ⟨c, k, comp, h1, h2, h3⟩ := Cond.arrayClass_spec h
  refine ⟨c, fun n z => ⟨fun k h => (by cases h), k, h2, comp, h3⟩, ?_⟩
  cases ty with
  | object C => exact absurd rfl (hp C)
  | _ => exact h1
theorem e_ko {args : Array Value} {s : State} {C : String} (h : (Cond.arrayOver (.object C)).before args s = true) : ∃ cA, ArrOfT s cA (.object C) ∧ va_RA s cA (.object C) := by
  obtain ⟨comp, c, k, h1, h2, h3, h4, h5⟩ := Cond.arrayOver_spec h
  exact ⟨c, fun n z => ⟨fun k h => (by cases h), k, h3, comp, h4⟩, k, comp, h3, h4, h1, h5⟩
set_option maxRecDepth 100000 in
theorem q_u_Jx00060 : ∀ w ∈ u_ws RJx00060 TJx00060 6, w ∈ q_W := fun w h => q_W_in ((by decide +kernel : ∀ w ∈ u_ws RJx00060 TJx00060 6, w ∈ lw_tbl) w h) ((by decide +kernel : ∀ w ∈ u_ws RJx00060 TJx00060 6, goodWord w = true) w h)
set_option maxRecDepth 100000 in
theorem q_u_Jx7c733 : ∀ w ∈ u_ws RJx7c733 TJx7c733 6, w ∈ q_W := fun w h => q_W_in ((by decide +kernel : ∀ w ∈ u_ws RJx7c733 TJx7c733 6, w ∈ lw_tbl) w h) ((by decide +kernel : ∀ w ∈ u_ws RJx7c733 TJx7c733 6, goodWord w = true) w h)
set_option maxRecDepth 100000 in
theorem e_K {args : Array Value} {s : State} (hts : ∀ w ∈ lw_tbl, w.before args s = true) : ∃ (D : va_G) (κ : Nat → ClassId), va_K D vwCl (q_tys κ) s := by
  have hq : ∀ w ∈ q_W, w.before args s = true := fun w hw => hts w (List.mem_filter.mp hw).1
  obtain ⟨c0, i0, hc0⟩ := u_known hq q_u_J0 (hts _ e_is0)
  obtain ⟨c1, i1, hc1⟩ := u_known hq q_u_J4 (hts _ e_is1)
  obtain ⟨c2, i2, hc2⟩ := u_known hq q_u_Jx00060 (hts _ e_is2)
  obtain ⟨c3, i3, hc3⟩ := u_known hq q_u_Jx7c733 (hts _ e_is3)
  obtain ⟨c4, i4, hc4⟩ := u_known hq q_u_X2 (hts _ e_is4)
  obtain ⟨c5, i5, hc5⟩ := u_known hq q_u_X3 (hts _ e_is5)
  obtain ⟨c6, i6, hc6⟩ := u_known hq q_u_X4 (hts _ e_is6)
  obtain ⟨c7, i7, hc7⟩ := u_known hq q_u_X6 (hts _ e_is7)
  obtain ⟨c8, i8, hc8⟩ := u_known hq q_u_X8 (hts _ e_is8)
  obtain ⟨k0, hk0⟩ := e_kp (fun C => by simp) (hts _ e_ac_int)
  obtain ⟨k1, hk1⟩ := e_kp (fun C => by simp) (hts _ e_ac_byte)
  obtain ⟨k4, hk4⟩ := e_ko (hts _ e_ao_RX6)
  obtain ⟨k5, hk5⟩ := e_ko (hts _ e_ao_RX4)
  refine ⟨(fun c => ([c0, c1, c2, c3, c4, c5, c6, c7, c8] : List ClassId).getD c c0, fun c => ([i0, i1, i2, i3, i4, i5, i6, i7, i8] : List (Nat → Nat)).getD c i0), fun c => ([k0, k1, k0, k0, k4, k5] : List ClassId).getD c k0, fun c q hq => ?_, fun k q hq => ?_⟩
  · have hl : c < 9 := (List.getElem?_eq_some_iff.mp hq).1
    rcases (show c = 0 ∨ c = 1 ∨ c = 2 ∨ c = 3 ∨ c = 4 ∨ c = 5 ∨ c = 6 ∨ c = 7 ∨ c = 8 by omega) with rfl | rfl | rfl | rfl | rfl | rfl | rfl | rfl | rfl
    · cases hq; exact hc0
    · cases hq; exact hc1
    · cases hq; exact hc2
    · cases hq; exact hc3
    · cases hq; exact hc4
    · cases hq; exact hc5
    · cases hq; exact hc6
    · cases hq; exact hc7
    · cases hq; exact hc8
  · have hl : k < 4 := (List.getElem?_eq_some_iff.mp hq).1
    rcases (show k = 0 ∨ k = 1 ∨ k = 2 ∨ k = 3 by omega) with rfl | rfl | rfl | rfl
    · cases hq; exact hk0
    · cases hq; exact hk1
    · cases hq; exact hk4
    · cases hq; exact hk5
