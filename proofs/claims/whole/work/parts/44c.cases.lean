/-! The law's loop: more cases (c). -/
def tb_lw25 : List q_E := [(1459, .aload_n 1, 1, 0, 0), (1460, .aload_n 0, 1, 0, 0), (1461, .iload 5, 2, 0, 0), (1463, .iconst 1, 1, 1, 0), (1464, .iadd, 1, 0, 0), (1465, .iaload, 1, 0, 0), (1466, .aload_n 0, 1, 0, 0), (1467, .iload 5, 2, 0, 0), (1469, .iconst 2, 1, 2, 0), (1470, .iadd, 1, 0, 0), (1471, .iaload, 1, 0, 0), (1472, .aload_n 3, 1, 0, 0), (1473, .invokestatic 246, 3, 0, 0), (1476, .istore 6, 2, 0, 0), (1478, .aload_n 2, 1, 0, 0), (1479, .aload_n 0, 1, 0, 0), (1480, .iload 5, 2, 0, 0), (1482, .iconst 1, 1, 1, 0), (1483, .iadd, 1, 0, 0), (1484, .iaload, 1, 0, 0), (1485, .aload_n 0, 1, 0, 0), (1486, .iload 5, 2, 0, 0), (1488, .iconst 2, 1, 2, 0), (1489, .iadd, 1, 0, 0), (1490, .iaload, 1, 0, 0), (1491, .invokevirtual 248, 3, 0, 0), (1494, .istore 7, 2, 0, 0), (1496, .aload_n 2, 1, 0, 0), (1497, .invokevirtual 161, 3, 0, 0), (1500, .iload 6, 2, 0, 0), (1502, .if_icmp .eq 5, 3, 0, 1507), (1505, .iconst 0, 1, 0, 0), (1506, .ireturn, 1, 0, 0), (1507, .iload 6, 2, 0, 0), (1509, .ifCond .ne 22, 3, 0, 1531), (1512, .aload_n 3, 1, 0, 0), (1513, .iconst 0, 1, 0, 0), (1514, .laload, 1, 0, 0), (1515, .iload 7, 2, 0, 0), (1517, .ifCond .eq 7, 3, 0, 1524), (1520, .lconst 1, 1, 1, 0), (1521, .goto 4, 3, 0, 1525), (1524, .lconst 0, 1, 0, 0), (1525, .lcmp, 1, 0, 0), (1526, .ifCond .eq 5, 3, 0, 1531), (1529, .iconst 0, 1, 0, 0), (1530, .ireturn, 1, 0, 0), (1531, .goto 1123, 3, 0, 2654)]
set_option maxRecDepth 100000 in
theorem tk_lw25 : q_tb code 9 tb_lw25 = true := by decide +kernel
def sim_hasFoul (g0 : Int32) (g1 : Int32) (σ : q_M) : Prop := q_SimB (fun σ => P_X8_hasFoul g0 g1 σ ∧ (∀ E, (F_X8_hasFoul g0 g1 σ) = .inr E → E ∈ nx_hasFoul)) (fun σ => P_X9_hasFoul g0 g1 σ) (W_hasFoul g0 g1) (F_X9_hasFoul g0 g1) σ
def to_hasFoul (g0 : Int32) (g1 : Int32) (σ : q_M) : q_M := (F_X9_hasFoul g0 g1 (W_hasFoul g0 g1 σ).2).2
set_option maxRecDepth 100000 in
theorem cw_hasFoul : Cond.codeWith yL_hasFoul cL_hasFoul 5 (some .int) hh_L_hasFoul ∈ q_W := q_t4 81 rfl rfl
set_option maxRecDepth 100000 in
theorem sw_hasFoul : Cond.static yL_hasFoul ∈ q_W := q_t4 80 rfl rfl
set_option maxRecDepth 100000 in
theorem lw_ln_hasFoul : Cond.methodLink RL 246 yL_hasFoul ∈ q_W := q_t4 79 rfl rfl
set_option maxRecDepth 100000 in
set_option maxHeartbeats 2000000 in
theorem lw_hasFoul {α β : Nat → Nat} {D : va_G} {κ : Nat → ClassId} {p : Program} {l : Launch} {e : Env} {s : State} {m : MethodId} {args : Array Value} {below : List Frame} {meth : Method} {c : Code} {A : Nat → Prop} {Q : State → Prop} {n1 n2 : Nat} (C : q_Cx α β D κ p s m args meth c code RL (fun _ => none) (fun _ => none) 9 A) (hfl : l.flags = flags0) {L : Nat} {xs : Nat → Int32} (hX : q_scr α s A L xs) {i : Nat} (hi : i + 4 ≤ L) (hL : L ≤ 2048) (hn : n1 + 12 ≤ 600000) (hn2 : n2 + 2000 ≤ 7000000) (σ : q_M) (hs : sim_hasFoul (xs (i + 1)) (xs (i + 2)) σ) (kk : q_St α β D κ p l e room_1 s m args below meth c 9 A Q (n1 + 12) (n2 + 2000) (to_hasFoul (xs (i + 1)) (xs (i + 2)) σ) [(0, .ref 239), (1, .ref 220), (2, .ref 229), (3, .ref 237), (4, .ref 238), (5, .int (nI i))] 2654 []) : q_St α β D κ p l e room_1 s m args below meth c 9 A Q n1 n2 σ [(0, .ref 239), (1, .ref 220), (2, .ref 229), (3, .ref 237), (4, .ref 238), (5, .int (nI i))] 1459 [] := by
  obtain ⟨⟨hPW, hPF, ht, ho⟩, hz⟩ := hs
  obtain ⟨hPW, hE⟩ := hPW
  refine q_go C tk_lw25 [(0, 1)] [] (pc1 := 1460) (σ1 := σ) (lv1 := [(0, .ref 239), (1, .ref 220), (2, .ref 229), (3, .ref 237), (4, .ref 238), (5, .int (nI i))]) (st1 := [.ref 220]) rfl trivial ?_
  refine q_go C tk_lw25 [(1, 4)] [] (pc1 := 1465) (σ1 := σ) (lv1 := [(0, .ref 239), (1, .ref 220), (2, .ref 229), (3, .ref 237), (4, .ref 238), (5, .int (nI i))]) (st1 := [.int (nI i + 1), .ref 239, .ref 220]) rfl trivial ?_
  refine q_sld C hX (j := i + 1) (nI_add i 1) (by omega) hL (q_dc (z := (1465, .iaload, 1, 0, 0)) tk_lw25 5 rfl) ?_
  refine q_nrm 1466 [.int (xs (i + 1)), .ref 220] _ _ rfl rfl rfl rfl ?_
  refine q_go C tk_lw25 [(6, 4)] [] (pc1 := 1471) (σ1 := σ) (lv1 := [(0, .ref 239), (1, .ref 220), (2, .ref 229), (3, .ref 237), (4, .ref 238), (5, .int (nI i))]) (st1 := [.int (nI i + 2), .ref 239, .int (xs (i + 1)), .ref 220]) rfl trivial ?_
  refine q_sld C hX (j := i + 2) (nI_add i 2) (by omega) hL (q_dc (z := (1471, .iaload, 1, 0, 0)) tk_lw25 10 rfl) ?_
  refine q_nrm 1472 [.int (xs (i + 2)), .int (xs (i + 1)), .ref 220] _ _ rfl rfl rfl rfl ?_
  refine q_go C tk_lw25 [(11, 1)] [] (pc1 := 1473) (σ1 := σ) (lv1 := [(0, .ref 239), (1, .ref 220), (2, .ref 229), (3, .ref 237), (4, .ref 238), (5, .int (nI i))]) (st1 := [.ref 237, .int (xs (i + 2)), .int (xs (i + 1)), .ref 220]) rfl trivial ?_
  refine q_callW (n := 4) C hfl cw_hasFoul (by decide +kernel) q_init_L sw_hasFoul lw_ln_hasFoul (As := [.ref 220, .int (xs (i + 1)), .int (xs (i + 2)), .ref 237]) (kw_hasFoul (xs (i + 1)) (xs (i + 2)) σ hPW hE) (rest := []) rfl rfl (q_dc (z := (1473, .invokestatic 246, 3, 0, 0)) tk_lw25 12 rfl) (Nat.le_of_ble_eq_true rfl) ⟨(Nat.le_of_ble_eq_true rfl), (Nat.le_of_ble_eq_true rfl)⟩ ⟨(by show n1 + 2 ≤ 603072; omega), (by show n2 + 12 ≤ 7215209; omega)⟩ ?_
  refine q_nrm 1476 [.int (W_hasFoul (xs (i + 1)) (xs (i + 2)) σ).1] (n1 + 2) (n2 + 12) rfl rfl rfl rfl ?_
  generalize hk9 : (W_hasFoul (xs (i + 1)) (xs (i + 2)) σ).1 = k9 at ht ho ⊢
  refine q_go C tk_lw25 [(13, 2)] [] (pc1 := 1479) (σ1 := (W_hasFoul (xs (i + 1)) (xs (i + 2)) σ).2) (lv1 := (6, .int k9) :: [(0, .ref 239), (1, .ref 220), (2, .ref 229), (3, .ref 237), (4, .ref 238), (5, .int (nI i))]) (st1 := [.ref 229]) rfl trivial ?_
  refine q_go C tk_lw25 [(15, 4)] [] (pc1 := 1484) (σ1 := (W_hasFoul (xs (i + 1)) (xs (i + 2)) σ).2) (lv1 := ((6, .int k9) :: [(0, .ref 239), (1, .ref 220), (2, .ref 229), (3, .ref 237), (4, .ref 238), (5, .int (nI i))])) (st1 := [.int (nI i + 1), .ref 239, .ref 229]) rfl trivial ?_
  refine q_sld C hX (j := i + 1) (nI_add i 1) (by omega) hL (q_dc (z := (1484, .iaload, 1, 0, 0)) tk_lw25 19 rfl) ?_
  refine q_nrm 1485 [.int (xs (i + 1)), .ref 229] _ _ rfl rfl rfl rfl ?_
  refine q_go C tk_lw25 [(20, 4)] [] (pc1 := 1490) (σ1 := (W_hasFoul (xs (i + 1)) (xs (i + 2)) σ).2) (lv1 := ((6, .int k9) :: [(0, .ref 239), (1, .ref 220), (2, .ref 229), (3, .ref 237), (4, .ref 238), (5, .int (nI i))])) (st1 := [.int (nI i + 2), .ref 239, .int (xs (i + 1)), .ref 229]) rfl trivial ?_
  refine q_sld C hX (j := i + 2) (nI_add i 2) (by omega) hL (q_dc (z := (1490, .iaload, 1, 0, 0)) tk_lw25 24 rfl) ?_
  refine q_nrm 1491 [.int (xs (i + 2)), .int (xs (i + 1)), .ref 229] _ _ rfl rfl rfl rfl ?_
  refine q_callV C hfl mw_X9_hasFoul mi_X9_hasFoul me_X9_hasFoul lk_L_248 (k_X9_hasFoul (xs (i + 1)) (xs (i + 2)) (W_hasFoul (xs (i + 1)) (xs (i + 2)) σ).2 hPF) (rest := []) rfl rfl rfl (by decide) (by decide) rfl (q_dc (z := (1491, .invokevirtual 248, 3, 0, 0)) tk_lw25 25 rfl) (Nat.le_of_ble_eq_true rfl) ⟨(Nat.le_of_ble_eq_true rfl), (Nat.le_of_ble_eq_true rfl)⟩ ⟨(by show n1 + 2 + 0 ≤ 603072; omega), (by show n2 + 12 + 0 ≤ 7215209; omega)⟩ ?_
  refine q_nrm 1494 [.int (F_X9_hasFoul (xs (i + 1)) (xs (i + 2)) (W_hasFoul (xs (i + 1)) (xs (i + 2)) σ).2).1] (n1 + 2) (n2 + 12) rfl rfl rfl rfl ?_
  generalize hb9 : (F_X9_hasFoul (xs (i + 1)) (xs (i + 2)) (W_hasFoul (xs (i + 1)) (xs (i + 2)) σ).2).1 = b9 at ho hz ⊢
  unfold to_hasFoul at kk
  generalize ht9 : (F_X9_hasFoul (xs (i + 1)) (xs (i + 2)) (W_hasFoul (xs (i + 1)) (xs (i + 2)) σ).2).2 = τ at ht ho kk ⊢
  refine q_go C tk_lw25 [(26, 2)] [] (pc1 := 1497) (σ1 := τ) (lv1 := (7, .int b9) :: ((6, .int k9) :: [(0, .ref 239), (1, .ref 220), (2, .ref 229), (3, .ref 237), (4, .ref 238), (5, .int (nI i))])) (st1 := [.ref 229]) rfl trivial ?_
  refine q_callV C hfl mw_X9_thrown mi_X9_thrown me_X9_thrown lk_L_161 (k_X9_thrown τ) (rest := []) rfl rfl rfl (by decide) (by decide) rfl (q_dc (z := (1497, .invokevirtual 161, 3, 0, 0)) tk_lw25 28 rfl) (Nat.le_of_ble_eq_true rfl) ⟨(Nat.le_of_ble_eq_true rfl), (Nat.le_of_ble_eq_true rfl)⟩ ⟨(by show n1 + 2 + 0 ≤ 603072; omega), (by show n2 + 12 + 0 ≤ 7215209; omega)⟩ ?_
  refine q_nrm 1500 [.int (F_X9_thrown τ)] (n1 + 2) (n2 + 12) rfl rfl rfl rfl ?_
  refine q_go C tk_lw25 [(29, 2)] [true] (pc1 := 1507) (σ1 := τ) (lv1 := ((7, .int b9) :: (6, .int k9) :: [(0, .ref 239), (1, .ref 220), (2, .ref 229), (3, .ref 237), (4, .ref 238), (5, .int (nI i))])) (st1 := []) rfl ⟨(by unfold F_X9_thrown; exact ht), trivial⟩ ?_
  by_cases c0 : k9 = 0
  · have ho := ho c0
    refine q_go C tk_lw25 [(33, 5)] [false] (pc1 := 1515) (σ1 := τ) (lv1 := ((7, .int b9) :: (6, .int k9) :: [(0, .ref 239), (1, .ref 220), (2, .ref 229), (3, .ref 237), (4, .ref 238), (5, .int (nI i))])) (st1 := [.long (τ 237 0).toInt64]) rfl ⟨c0, rfl, (by unfold vp_in; decide), trivial⟩ ?_
    rcases hz with hz | hz
    · have e1 : τ 237 0 = 0 := ho.trans hz
      refine q_go C tk_lw25 [(38, 2), (42, 2)] [true] (pc1 := 1526) (σ1 := τ) (lv1 := ((7, .int b9) :: (6, .int k9) :: [(0, .ref 239), (1, .ref 220), (2, .ref 229), (3, .ref 237), (4, .ref 238), (5, .int (nI i))])) (st1 := [.int (lg_cmp (τ 237 0).toInt64 (0 : Int32).toInt64)]) rfl ⟨hz, trivial⟩ ?_
      refine q_go C tk_lw25 [(44, 1), (47, 1)] [true] (pc1 := 2654) (σ1 := τ) (lv1 := ((7, .int b9) :: (6, .int k9) :: [(0, .ref 239), (1, .ref 220), (2, .ref 229), (3, .ref 237), (4, .ref 238), (5, .int (nI i))])) (st1 := []) rfl ⟨(by rw [e1]; exact q_cmp0 _), trivial⟩ ?_
      refine q_widen (k := n1 + 12) (n := n2 + 2000) (by omega) (by omega) ?_
      exact q_lvpick [2, 3, 4, 5, 6, 7] rfl kk
    · have e1 : τ 237 0 = 1 := ho.trans hz
      refine q_go C tk_lw25 [(38, 4), (43, 1)] [false] (pc1 := 1526) (σ1 := τ) (lv1 := ((7, .int b9) :: (6, .int k9) :: [(0, .ref 239), (1, .ref 220), (2, .ref 229), (3, .ref 237), (4, .ref 238), (5, .int (nI i))])) (st1 := [.int (lg_cmp (τ 237 0).toInt64 (1 : Int32).toInt64)]) rfl ⟨(fun z => absurd (hz.symm.trans z) (by decide)), trivial⟩ ?_
      refine q_go C tk_lw25 [(44, 1), (47, 1)] [true] (pc1 := 2654) (σ1 := τ) (lv1 := ((7, .int b9) :: (6, .int k9) :: [(0, .ref 239), (1, .ref 220), (2, .ref 229), (3, .ref 237), (4, .ref 238), (5, .int (nI i))])) (st1 := []) rfl ⟨(by rw [e1]; exact q_cmp0 _), trivial⟩ ?_
      refine q_widen (k := n1 + 12) (n := n2 + 2000) (by omega) (by omega) ?_
      exact q_lvpick [2, 3, 4, 5, 6, 7] rfl kk
  · refine q_go C tk_lw25 [(33, 2), (47, 1)] [true] (pc1 := 2654) (σ1 := τ) (lv1 := ((7, .int b9) :: (6, .int k9) :: [(0, .ref 239), (1, .ref 220), (2, .ref 229), (3, .ref 237), (4, .ref 238), (5, .int (nI i))])) (st1 := []) rfl ⟨c0, trivial⟩ ?_
    refine q_widen (k := n1 + 12) (n := n2 + 2000) (by omega) (by omega) ?_
    exact q_lvpick [2, 3, 4, 5, 6, 7] rfl kk
def tb_lw26 : List q_E := [(1534, .aload_n 1, 1, 0, 0), (1535, .aload_n 0, 1, 0, 0), (1536, .iload 5, 2, 0, 0), (1538, .iconst 1, 1, 1, 0), (1539, .iadd, 1, 0, 0), (1540, .iaload, 1, 0, 0), (1541, .aload_n 0, 1, 0, 0), (1542, .iload 5, 2, 0, 0), (1544, .iconst 2, 1, 2, 0), (1545, .iadd, 1, 0, 0), (1546, .iaload, 1, 0, 0), (1547, .aload_n 3, 1, 0, 0), (1548, .invokestatic 249, 3, 0, 0), (1551, .istore 6, 2, 0, 0), (1553, .aload_n 2, 1, 0, 0), (1554, .aload_n 0, 1, 0, 0), (1555, .iload 5, 2, 0, 0), (1557, .iconst 1, 1, 1, 0), (1558, .iadd, 1, 0, 0), (1559, .iaload, 1, 0, 0), (1560, .aload_n 0, 1, 0, 0), (1561, .iload 5, 2, 0, 0), (1563, .iconst 2, 1, 2, 0), (1564, .iadd, 1, 0, 0), (1565, .iaload, 1, 0, 0), (1566, .invokevirtual 251, 3, 0, 0), (1569, .istore 7, 2, 0, 0), (1571, .aload_n 2, 1, 0, 0), (1572, .invokevirtual 161, 3, 0, 0), (1575, .iload 6, 2, 0, 0), (1577, .if_icmp .eq 5, 3, 0, 1582), (1580, .iconst 0, 1, 0, 0), (1581, .ireturn, 1, 0, 0), (1582, .iload 6, 2, 0, 0), (1584, .ifCond .ne 15, 3, 0, 1599), (1587, .aload_n 3, 1, 0, 0), (1588, .iconst 0, 1, 0, 0), (1589, .laload, 1, 0, 0), (1590, .iload 7, 2, 0, 0), (1592, .i2l, 1, 0, 0), (1593, .lcmp, 1, 0, 0), (1594, .ifCond .eq 5, 3, 0, 1599), (1597, .iconst 0, 1, 0, 0), (1598, .ireturn, 1, 0, 0), (1599, .goto 1055, 3, 0, 2654)]
set_option maxRecDepth 100000 in
theorem tk_lw26 : q_tb code 9 tb_lw26 = true := by decide +kernel
def sim_splitOf (g0 : Int32) (g1 : Int32) (σ : q_M) : Prop := q_SimI (fun σ => P_X8_splitOf g0 g1 σ ∧ (∀ E, (F_X8_splitOf g0 g1 σ) = .inr E → E ∈ nx_splitOf)) (fun σ => P_X9_splitOf g0 g1 σ) (W_splitOf g0 g1) (F_X9_splitOf g0 g1) σ
def to_splitOf (g0 : Int32) (g1 : Int32) (σ : q_M) : q_M := (F_X9_splitOf g0 g1 (W_splitOf g0 g1 σ).2).2
set_option maxRecDepth 100000 in
theorem cw_splitOf : Cond.codeWith yL_splitOf cL_splitOf 5 (some .int) hh_L_splitOf ∈ q_W := q_t4 91 rfl rfl
set_option maxRecDepth 100000 in
theorem sw_splitOf : Cond.static yL_splitOf ∈ q_W := q_t4 90 rfl rfl
set_option maxRecDepth 100000 in
theorem lw_ln_splitOf : Cond.methodLink RL 249 yL_splitOf ∈ q_W := q_t4 89 rfl rfl
set_option maxRecDepth 100000 in
set_option maxHeartbeats 2000000 in
theorem lw_splitOf {α β : Nat → Nat} {D : va_G} {κ : Nat → ClassId} {p : Program} {l : Launch} {e : Env} {s : State} {m : MethodId} {args : Array Value} {below : List Frame} {meth : Method} {c : Code} {A : Nat → Prop} {Q : State → Prop} {n1 n2 : Nat} (C : q_Cx α β D κ p s m args meth c code RL (fun _ => none) (fun _ => none) 9 A) (hfl : l.flags = flags0) {L : Nat} {xs : Nat → Int32} (hX : q_scr α s A L xs) {i : Nat} (hi : i + 4 ≤ L) (hL : L ≤ 2048) (hn : n1 + 12 ≤ 600000) (hn2 : n2 + 2000 ≤ 7000000) (σ : q_M) (hs : sim_splitOf (xs (i + 1)) (xs (i + 2)) σ) (kk : q_St α β D κ p l e room_1 s m args below meth c 9 A Q (n1 + 12) (n2 + 2000) (to_splitOf (xs (i + 1)) (xs (i + 2)) σ) [(0, .ref 239), (1, .ref 220), (2, .ref 229), (3, .ref 237), (4, .ref 238), (5, .int (nI i))] 2654 []) : q_St α β D κ p l e room_1 s m args below meth c 9 A Q n1 n2 σ [(0, .ref 239), (1, .ref 220), (2, .ref 229), (3, .ref 237), (4, .ref 238), (5, .int (nI i))] 1534 [] := by
  obtain ⟨hPW, hPF, ht, ho⟩ := hs
  obtain ⟨hPW, hE⟩ := hPW
  refine q_go C tk_lw26 [(0, 1)] [] (pc1 := 1535) (σ1 := σ) (lv1 := [(0, .ref 239), (1, .ref 220), (2, .ref 229), (3, .ref 237), (4, .ref 238), (5, .int (nI i))]) (st1 := [.ref 220]) rfl trivial ?_
  refine q_go C tk_lw26 [(1, 4)] [] (pc1 := 1540) (σ1 := σ) (lv1 := [(0, .ref 239), (1, .ref 220), (2, .ref 229), (3, .ref 237), (4, .ref 238), (5, .int (nI i))]) (st1 := [.int (nI i + 1), .ref 239, .ref 220]) rfl trivial ?_
  refine q_sld C hX (j := i + 1) (nI_add i 1) (by omega) hL (q_dc (z := (1540, .iaload, 1, 0, 0)) tk_lw26 5 rfl) ?_
  refine q_nrm 1541 [.int (xs (i + 1)), .ref 220] _ _ rfl rfl rfl rfl ?_
  refine q_go C tk_lw26 [(6, 4)] [] (pc1 := 1546) (σ1 := σ) (lv1 := [(0, .ref 239), (1, .ref 220), (2, .ref 229), (3, .ref 237), (4, .ref 238), (5, .int (nI i))]) (st1 := [.int (nI i + 2), .ref 239, .int (xs (i + 1)), .ref 220]) rfl trivial ?_
  refine q_sld C hX (j := i + 2) (nI_add i 2) (by omega) hL (q_dc (z := (1546, .iaload, 1, 0, 0)) tk_lw26 10 rfl) ?_
  refine q_nrm 1547 [.int (xs (i + 2)), .int (xs (i + 1)), .ref 220] _ _ rfl rfl rfl rfl ?_
  refine q_go C tk_lw26 [(11, 1)] [] (pc1 := 1548) (σ1 := σ) (lv1 := [(0, .ref 239), (1, .ref 220), (2, .ref 229), (3, .ref 237), (4, .ref 238), (5, .int (nI i))]) (st1 := [.ref 237, .int (xs (i + 2)), .int (xs (i + 1)), .ref 220]) rfl trivial ?_
  refine q_callW (n := 4) C hfl cw_splitOf (by decide +kernel) q_init_L sw_splitOf lw_ln_splitOf (As := [.ref 220, .int (xs (i + 1)), .int (xs (i + 2)), .ref 237]) (kw_splitOf (xs (i + 1)) (xs (i + 2)) σ hPW hE) (rest := []) rfl rfl (q_dc (z := (1548, .invokestatic 249, 3, 0, 0)) tk_lw26 12 rfl) (Nat.le_of_ble_eq_true rfl) ⟨(Nat.le_of_ble_eq_true rfl), (Nat.le_of_ble_eq_true rfl)⟩ ⟨(by show n1 + 3 ≤ 603072; omega), (by show n2 + 18 ≤ 7215209; omega)⟩ ?_
  refine q_nrm 1551 [.int (W_splitOf (xs (i + 1)) (xs (i + 2)) σ).1] (n1 + 3) (n2 + 18) rfl rfl rfl rfl ?_
  generalize hk9 : (W_splitOf (xs (i + 1)) (xs (i + 2)) σ).1 = k9 at ht ho ⊢
  refine q_go C tk_lw26 [(13, 2)] [] (pc1 := 1554) (σ1 := (W_splitOf (xs (i + 1)) (xs (i + 2)) σ).2) (lv1 := (6, .int k9) :: [(0, .ref 239), (1, .ref 220), (2, .ref 229), (3, .ref 237), (4, .ref 238), (5, .int (nI i))]) (st1 := [.ref 229]) rfl trivial ?_
  refine q_go C tk_lw26 [(15, 4)] [] (pc1 := 1559) (σ1 := (W_splitOf (xs (i + 1)) (xs (i + 2)) σ).2) (lv1 := ((6, .int k9) :: [(0, .ref 239), (1, .ref 220), (2, .ref 229), (3, .ref 237), (4, .ref 238), (5, .int (nI i))])) (st1 := [.int (nI i + 1), .ref 239, .ref 229]) rfl trivial ?_
  refine q_sld C hX (j := i + 1) (nI_add i 1) (by omega) hL (q_dc (z := (1559, .iaload, 1, 0, 0)) tk_lw26 19 rfl) ?_
  refine q_nrm 1560 [.int (xs (i + 1)), .ref 229] _ _ rfl rfl rfl rfl ?_
  refine q_go C tk_lw26 [(20, 4)] [] (pc1 := 1565) (σ1 := (W_splitOf (xs (i + 1)) (xs (i + 2)) σ).2) (lv1 := ((6, .int k9) :: [(0, .ref 239), (1, .ref 220), (2, .ref 229), (3, .ref 237), (4, .ref 238), (5, .int (nI i))])) (st1 := [.int (nI i + 2), .ref 239, .int (xs (i + 1)), .ref 229]) rfl trivial ?_
  refine q_sld C hX (j := i + 2) (nI_add i 2) (by omega) hL (q_dc (z := (1565, .iaload, 1, 0, 0)) tk_lw26 24 rfl) ?_
  refine q_nrm 1566 [.int (xs (i + 2)), .int (xs (i + 1)), .ref 229] _ _ rfl rfl rfl rfl ?_
  refine q_callV C hfl mw_X9_splitOf mi_X9_splitOf me_X9_splitOf lk_L_251 (k_X9_splitOf (xs (i + 1)) (xs (i + 2)) (W_splitOf (xs (i + 1)) (xs (i + 2)) σ).2 hPF) (rest := []) rfl rfl rfl (by decide) (by decide) rfl (q_dc (z := (1566, .invokevirtual 251, 3, 0, 0)) tk_lw26 25 rfl) (Nat.le_of_ble_eq_true rfl) ⟨(Nat.le_of_ble_eq_true rfl), (Nat.le_of_ble_eq_true rfl)⟩ ⟨(by show n1 + 3 + 0 ≤ 603072; omega), (by show n2 + 18 + 0 ≤ 7215209; omega)⟩ ?_
  refine q_nrm 1569 [.int (F_X9_splitOf (xs (i + 1)) (xs (i + 2)) (W_splitOf (xs (i + 1)) (xs (i + 2)) σ).2).1] (n1 + 3) (n2 + 18) rfl rfl rfl rfl ?_
  generalize hb9 : (F_X9_splitOf (xs (i + 1)) (xs (i + 2)) (W_splitOf (xs (i + 1)) (xs (i + 2)) σ).2).1 = b9 at ho ⊢
  unfold to_splitOf at kk
  generalize ht9 : (F_X9_splitOf (xs (i + 1)) (xs (i + 2)) (W_splitOf (xs (i + 1)) (xs (i + 2)) σ).2).2 = τ at ht ho kk ⊢
  refine q_go C tk_lw26 [(26, 2)] [] (pc1 := 1572) (σ1 := τ) (lv1 := (7, .int b9) :: ((6, .int k9) :: [(0, .ref 239), (1, .ref 220), (2, .ref 229), (3, .ref 237), (4, .ref 238), (5, .int (nI i))])) (st1 := [.ref 229]) rfl trivial ?_
  refine q_callV C hfl mw_X9_thrown mi_X9_thrown me_X9_thrown lk_L_161 (k_X9_thrown τ) (rest := []) rfl rfl rfl (by decide) (by decide) rfl (q_dc (z := (1572, .invokevirtual 161, 3, 0, 0)) tk_lw26 28 rfl) (Nat.le_of_ble_eq_true rfl) ⟨(Nat.le_of_ble_eq_true rfl), (Nat.le_of_ble_eq_true rfl)⟩ ⟨(by show n1 + 3 + 0 ≤ 603072; omega), (by show n2 + 18 + 0 ≤ 7215209; omega)⟩ ?_
  refine q_nrm 1575 [.int (F_X9_thrown τ)] (n1 + 3) (n2 + 18) rfl rfl rfl rfl ?_
  refine q_go C tk_lw26 [(29, 2)] [true] (pc1 := 1582) (σ1 := τ) (lv1 := ((7, .int b9) :: (6, .int k9) :: [(0, .ref 239), (1, .ref 220), (2, .ref 229), (3, .ref 237), (4, .ref 238), (5, .int (nI i))])) (st1 := []) rfl ⟨(by unfold F_X9_thrown; exact ht), trivial⟩ ?_
  by_cases c0 : k9 = 0
  · have ho := ho c0
    refine q_go C tk_lw26 [(33, 8)] [false] (pc1 := 1594) (σ1 := τ) (lv1 := ((7, .int b9) :: (6, .int k9) :: [(0, .ref 239), (1, .ref 220), (2, .ref 229), (3, .ref 237), (4, .ref 238), (5, .int (nI i))])) (st1 := [.int (lg_cmp (τ 237 0).toInt64 b9.toInt64)]) rfl ⟨c0, rfl, (by unfold vp_in; decide), trivial⟩ ?_
    refine q_go C tk_lw26 [(41, 1), (44, 1)] [true] (pc1 := 2654) (σ1 := τ) (lv1 := ((7, .int b9) :: (6, .int k9) :: [(0, .ref 239), (1, .ref 220), (2, .ref 229), (3, .ref 237), (4, .ref 238), (5, .int (nI i))])) (st1 := []) rfl ⟨(by rw [ho]; exact q_cmp0 _), trivial⟩ ?_
    refine q_widen (k := n1 + 12) (n := n2 + 2000) (by omega) (by omega) ?_
    exact q_lvpick [2, 3, 4, 5, 6, 7] rfl kk
  · refine q_go C tk_lw26 [(33, 2), (44, 1)] [true] (pc1 := 2654) (σ1 := τ) (lv1 := ((7, .int b9) :: (6, .int k9) :: [(0, .ref 239), (1, .ref 220), (2, .ref 229), (3, .ref 237), (4, .ref 238), (5, .int (nI i))])) (st1 := []) rfl ⟨c0, trivial⟩ ?_
    refine q_widen (k := n1 + 12) (n := n2 + 2000) (by omega) (by omega) ?_
    exact q_lvpick [2, 3, 4, 5, 6, 7] rfl kk
def tb_lw27 : List q_E := [(1602, .aload_n 1, 1, 0, 0), (1603, .aload_n 0, 1, 0, 0), (1604, .iload 5, 2, 0, 0), (1606, .iconst 1, 1, 1, 0), (1607, .iadd, 1, 0, 0), (1608, .iaload, 1, 0, 0), (1609, .aload_n 3, 1, 0, 0), (1610, .invokestatic 252, 3, 0, 0), (1613, .istore 6, 2, 0, 0), (1615, .aload_n 2, 1, 0, 0), (1616, .aload_n 0, 1, 0, 0), (1617, .iload 5, 2, 0, 0), (1619, .iconst 1, 1, 1, 0), (1620, .iadd, 1, 0, 0), (1621, .iaload, 1, 0, 0), (1622, .invokevirtual 254, 3, 0, 0), (1625, .istore 7, 2, 0, 0), (1627, .aload_n 2, 1, 0, 0), (1628, .invokevirtual 161, 3, 0, 0), (1631, .iload 6, 2, 0, 0), (1633, .if_icmp .eq 5, 3, 0, 1638), (1636, .iconst 0, 1, 0, 0), (1637, .ireturn, 1, 0, 0), (1638, .iload 6, 2, 0, 0), (1640, .ifCond .ne 15, 3, 0, 1655), (1643, .aload_n 3, 1, 0, 0), (1644, .iconst 0, 1, 0, 0), (1645, .laload, 1, 0, 0), (1646, .iload 7, 2, 0, 0), (1648, .i2l, 1, 0, 0), (1649, .lcmp, 1, 0, 0), (1650, .ifCond .eq 5, 3, 0, 1655), (1653, .iconst 0, 1, 0, 0), (1654, .ireturn, 1, 0, 0), (1655, .goto 999, 3, 0, 2654)]
set_option maxRecDepth 100000 in
theorem tk_lw27 : q_tb code 9 tb_lw27 = true := by decide +kernel
def sim_splitSum (g0 : Int32) (σ : q_M) : Prop := q_SimI (fun σ => P_X8_splitSum g0 σ ∧ (∀ E, (F_X8_splitSum g0 σ) = .inr E → E ∈ nx_splitSum)) (fun σ => P_X9_splitSum g0 σ) (W_splitSum g0) (F_X9_splitSum g0) σ
def to_splitSum (g0 : Int32) (σ : q_M) : q_M := (F_X9_splitSum g0 (W_splitSum g0 σ).2).2
set_option maxRecDepth 100000 in
theorem cw_splitSum : Cond.codeWith yL_splitSum cL_splitSum 4 (some .int) hh_L_splitSum ∈ q_W := q_t4 103 rfl rfl
set_option maxRecDepth 100000 in
theorem sw_splitSum : Cond.static yL_splitSum ∈ q_W := q_t4 102 rfl rfl
set_option maxRecDepth 100000 in
theorem lw_ln_splitSum : Cond.methodLink RL 252 yL_splitSum ∈ q_W := q_t4 101 rfl rfl
set_option maxRecDepth 100000 in
set_option maxHeartbeats 2000000 in
theorem lw_splitSum {α β : Nat → Nat} {D : va_G} {κ : Nat → ClassId} {p : Program} {l : Launch} {e : Env} {s : State} {m : MethodId} {args : Array Value} {below : List Frame} {meth : Method} {c : Code} {A : Nat → Prop} {Q : State → Prop} {n1 n2 : Nat} (C : q_Cx α β D κ p s m args meth c code RL (fun _ => none) (fun _ => none) 9 A) (hfl : l.flags = flags0) {L : Nat} {xs : Nat → Int32} (hX : q_scr α s A L xs) {i : Nat} (hi : i + 4 ≤ L) (hL : L ≤ 2048) (hn : n1 + 12 ≤ 600000) (hn2 : n2 + 2000 ≤ 7000000) (σ : q_M) (hs : sim_splitSum (xs (i + 1)) σ) (kk : q_St α β D κ p l e room_1 s m args below meth c 9 A Q (n1 + 12) (n2 + 2000) (to_splitSum (xs (i + 1)) σ) [(0, .ref 239), (1, .ref 220), (2, .ref 229), (3, .ref 237), (4, .ref 238), (5, .int (nI i))] 2654 []) : q_St α β D κ p l e room_1 s m args below meth c 9 A Q n1 n2 σ [(0, .ref 239), (1, .ref 220), (2, .ref 229), (3, .ref 237), (4, .ref 238), (5, .int (nI i))] 1602 [] := by
  obtain ⟨hPW, hPF, ht, ho⟩ := hs
  obtain ⟨hPW, hE⟩ := hPW
  refine q_go C tk_lw27 [(0, 1)] [] (pc1 := 1603) (σ1 := σ) (lv1 := [(0, .ref 239), (1, .ref 220), (2, .ref 229), (3, .ref 237), (4, .ref 238), (5, .int (nI i))]) (st1 := [.ref 220]) rfl trivial ?_
  refine q_go C tk_lw27 [(1, 4)] [] (pc1 := 1608) (σ1 := σ) (lv1 := [(0, .ref 239), (1, .ref 220), (2, .ref 229), (3, .ref 237), (4, .ref 238), (5, .int (nI i))]) (st1 := [.int (nI i + 1), .ref 239, .ref 220]) rfl trivial ?_
  refine q_sld C hX (j := i + 1) (nI_add i 1) (by omega) hL (q_dc (z := (1608, .iaload, 1, 0, 0)) tk_lw27 5 rfl) ?_
  refine q_nrm 1609 [.int (xs (i + 1)), .ref 220] _ _ rfl rfl rfl rfl ?_
  refine q_go C tk_lw27 [(6, 1)] [] (pc1 := 1610) (σ1 := σ) (lv1 := [(0, .ref 239), (1, .ref 220), (2, .ref 229), (3, .ref 237), (4, .ref 238), (5, .int (nI i))]) (st1 := [.ref 237, .int (xs (i + 1)), .ref 220]) rfl trivial ?_
  refine q_callW (n := 3) C hfl cw_splitSum (by decide +kernel) q_init_L sw_splitSum lw_ln_splitSum (As := [.ref 220, .int (xs (i + 1)), .ref 237]) (kw_splitSum (xs (i + 1)) σ hPW hE) (rest := []) rfl rfl (q_dc (z := (1610, .invokestatic 252, 3, 0, 0)) tk_lw27 7 rfl) (Nat.le_of_ble_eq_true rfl) ⟨(Nat.le_of_ble_eq_true rfl), (Nat.le_of_ble_eq_true rfl)⟩ ⟨(by show n1 + 1 ≤ 603072; omega), (by show n2 + 6 ≤ 7215209; omega)⟩ ?_
  refine q_nrm 1613 [.int (W_splitSum (xs (i + 1)) σ).1] (n1 + 1) (n2 + 6) rfl rfl rfl rfl ?_
  generalize hk9 : (W_splitSum (xs (i + 1)) σ).1 = k9 at ht ho ⊢
  refine q_go C tk_lw27 [(8, 2)] [] (pc1 := 1616) (σ1 := (W_splitSum (xs (i + 1)) σ).2) (lv1 := (6, .int k9) :: [(0, .ref 239), (1, .ref 220), (2, .ref 229), (3, .ref 237), (4, .ref 238), (5, .int (nI i))]) (st1 := [.ref 229]) rfl trivial ?_
  refine q_go C tk_lw27 [(10, 4)] [] (pc1 := 1621) (σ1 := (W_splitSum (xs (i + 1)) σ).2) (lv1 := ((6, .int k9) :: [(0, .ref 239), (1, .ref 220), (2, .ref 229), (3, .ref 237), (4, .ref 238), (5, .int (nI i))])) (st1 := [.int (nI i + 1), .ref 239, .ref 229]) rfl trivial ?_
  refine q_sld C hX (j := i + 1) (nI_add i 1) (by omega) hL (q_dc (z := (1621, .iaload, 1, 0, 0)) tk_lw27 14 rfl) ?_
  refine q_nrm 1622 [.int (xs (i + 1)), .ref 229] _ _ rfl rfl rfl rfl ?_
  refine q_callV C hfl mw_X9_splitSum mi_X9_splitSum me_X9_splitSum lk_L_254 (k_X9_splitSum (xs (i + 1)) (W_splitSum (xs (i + 1)) σ).2 hPF) (rest := []) rfl rfl rfl (by decide) (by decide) rfl (q_dc (z := (1622, .invokevirtual 254, 3, 0, 0)) tk_lw27 15 rfl) (Nat.le_of_ble_eq_true rfl) ⟨(Nat.le_of_ble_eq_true rfl), (Nat.le_of_ble_eq_true rfl)⟩ ⟨(by show n1 + 1 + 0 ≤ 603072; omega), (by show n2 + 6 + 0 ≤ 7215209; omega)⟩ ?_
  refine q_nrm 1625 [.int (F_X9_splitSum (xs (i + 1)) (W_splitSum (xs (i + 1)) σ).2).1] (n1 + 1) (n2 + 6) rfl rfl rfl rfl ?_
  generalize hb9 : (F_X9_splitSum (xs (i + 1)) (W_splitSum (xs (i + 1)) σ).2).1 = b9 at ho ⊢
  unfold to_splitSum at kk
  generalize ht9 : (F_X9_splitSum (xs (i + 1)) (W_splitSum (xs (i + 1)) σ).2).2 = τ at ht ho kk ⊢
  refine q_go C tk_lw27 [(16, 2)] [] (pc1 := 1628) (σ1 := τ) (lv1 := (7, .int b9) :: ((6, .int k9) :: [(0, .ref 239), (1, .ref 220), (2, .ref 229), (3, .ref 237), (4, .ref 238), (5, .int (nI i))])) (st1 := [.ref 229]) rfl trivial ?_
  refine q_callV C hfl mw_X9_thrown mi_X9_thrown me_X9_thrown lk_L_161 (k_X9_thrown τ) (rest := []) rfl rfl rfl (by decide) (by decide) rfl (q_dc (z := (1628, .invokevirtual 161, 3, 0, 0)) tk_lw27 18 rfl) (Nat.le_of_ble_eq_true rfl) ⟨(Nat.le_of_ble_eq_true rfl), (Nat.le_of_ble_eq_true rfl)⟩ ⟨(by show n1 + 1 + 0 ≤ 603072; omega), (by show n2 + 6 + 0 ≤ 7215209; omega)⟩ ?_
  refine q_nrm 1631 [.int (F_X9_thrown τ)] (n1 + 1) (n2 + 6) rfl rfl rfl rfl ?_
  refine q_go C tk_lw27 [(19, 2)] [true] (pc1 := 1638) (σ1 := τ) (lv1 := ((7, .int b9) :: (6, .int k9) :: [(0, .ref 239), (1, .ref 220), (2, .ref 229), (3, .ref 237), (4, .ref 238), (5, .int (nI i))])) (st1 := []) rfl ⟨(by unfold F_X9_thrown; exact ht), trivial⟩ ?_
  by_cases c0 : k9 = 0
  · have ho := ho c0
    refine q_go C tk_lw27 [(23, 8)] [false] (pc1 := 1650) (σ1 := τ) (lv1 := ((7, .int b9) :: (6, .int k9) :: [(0, .ref 239), (1, .ref 220), (2, .ref 229), (3, .ref 237), (4, .ref 238), (5, .int (nI i))])) (st1 := [.int (lg_cmp (τ 237 0).toInt64 b9.toInt64)]) rfl ⟨c0, rfl, (by unfold vp_in; decide), trivial⟩ ?_
    refine q_go C tk_lw27 [(31, 1), (34, 1)] [true] (pc1 := 2654) (σ1 := τ) (lv1 := ((7, .int b9) :: (6, .int k9) :: [(0, .ref 239), (1, .ref 220), (2, .ref 229), (3, .ref 237), (4, .ref 238), (5, .int (nI i))])) (st1 := []) rfl ⟨(by rw [ho]; exact q_cmp0 _), trivial⟩ ?_
    refine q_widen (k := n1 + 12) (n := n2 + 2000) (by omega) (by omega) ?_
    exact q_lvpick [2, 3, 4, 5, 6, 7] rfl kk
  · refine q_go C tk_lw27 [(23, 2), (34, 1)] [true] (pc1 := 2654) (σ1 := τ) (lv1 := ((7, .int b9) :: (6, .int k9) :: [(0, .ref 239), (1, .ref 220), (2, .ref 229), (3, .ref 237), (4, .ref 238), (5, .int (nI i))])) (st1 := []) rfl ⟨c0, trivial⟩ ?_
    refine q_widen (k := n1 + 12) (n := n2 + 2000) (by omega) (by omega) ?_
    exact q_lvpick [2, 3, 4, 5, 6, 7] rfl kk
def tb_lw28 : List q_E := [(1658, .aload_n 1, 1, 0, 0), (1659, .aload_n 0, 1, 0, 0), (1660, .iload 5, 2, 0, 0), (1662, .iconst 1, 1, 1, 0), (1663, .iadd, 1, 0, 0), (1664, .iaload, 1, 0, 0), (1665, .aload_n 3, 1, 0, 0), (1666, .invokestatic 255, 3, 0, 0), (1669, .istore 6, 2, 0, 0), (1671, .aload_n 2, 1, 0, 0), (1672, .aload_n 0, 1, 0, 0), (1673, .iload 5, 2, 0, 0), (1675, .iconst 1, 1, 1, 0), (1676, .iadd, 1, 0, 0), (1677, .iaload, 1, 0, 0), (1678, .invokevirtual 257, 3, 0, 0), (1681, .istore 7, 2, 0, 0), (1683, .aload_n 2, 1, 0, 0), (1684, .invokevirtual 161, 3, 0, 0), (1687, .iload 6, 2, 0, 0), (1689, .if_icmp .eq 5, 3, 0, 1694), (1692, .iconst 0, 1, 0, 0), (1693, .ireturn, 1, 0, 0), (1694, .iload 6, 2, 0, 0), (1696, .ifCond .ne 15, 3, 0, 1711), (1699, .aload_n 3, 1, 0, 0), (1700, .iconst 0, 1, 0, 0), (1701, .laload, 1, 0, 0), (1702, .iload 7, 2, 0, 0), (1704, .i2l, 1, 0, 0), (1705, .lcmp, 1, 0, 0), (1706, .ifCond .eq 5, 3, 0, 1711), (1709, .iconst 0, 1, 0, 0), (1710, .ireturn, 1, 0, 0), (1711, .goto 943, 3, 0, 2654)]
set_option maxRecDepth 100000 in
theorem tk_lw28 : q_tb code 9 tb_lw28 = true := by decide +kernel
def sim_timeOf (g0 : Int32) (σ : q_M) : Prop := q_SimI (fun σ => (∀ E, (F_X8_timeOf g0 σ) = .inr E → E ∈ nx_timeOf)) (fun σ => P_X9_timeOf g0 σ) (W_timeOf g0) (F_X9_timeOf g0) σ
def to_timeOf (g0 : Int32) (σ : q_M) : q_M := (F_X9_timeOf g0 (W_timeOf g0 σ).2).2
set_option maxRecDepth 100000 in
theorem cw_timeOf : Cond.codeWith yL_timeOf cL_timeOf 4 (some .int) hh_L_timeOf ∈ q_W := q_t4 110 rfl rfl
set_option maxRecDepth 100000 in
theorem sw_timeOf : Cond.static yL_timeOf ∈ q_W := q_t4 109 rfl rfl
set_option maxRecDepth 100000 in
theorem lw_ln_timeOf : Cond.methodLink RL 255 yL_timeOf ∈ q_W := q_t4 108 rfl rfl
set_option maxRecDepth 100000 in
set_option maxHeartbeats 2000000 in
theorem lw_timeOf {α β : Nat → Nat} {D : va_G} {κ : Nat → ClassId} {p : Program} {l : Launch} {e : Env} {s : State} {m : MethodId} {args : Array Value} {below : List Frame} {meth : Method} {c : Code} {A : Nat → Prop} {Q : State → Prop} {n1 n2 : Nat} (C : q_Cx α β D κ p s m args meth c code RL (fun _ => none) (fun _ => none) 9 A) (hfl : l.flags = flags0) {L : Nat} {xs : Nat → Int32} (hX : q_scr α s A L xs) {i : Nat} (hi : i + 4 ≤ L) (hL : L ≤ 2048) (hn : n1 + 12 ≤ 600000) (hn2 : n2 + 2000 ≤ 7000000) (σ : q_M) (hs : sim_timeOf (xs (i + 1)) σ) (kk : q_St α β D κ p l e room_1 s m args below meth c 9 A Q (n1 + 12) (n2 + 2000) (to_timeOf (xs (i + 1)) σ) [(0, .ref 239), (1, .ref 220), (2, .ref 229), (3, .ref 237), (4, .ref 238), (5, .int (nI i))] 2654 []) : q_St α β D κ p l e room_1 s m args below meth c 9 A Q n1 n2 σ [(0, .ref 239), (1, .ref 220), (2, .ref 229), (3, .ref 237), (4, .ref 238), (5, .int (nI i))] 1658 [] := by
  obtain ⟨hPW, hPF, ht, ho⟩ := hs
  have hE := hPW
  refine q_go C tk_lw28 [(0, 1)] [] (pc1 := 1659) (σ1 := σ) (lv1 := [(0, .ref 239), (1, .ref 220), (2, .ref 229), (3, .ref 237), (4, .ref 238), (5, .int (nI i))]) (st1 := [.ref 220]) rfl trivial ?_
  refine q_go C tk_lw28 [(1, 4)] [] (pc1 := 1664) (σ1 := σ) (lv1 := [(0, .ref 239), (1, .ref 220), (2, .ref 229), (3, .ref 237), (4, .ref 238), (5, .int (nI i))]) (st1 := [.int (nI i + 1), .ref 239, .ref 220]) rfl trivial ?_
  refine q_sld C hX (j := i + 1) (nI_add i 1) (by omega) hL (q_dc (z := (1664, .iaload, 1, 0, 0)) tk_lw28 5 rfl) ?_
  refine q_nrm 1665 [.int (xs (i + 1)), .ref 220] _ _ rfl rfl rfl rfl ?_
  refine q_go C tk_lw28 [(6, 1)] [] (pc1 := 1666) (σ1 := σ) (lv1 := [(0, .ref 239), (1, .ref 220), (2, .ref 229), (3, .ref 237), (4, .ref 238), (5, .int (nI i))]) (st1 := [.ref 237, .int (xs (i + 1)), .ref 220]) rfl trivial ?_
  refine q_callW (n := 3) C hfl cw_timeOf (by decide +kernel) q_init_L sw_timeOf lw_ln_timeOf (As := [.ref 220, .int (xs (i + 1)), .ref 237]) (kw_timeOf (xs (i + 1)) σ hE) (rest := []) rfl rfl (q_dc (z := (1666, .invokestatic 255, 3, 0, 0)) tk_lw28 7 rfl) (Nat.le_of_ble_eq_true rfl) ⟨(Nat.le_of_ble_eq_true rfl), (Nat.le_of_ble_eq_true rfl)⟩ ⟨(by show n1 + 2 ≤ 603072; omega), (by show n2 + 12 ≤ 7215209; omega)⟩ ?_
  refine q_nrm 1669 [.int (W_timeOf (xs (i + 1)) σ).1] (n1 + 2) (n2 + 12) rfl rfl rfl rfl ?_
  generalize hk9 : (W_timeOf (xs (i + 1)) σ).1 = k9 at ht ho ⊢
  refine q_go C tk_lw28 [(8, 2)] [] (pc1 := 1672) (σ1 := (W_timeOf (xs (i + 1)) σ).2) (lv1 := (6, .int k9) :: [(0, .ref 239), (1, .ref 220), (2, .ref 229), (3, .ref 237), (4, .ref 238), (5, .int (nI i))]) (st1 := [.ref 229]) rfl trivial ?_
  refine q_go C tk_lw28 [(10, 4)] [] (pc1 := 1677) (σ1 := (W_timeOf (xs (i + 1)) σ).2) (lv1 := ((6, .int k9) :: [(0, .ref 239), (1, .ref 220), (2, .ref 229), (3, .ref 237), (4, .ref 238), (5, .int (nI i))])) (st1 := [.int (nI i + 1), .ref 239, .ref 229]) rfl trivial ?_
  refine q_sld C hX (j := i + 1) (nI_add i 1) (by omega) hL (q_dc (z := (1677, .iaload, 1, 0, 0)) tk_lw28 14 rfl) ?_
  refine q_nrm 1678 [.int (xs (i + 1)), .ref 229] _ _ rfl rfl rfl rfl ?_
  refine q_callV C hfl mw_X9_timeOf mi_X9_timeOf me_X9_timeOf lk_L_257 (k_X9_timeOf (xs (i + 1)) (W_timeOf (xs (i + 1)) σ).2 hPF) (rest := []) rfl rfl rfl (by decide) (by decide) rfl (q_dc (z := (1678, .invokevirtual 257, 3, 0, 0)) tk_lw28 15 rfl) (Nat.le_of_ble_eq_true rfl) ⟨(Nat.le_of_ble_eq_true rfl), (Nat.le_of_ble_eq_true rfl)⟩ ⟨(by show n1 + 2 + 0 ≤ 603072; omega), (by show n2 + 12 + 0 ≤ 7215209; omega)⟩ ?_
  refine q_nrm 1681 [.int (F_X9_timeOf (xs (i + 1)) (W_timeOf (xs (i + 1)) σ).2).1] (n1 + 2) (n2 + 12) rfl rfl rfl rfl ?_
  generalize hb9 : (F_X9_timeOf (xs (i + 1)) (W_timeOf (xs (i + 1)) σ).2).1 = b9 at ho ⊢
  unfold to_timeOf at kk
  generalize ht9 : (F_X9_timeOf (xs (i + 1)) (W_timeOf (xs (i + 1)) σ).2).2 = τ at ht ho kk ⊢
  refine q_go C tk_lw28 [(16, 2)] [] (pc1 := 1684) (σ1 := τ) (lv1 := (7, .int b9) :: ((6, .int k9) :: [(0, .ref 239), (1, .ref 220), (2, .ref 229), (3, .ref 237), (4, .ref 238), (5, .int (nI i))])) (st1 := [.ref 229]) rfl trivial ?_
  refine q_callV C hfl mw_X9_thrown mi_X9_thrown me_X9_thrown lk_L_161 (k_X9_thrown τ) (rest := []) rfl rfl rfl (by decide) (by decide) rfl (q_dc (z := (1684, .invokevirtual 161, 3, 0, 0)) tk_lw28 18 rfl) (Nat.le_of_ble_eq_true rfl) ⟨(Nat.le_of_ble_eq_true rfl), (Nat.le_of_ble_eq_true rfl)⟩ ⟨(by show n1 + 2 + 0 ≤ 603072; omega), (by show n2 + 12 + 0 ≤ 7215209; omega)⟩ ?_
  refine q_nrm 1687 [.int (F_X9_thrown τ)] (n1 + 2) (n2 + 12) rfl rfl rfl rfl ?_
  refine q_go C tk_lw28 [(19, 2)] [true] (pc1 := 1694) (σ1 := τ) (lv1 := ((7, .int b9) :: (6, .int k9) :: [(0, .ref 239), (1, .ref 220), (2, .ref 229), (3, .ref 237), (4, .ref 238), (5, .int (nI i))])) (st1 := []) rfl ⟨(by unfold F_X9_thrown; exact ht), trivial⟩ ?_
  by_cases c0 : k9 = 0
  · have ho := ho c0
    refine q_go C tk_lw28 [(23, 8)] [false] (pc1 := 1706) (σ1 := τ) (lv1 := ((7, .int b9) :: (6, .int k9) :: [(0, .ref 239), (1, .ref 220), (2, .ref 229), (3, .ref 237), (4, .ref 238), (5, .int (nI i))])) (st1 := [.int (lg_cmp (τ 237 0).toInt64 b9.toInt64)]) rfl ⟨c0, rfl, (by unfold vp_in; decide), trivial⟩ ?_
    refine q_go C tk_lw28 [(31, 1), (34, 1)] [true] (pc1 := 2654) (σ1 := τ) (lv1 := ((7, .int b9) :: (6, .int k9) :: [(0, .ref 239), (1, .ref 220), (2, .ref 229), (3, .ref 237), (4, .ref 238), (5, .int (nI i))])) (st1 := []) rfl ⟨(by rw [ho]; exact q_cmp0 _), trivial⟩ ?_
    refine q_widen (k := n1 + 12) (n := n2 + 2000) (by omega) (by omega) ?_
    exact q_lvpick [2, 3, 4, 5, 6, 7] rfl kk
  · refine q_go C tk_lw28 [(23, 2), (34, 1)] [true] (pc1 := 2654) (σ1 := τ) (lv1 := ((7, .int b9) :: (6, .int k9) :: [(0, .ref 239), (1, .ref 220), (2, .ref 229), (3, .ref 237), (4, .ref 238), (5, .int (nI i))])) (st1 := []) rfl ⟨c0, trivial⟩ ?_
    refine q_widen (k := n1 + 12) (n := n2 + 2000) (by omega) (by omega) ?_
    exact q_lvpick [2, 3, 4, 5, 6, 7] rfl kk
def tb_lw29 : List q_E := [(1714, .aload_n 1, 1, 0, 0), (1715, .aload_n 0, 1, 0, 0), (1716, .iload 5, 2, 0, 0), (1718, .iconst 1, 1, 1, 0), (1719, .iadd, 1, 0, 0), (1720, .iaload, 1, 0, 0), (1721, .aload_n 3, 1, 0, 0), (1722, .invokestatic 258, 3, 0, 0), (1725, .istore 6, 2, 0, 0), (1727, .aload_n 2, 1, 0, 0), (1728, .aload_n 0, 1, 0, 0), (1729, .iload 5, 2, 0, 0), (1731, .iconst 1, 1, 1, 0), (1732, .iadd, 1, 0, 0), (1733, .iaload, 1, 0, 0), (1734, .invokevirtual 260, 3, 0, 0), (1737, .istore 7, 2, 0, 0), (1739, .aload_n 2, 1, 0, 0), (1740, .invokevirtual 161, 3, 0, 0), (1743, .iload 6, 2, 0, 0), (1745, .if_icmp .eq 5, 3, 0, 1750), (1748, .iconst 0, 1, 0, 0), (1749, .ireturn, 1, 0, 0), (1750, .iload 6, 2, 0, 0), (1752, .ifCond .ne 15, 3, 0, 1767), (1755, .aload_n 3, 1, 0, 0), (1756, .iconst 0, 1, 0, 0), (1757, .laload, 1, 0, 0), (1758, .iload 7, 2, 0, 0), (1760, .i2l, 1, 0, 0), (1761, .lcmp, 1, 0, 0), (1762, .ifCond .eq 5, 3, 0, 1767), (1765, .iconst 0, 1, 0, 0), (1766, .ireturn, 1, 0, 0), (1767, .goto 887, 3, 0, 2654)]
set_option maxRecDepth 100000 in
theorem tk_lw29 : q_tb code 9 tb_lw29 = true := by decide +kernel
def sim_resultOf (g0 : Int32) (σ : q_M) : Prop := q_SimI (fun σ => (∀ E, (F_X8_resultOf g0 σ) = .inr E → E ∈ nx_resultOf)) (fun σ => P_X9_resultOf g0 σ) (W_resultOf g0) (F_X9_resultOf g0) σ
def to_resultOf (g0 : Int32) (σ : q_M) : q_M := (F_X9_resultOf g0 (W_resultOf g0 σ).2).2
set_option maxRecDepth 100000 in
theorem cw_resultOf : Cond.codeWith yL_resultOf cL_resultOf 4 (some .int) hh_L_resultOf ∈ q_W := q_t4 123 rfl rfl
set_option maxRecDepth 100000 in
theorem sw_resultOf : Cond.static yL_resultOf ∈ q_W := q_t4 122 rfl rfl
set_option maxRecDepth 100000 in
theorem lw_ln_resultOf : Cond.methodLink RL 258 yL_resultOf ∈ q_W := q_t4 121 rfl rfl
set_option maxRecDepth 100000 in
set_option maxHeartbeats 2000000 in
theorem lw_resultOf {α β : Nat → Nat} {D : va_G} {κ : Nat → ClassId} {p : Program} {l : Launch} {e : Env} {s : State} {m : MethodId} {args : Array Value} {below : List Frame} {meth : Method} {c : Code} {A : Nat → Prop} {Q : State → Prop} {n1 n2 : Nat} (C : q_Cx α β D κ p s m args meth c code RL (fun _ => none) (fun _ => none) 9 A) (hfl : l.flags = flags0) {L : Nat} {xs : Nat → Int32} (hX : q_scr α s A L xs) {i : Nat} (hi : i + 4 ≤ L) (hL : L ≤ 2048) (hn : n1 + 12 ≤ 600000) (hn2 : n2 + 2000 ≤ 7000000) (σ : q_M) (hs : sim_resultOf (xs (i + 1)) σ) (kk : q_St α β D κ p l e room_1 s m args below meth c 9 A Q (n1 + 12) (n2 + 2000) (to_resultOf (xs (i + 1)) σ) [(0, .ref 239), (1, .ref 220), (2, .ref 229), (3, .ref 237), (4, .ref 238), (5, .int (nI i))] 2654 []) : q_St α β D κ p l e room_1 s m args below meth c 9 A Q n1 n2 σ [(0, .ref 239), (1, .ref 220), (2, .ref 229), (3, .ref 237), (4, .ref 238), (5, .int (nI i))] 1714 [] := by
  obtain ⟨hPW, hPF, ht, ho⟩ := hs
  have hE := hPW
  refine q_go C tk_lw29 [(0, 1)] [] (pc1 := 1715) (σ1 := σ) (lv1 := [(0, .ref 239), (1, .ref 220), (2, .ref 229), (3, .ref 237), (4, .ref 238), (5, .int (nI i))]) (st1 := [.ref 220]) rfl trivial ?_
  refine q_go C tk_lw29 [(1, 4)] [] (pc1 := 1720) (σ1 := σ) (lv1 := [(0, .ref 239), (1, .ref 220), (2, .ref 229), (3, .ref 237), (4, .ref 238), (5, .int (nI i))]) (st1 := [.int (nI i + 1), .ref 239, .ref 220]) rfl trivial ?_
  refine q_sld C hX (j := i + 1) (nI_add i 1) (by omega) hL (q_dc (z := (1720, .iaload, 1, 0, 0)) tk_lw29 5 rfl) ?_
  refine q_nrm 1721 [.int (xs (i + 1)), .ref 220] _ _ rfl rfl rfl rfl ?_
  refine q_go C tk_lw29 [(6, 1)] [] (pc1 := 1722) (σ1 := σ) (lv1 := [(0, .ref 239), (1, .ref 220), (2, .ref 229), (3, .ref 237), (4, .ref 238), (5, .int (nI i))]) (st1 := [.ref 237, .int (xs (i + 1)), .ref 220]) rfl trivial ?_
  refine q_callW (n := 3) C hfl cw_resultOf (by decide +kernel) q_init_L sw_resultOf lw_ln_resultOf (As := [.ref 220, .int (xs (i + 1)), .ref 237]) (kw_resultOf (xs (i + 1)) σ hE) (rest := []) rfl rfl (q_dc (z := (1722, .invokestatic 258, 3, 0, 0)) tk_lw29 7 rfl) (Nat.le_of_ble_eq_true rfl) ⟨(Nat.le_of_ble_eq_true rfl), (Nat.le_of_ble_eq_true rfl)⟩ ⟨(by show n1 + 2 ≤ 603072; omega), (by show n2 + 12 ≤ 7215209; omega)⟩ ?_
  refine q_nrm 1725 [.int (W_resultOf (xs (i + 1)) σ).1] (n1 + 2) (n2 + 12) rfl rfl rfl rfl ?_
  generalize hk9 : (W_resultOf (xs (i + 1)) σ).1 = k9 at ht ho ⊢
  refine q_go C tk_lw29 [(8, 2)] [] (pc1 := 1728) (σ1 := (W_resultOf (xs (i + 1)) σ).2) (lv1 := (6, .int k9) :: [(0, .ref 239), (1, .ref 220), (2, .ref 229), (3, .ref 237), (4, .ref 238), (5, .int (nI i))]) (st1 := [.ref 229]) rfl trivial ?_
  refine q_go C tk_lw29 [(10, 4)] [] (pc1 := 1733) (σ1 := (W_resultOf (xs (i + 1)) σ).2) (lv1 := ((6, .int k9) :: [(0, .ref 239), (1, .ref 220), (2, .ref 229), (3, .ref 237), (4, .ref 238), (5, .int (nI i))])) (st1 := [.int (nI i + 1), .ref 239, .ref 229]) rfl trivial ?_
  refine q_sld C hX (j := i + 1) (nI_add i 1) (by omega) hL (q_dc (z := (1733, .iaload, 1, 0, 0)) tk_lw29 14 rfl) ?_
  refine q_nrm 1734 [.int (xs (i + 1)), .ref 229] _ _ rfl rfl rfl rfl ?_
  refine q_callV C hfl mw_X9_resultOf mi_X9_resultOf me_X9_resultOf lk_L_260 (k_X9_resultOf (xs (i + 1)) (W_resultOf (xs (i + 1)) σ).2 hPF) (rest := []) rfl rfl rfl (by decide) (by decide) rfl (q_dc (z := (1734, .invokevirtual 260, 3, 0, 0)) tk_lw29 15 rfl) (Nat.le_of_ble_eq_true rfl) ⟨(Nat.le_of_ble_eq_true rfl), (Nat.le_of_ble_eq_true rfl)⟩ ⟨(by show n1 + 2 + 0 ≤ 603072; omega), (by show n2 + 12 + 0 ≤ 7215209; omega)⟩ ?_
  refine q_nrm 1737 [.int (F_X9_resultOf (xs (i + 1)) (W_resultOf (xs (i + 1)) σ).2).1] (n1 + 2) (n2 + 12) rfl rfl rfl rfl ?_
  generalize hb9 : (F_X9_resultOf (xs (i + 1)) (W_resultOf (xs (i + 1)) σ).2).1 = b9 at ho ⊢
  unfold to_resultOf at kk
  generalize ht9 : (F_X9_resultOf (xs (i + 1)) (W_resultOf (xs (i + 1)) σ).2).2 = τ at ht ho kk ⊢
  refine q_go C tk_lw29 [(16, 2)] [] (pc1 := 1740) (σ1 := τ) (lv1 := (7, .int b9) :: ((6, .int k9) :: [(0, .ref 239), (1, .ref 220), (2, .ref 229), (3, .ref 237), (4, .ref 238), (5, .int (nI i))])) (st1 := [.ref 229]) rfl trivial ?_
  refine q_callV C hfl mw_X9_thrown mi_X9_thrown me_X9_thrown lk_L_161 (k_X9_thrown τ) (rest := []) rfl rfl rfl (by decide) (by decide) rfl (q_dc (z := (1740, .invokevirtual 161, 3, 0, 0)) tk_lw29 18 rfl) (Nat.le_of_ble_eq_true rfl) ⟨(Nat.le_of_ble_eq_true rfl), (Nat.le_of_ble_eq_true rfl)⟩ ⟨(by show n1 + 2 + 0 ≤ 603072; omega), (by show n2 + 12 + 0 ≤ 7215209; omega)⟩ ?_
  refine q_nrm 1743 [.int (F_X9_thrown τ)] (n1 + 2) (n2 + 12) rfl rfl rfl rfl ?_
  refine q_go C tk_lw29 [(19, 2)] [true] (pc1 := 1750) (σ1 := τ) (lv1 := ((7, .int b9) :: (6, .int k9) :: [(0, .ref 239), (1, .ref 220), (2, .ref 229), (3, .ref 237), (4, .ref 238), (5, .int (nI i))])) (st1 := []) rfl ⟨(by unfold F_X9_thrown; exact ht), trivial⟩ ?_
  by_cases c0 : k9 = 0
  · have ho := ho c0
    refine q_go C tk_lw29 [(23, 8)] [false] (pc1 := 1762) (σ1 := τ) (lv1 := ((7, .int b9) :: (6, .int k9) :: [(0, .ref 239), (1, .ref 220), (2, .ref 229), (3, .ref 237), (4, .ref 238), (5, .int (nI i))])) (st1 := [.int (lg_cmp (τ 237 0).toInt64 b9.toInt64)]) rfl ⟨c0, rfl, (by unfold vp_in; decide), trivial⟩ ?_
    refine q_go C tk_lw29 [(31, 1), (34, 1)] [true] (pc1 := 2654) (σ1 := τ) (lv1 := ((7, .int b9) :: (6, .int k9) :: [(0, .ref 239), (1, .ref 220), (2, .ref 229), (3, .ref 237), (4, .ref 238), (5, .int (nI i))])) (st1 := []) rfl ⟨(by rw [ho]; exact q_cmp0 _), trivial⟩ ?_
    refine q_widen (k := n1 + 12) (n := n2 + 2000) (by omega) (by omega) ?_
    exact q_lvpick [2, 3, 4, 5, 6, 7] rfl kk
  · refine q_go C tk_lw29 [(23, 2), (34, 1)] [true] (pc1 := 2654) (σ1 := τ) (lv1 := ((7, .int b9) :: (6, .int k9) :: [(0, .ref 239), (1, .ref 220), (2, .ref 229), (3, .ref 237), (4, .ref 238), (5, .int (nI i))])) (st1 := []) rfl ⟨c0, trivial⟩ ?_
    refine q_widen (k := n1 + 12) (n := n2 + 2000) (by omega) (by omega) ?_
    exact q_lvpick [2, 3, 4, 5, 6, 7] rfl kk
def tb_lw30 : List q_E := [(1770, .aload_n 1, 1, 0, 0), (1771, .aload_n 0, 1, 0, 0), (1772, .iload 5, 2, 0, 0), (1774, .iconst 1, 1, 1, 0), (1775, .iadd, 1, 0, 0), (1776, .iaload, 1, 0, 0), (1777, .aload_n 3, 1, 0, 0), (1778, .invokestatic 261, 3, 0, 0), (1781, .istore 6, 2, 0, 0), (1783, .aload_n 2, 1, 0, 0), (1784, .aload_n 0, 1, 0, 0), (1785, .iload 5, 2, 0, 0), (1787, .iconst 1, 1, 1, 0), (1788, .iadd, 1, 0, 0), (1789, .iaload, 1, 0, 0), (1790, .invokevirtual 263, 3, 0, 0), (1793, .istore 7, 2, 0, 0), (1795, .aload_n 2, 1, 0, 0), (1796, .invokevirtual 161, 3, 0, 0), (1799, .iload 6, 2, 0, 0), (1801, .if_icmp .eq 5, 3, 0, 1806), (1804, .iconst 0, 1, 0, 0), (1805, .ireturn, 1, 0, 0), (1806, .iload 6, 2, 0, 0), (1808, .ifCond .ne 15, 3, 0, 1823), (1811, .aload_n 3, 1, 0, 0), (1812, .iconst 0, 1, 0, 0), (1813, .laload, 1, 0, 0), (1814, .iload 7, 2, 0, 0), (1816, .i2l, 1, 0, 0), (1817, .lcmp, 1, 0, 0), (1818, .ifCond .eq 5, 3, 0, 1823), (1821, .iconst 0, 1, 0, 0), (1822, .ireturn, 1, 0, 0), (1823, .goto 831, 3, 0, 2654)]
set_option maxRecDepth 100000 in
theorem tk_lw30 : q_tb code 9 tb_lw30 = true := by decide +kernel
def sim_teamAtRank (g0 : Int32) (σ : q_M) : Prop := q_SimI (fun σ => P_X8_teamAtRank g0 σ ∧ (∀ E, (F_X8_teamAtRank g0 σ) = .inr E → E ∈ nx_teamAtRank)) (fun σ => P_X9_teamAtRank g0 σ) (W_teamAtRank g0) (F_X9_teamAtRank g0) σ
def to_teamAtRank (g0 : Int32) (σ : q_M) : q_M := (F_X9_teamAtRank g0 (W_teamAtRank g0 σ).2).2
set_option maxRecDepth 100000 in
theorem cw_teamAtRank : Cond.codeWith yL_teamAtRank cL_teamAtRank 4 (some .int) hh_L_teamAtRank ∈ q_W := q_t4 134 rfl rfl
set_option maxRecDepth 100000 in
theorem sw_teamAtRank : Cond.static yL_teamAtRank ∈ q_W := q_t4 133 rfl rfl
set_option maxRecDepth 100000 in
theorem lw_ln_teamAtRank : Cond.methodLink RL 261 yL_teamAtRank ∈ q_W := q_t4 132 rfl rfl
set_option maxRecDepth 100000 in
set_option maxHeartbeats 2000000 in
theorem lw_teamAtRank {α β : Nat → Nat} {D : va_G} {κ : Nat → ClassId} {p : Program} {l : Launch} {e : Env} {s : State} {m : MethodId} {args : Array Value} {below : List Frame} {meth : Method} {c : Code} {A : Nat → Prop} {Q : State → Prop} {n1 n2 : Nat} (C : q_Cx α β D κ p s m args meth c code RL (fun _ => none) (fun _ => none) 9 A) (hfl : l.flags = flags0) {L : Nat} {xs : Nat → Int32} (hX : q_scr α s A L xs) {i : Nat} (hi : i + 4 ≤ L) (hL : L ≤ 2048) (hn : n1 + 12 ≤ 600000) (hn2 : n2 + 2000 ≤ 7000000) (σ : q_M) (hs : sim_teamAtRank (xs (i + 1)) σ) (kk : q_St α β D κ p l e room_1 s m args below meth c 9 A Q (n1 + 12) (n2 + 2000) (to_teamAtRank (xs (i + 1)) σ) [(0, .ref 239), (1, .ref 220), (2, .ref 229), (3, .ref 237), (4, .ref 238), (5, .int (nI i))] 2654 []) : q_St α β D κ p l e room_1 s m args below meth c 9 A Q n1 n2 σ [(0, .ref 239), (1, .ref 220), (2, .ref 229), (3, .ref 237), (4, .ref 238), (5, .int (nI i))] 1770 [] := by
  obtain ⟨hPW, hPF, ht, ho⟩ := hs
  obtain ⟨hPW, hE⟩ := hPW
  refine q_go C tk_lw30 [(0, 1)] [] (pc1 := 1771) (σ1 := σ) (lv1 := [(0, .ref 239), (1, .ref 220), (2, .ref 229), (3, .ref 237), (4, .ref 238), (5, .int (nI i))]) (st1 := [.ref 220]) rfl trivial ?_
  refine q_go C tk_lw30 [(1, 4)] [] (pc1 := 1776) (σ1 := σ) (lv1 := [(0, .ref 239), (1, .ref 220), (2, .ref 229), (3, .ref 237), (4, .ref 238), (5, .int (nI i))]) (st1 := [.int (nI i + 1), .ref 239, .ref 220]) rfl trivial ?_
  refine q_sld C hX (j := i + 1) (nI_add i 1) (by omega) hL (q_dc (z := (1776, .iaload, 1, 0, 0)) tk_lw30 5 rfl) ?_
  refine q_nrm 1777 [.int (xs (i + 1)), .ref 220] _ _ rfl rfl rfl rfl ?_
  refine q_go C tk_lw30 [(6, 1)] [] (pc1 := 1778) (σ1 := σ) (lv1 := [(0, .ref 239), (1, .ref 220), (2, .ref 229), (3, .ref 237), (4, .ref 238), (5, .int (nI i))]) (st1 := [.ref 237, .int (xs (i + 1)), .ref 220]) rfl trivial ?_
  refine q_callW (n := 3) C hfl cw_teamAtRank (by decide +kernel) q_init_L sw_teamAtRank lw_ln_teamAtRank (As := [.ref 220, .int (xs (i + 1)), .ref 237]) (kw_teamAtRank (xs (i + 1)) σ hPW hE) (rest := []) rfl rfl (q_dc (z := (1778, .invokestatic 261, 3, 0, 0)) tk_lw30 7 rfl) (Nat.le_of_ble_eq_true rfl) ⟨(Nat.le_of_ble_eq_true rfl), (Nat.le_of_ble_eq_true rfl)⟩ ⟨(by show n1 + 1 ≤ 603072; omega), (by show n2 + 6 ≤ 7215209; omega)⟩ ?_
  refine q_nrm 1781 [.int (W_teamAtRank (xs (i + 1)) σ).1] (n1 + 1) (n2 + 6) rfl rfl rfl rfl ?_
  generalize hk9 : (W_teamAtRank (xs (i + 1)) σ).1 = k9 at ht ho ⊢
  refine q_go C tk_lw30 [(8, 2)] [] (pc1 := 1784) (σ1 := (W_teamAtRank (xs (i + 1)) σ).2) (lv1 := (6, .int k9) :: [(0, .ref 239), (1, .ref 220), (2, .ref 229), (3, .ref 237), (4, .ref 238), (5, .int (nI i))]) (st1 := [.ref 229]) rfl trivial ?_
  refine q_go C tk_lw30 [(10, 4)] [] (pc1 := 1789) (σ1 := (W_teamAtRank (xs (i + 1)) σ).2) (lv1 := ((6, .int k9) :: [(0, .ref 239), (1, .ref 220), (2, .ref 229), (3, .ref 237), (4, .ref 238), (5, .int (nI i))])) (st1 := [.int (nI i + 1), .ref 239, .ref 229]) rfl trivial ?_
  refine q_sld C hX (j := i + 1) (nI_add i 1) (by omega) hL (q_dc (z := (1789, .iaload, 1, 0, 0)) tk_lw30 14 rfl) ?_
  refine q_nrm 1790 [.int (xs (i + 1)), .ref 229] _ _ rfl rfl rfl rfl ?_
  refine q_callV C hfl mw_X9_teamAtRank mi_X9_teamAtRank me_X9_teamAtRank lk_L_263 (k_X9_teamAtRank (xs (i + 1)) (W_teamAtRank (xs (i + 1)) σ).2 hPF) (rest := []) rfl rfl rfl (by decide) (by decide) rfl (q_dc (z := (1790, .invokevirtual 263, 3, 0, 0)) tk_lw30 15 rfl) (Nat.le_of_ble_eq_true rfl) ⟨(Nat.le_of_ble_eq_true rfl), (Nat.le_of_ble_eq_true rfl)⟩ ⟨(by show n1 + 1 + 0 ≤ 603072; omega), (by show n2 + 6 + 0 ≤ 7215209; omega)⟩ ?_
  refine q_nrm 1793 [.int (F_X9_teamAtRank (xs (i + 1)) (W_teamAtRank (xs (i + 1)) σ).2).1] (n1 + 1) (n2 + 6) rfl rfl rfl rfl ?_
  generalize hb9 : (F_X9_teamAtRank (xs (i + 1)) (W_teamAtRank (xs (i + 1)) σ).2).1 = b9 at ho ⊢
  unfold to_teamAtRank at kk
  generalize ht9 : (F_X9_teamAtRank (xs (i + 1)) (W_teamAtRank (xs (i + 1)) σ).2).2 = τ at ht ho kk ⊢
  refine q_go C tk_lw30 [(16, 2)] [] (pc1 := 1796) (σ1 := τ) (lv1 := (7, .int b9) :: ((6, .int k9) :: [(0, .ref 239), (1, .ref 220), (2, .ref 229), (3, .ref 237), (4, .ref 238), (5, .int (nI i))])) (st1 := [.ref 229]) rfl trivial ?_
  refine q_callV C hfl mw_X9_thrown mi_X9_thrown me_X9_thrown lk_L_161 (k_X9_thrown τ) (rest := []) rfl rfl rfl (by decide) (by decide) rfl (q_dc (z := (1796, .invokevirtual 161, 3, 0, 0)) tk_lw30 18 rfl) (Nat.le_of_ble_eq_true rfl) ⟨(Nat.le_of_ble_eq_true rfl), (Nat.le_of_ble_eq_true rfl)⟩ ⟨(by show n1 + 1 + 0 ≤ 603072; omega), (by show n2 + 6 + 0 ≤ 7215209; omega)⟩ ?_
  refine q_nrm 1799 [.int (F_X9_thrown τ)] (n1 + 1) (n2 + 6) rfl rfl rfl rfl ?_
  refine q_go C tk_lw30 [(19, 2)] [true] (pc1 := 1806) (σ1 := τ) (lv1 := ((7, .int b9) :: (6, .int k9) :: [(0, .ref 239), (1, .ref 220), (2, .ref 229), (3, .ref 237), (4, .ref 238), (5, .int (nI i))])) (st1 := []) rfl ⟨(by unfold F_X9_thrown; exact ht), trivial⟩ ?_
  by_cases c0 : k9 = 0
  · have ho := ho c0
    refine q_go C tk_lw30 [(23, 8)] [false] (pc1 := 1818) (σ1 := τ) (lv1 := ((7, .int b9) :: (6, .int k9) :: [(0, .ref 239), (1, .ref 220), (2, .ref 229), (3, .ref 237), (4, .ref 238), (5, .int (nI i))])) (st1 := [.int (lg_cmp (τ 237 0).toInt64 b9.toInt64)]) rfl ⟨c0, rfl, (by unfold vp_in; decide), trivial⟩ ?_
    refine q_go C tk_lw30 [(31, 1), (34, 1)] [true] (pc1 := 2654) (σ1 := τ) (lv1 := ((7, .int b9) :: (6, .int k9) :: [(0, .ref 239), (1, .ref 220), (2, .ref 229), (3, .ref 237), (4, .ref 238), (5, .int (nI i))])) (st1 := []) rfl ⟨(by rw [ho]; exact q_cmp0 _), trivial⟩ ?_
    refine q_widen (k := n1 + 12) (n := n2 + 2000) (by omega) (by omega) ?_
    exact q_lvpick [2, 3, 4, 5, 6, 7] rfl kk
  · refine q_go C tk_lw30 [(23, 2), (34, 1)] [true] (pc1 := 2654) (σ1 := τ) (lv1 := ((7, .int b9) :: (6, .int k9) :: [(0, .ref 239), (1, .ref 220), (2, .ref 229), (3, .ref 237), (4, .ref 238), (5, .int (nI i))])) (st1 := []) rfl ⟨c0, trivial⟩ ?_
    refine q_widen (k := n1 + 12) (n := n2 + 2000) (by omega) (by omega) ?_
    exact q_lvpick [2, 3, 4, 5, 6, 7] rfl kk
def tb_lw31 : List q_E := [(1826, .aload_n 1, 1, 0, 0), (1827, .aload_n 0, 1, 0, 0), (1828, .iload 5, 2, 0, 0), (1830, .iconst 1, 1, 1, 0), (1831, .iadd, 1, 0, 0), (1832, .iaload, 1, 0, 0), (1833, .aload_n 3, 1, 0, 0), (1834, .invokestatic 264, 3, 0, 0), (1837, .istore 6, 2, 0, 0), (1839, .aload_n 2, 1, 0, 0), (1840, .aload_n 0, 1, 0, 0), (1841, .iload 5, 2, 0, 0), (1843, .iconst 1, 1, 1, 0), (1844, .iadd, 1, 0, 0), (1845, .iaload, 1, 0, 0), (1846, .invokevirtual 266, 3, 0, 0), (1849, .istore 7, 2, 0, 0), (1851, .aload_n 2, 1, 0, 0), (1852, .invokevirtual 161, 3, 0, 0), (1855, .iload 6, 2, 0, 0), (1857, .if_icmp .eq 5, 3, 0, 1862), (1860, .iconst 0, 1, 0, 0), (1861, .ireturn, 1, 0, 0), (1862, .iload 6, 2, 0, 0), (1864, .ifCond .ne 15, 3, 0, 1879), (1867, .aload_n 3, 1, 0, 0), (1868, .iconst 0, 1, 0, 0), (1869, .laload, 1, 0, 0), (1870, .iload 7, 2, 0, 0), (1872, .i2l, 1, 0, 0), (1873, .lcmp, 1, 0, 0), (1874, .ifCond .eq 5, 3, 0, 1879), (1877, .iconst 0, 1, 0, 0), (1878, .ireturn, 1, 0, 0), (1879, .goto 775, 3, 0, 2654)]
set_option maxRecDepth 100000 in
theorem tk_lw31 : q_tb code 9 tb_lw31 = true := by decide +kernel
def sim_rankOf (g0 : Int32) (σ : q_M) : Prop := q_SimI (fun σ => P_X8_rankOf g0 σ ∧ (∀ E, (F_X8_rankOf g0 σ) = .inr E → E ∈ nx_rankOf)) (fun σ => P_X9_rankOf g0 σ) (W_rankOf g0) (F_X9_rankOf g0) σ
def to_rankOf (g0 : Int32) (σ : q_M) : q_M := (F_X9_rankOf g0 (W_rankOf g0 σ).2).2
set_option maxRecDepth 100000 in
theorem cw_rankOf : Cond.codeWith yL_rankOf cL_rankOf 4 (some .int) hh_L_rankOf ∈ q_W := q_t4 155 rfl rfl
set_option maxRecDepth 100000 in
theorem sw_rankOf : Cond.static yL_rankOf ∈ q_W := q_t4 154 rfl rfl
set_option maxRecDepth 100000 in
theorem lw_ln_rankOf : Cond.methodLink RL 264 yL_rankOf ∈ q_W := q_t4 153 rfl rfl
set_option maxRecDepth 100000 in
set_option maxHeartbeats 2000000 in
theorem lw_rankOf {α β : Nat → Nat} {D : va_G} {κ : Nat → ClassId} {p : Program} {l : Launch} {e : Env} {s : State} {m : MethodId} {args : Array Value} {below : List Frame} {meth : Method} {c : Code} {A : Nat → Prop} {Q : State → Prop} {n1 n2 : Nat} (C : q_Cx α β D κ p s m args meth c code RL (fun _ => none) (fun _ => none) 9 A) (hfl : l.flags = flags0) {L : Nat} {xs : Nat → Int32} (hX : q_scr α s A L xs) {i : Nat} (hi : i + 4 ≤ L) (hL : L ≤ 2048) (hn : n1 + 12 ≤ 600000) (hn2 : n2 + 2000 ≤ 7000000) (σ : q_M) (hs : sim_rankOf (xs (i + 1)) σ) (kk : q_St α β D κ p l e room_1 s m args below meth c 9 A Q (n1 + 12) (n2 + 2000) (to_rankOf (xs (i + 1)) σ) [(0, .ref 239), (1, .ref 220), (2, .ref 229), (3, .ref 237), (4, .ref 238), (5, .int (nI i))] 2654 []) : q_St α β D κ p l e room_1 s m args below meth c 9 A Q n1 n2 σ [(0, .ref 239), (1, .ref 220), (2, .ref 229), (3, .ref 237), (4, .ref 238), (5, .int (nI i))] 1826 [] := by
  obtain ⟨hPW, hPF, ht, ho⟩ := hs
  obtain ⟨hPW, hE⟩ := hPW
  refine q_go C tk_lw31 [(0, 1)] [] (pc1 := 1827) (σ1 := σ) (lv1 := [(0, .ref 239), (1, .ref 220), (2, .ref 229), (3, .ref 237), (4, .ref 238), (5, .int (nI i))]) (st1 := [.ref 220]) rfl trivial ?_
  refine q_go C tk_lw31 [(1, 4)] [] (pc1 := 1832) (σ1 := σ) (lv1 := [(0, .ref 239), (1, .ref 220), (2, .ref 229), (3, .ref 237), (4, .ref 238), (5, .int (nI i))]) (st1 := [.int (nI i + 1), .ref 239, .ref 220]) rfl trivial ?_
  refine q_sld C hX (j := i + 1) (nI_add i 1) (by omega) hL (q_dc (z := (1832, .iaload, 1, 0, 0)) tk_lw31 5 rfl) ?_
  refine q_nrm 1833 [.int (xs (i + 1)), .ref 220] _ _ rfl rfl rfl rfl ?_
  refine q_go C tk_lw31 [(6, 1)] [] (pc1 := 1834) (σ1 := σ) (lv1 := [(0, .ref 239), (1, .ref 220), (2, .ref 229), (3, .ref 237), (4, .ref 238), (5, .int (nI i))]) (st1 := [.ref 237, .int (xs (i + 1)), .ref 220]) rfl trivial ?_
  refine q_callW (n := 3) C hfl cw_rankOf (by decide +kernel) q_init_L sw_rankOf lw_ln_rankOf (As := [.ref 220, .int (xs (i + 1)), .ref 237]) (kw_rankOf (xs (i + 1)) σ hPW hE) (rest := []) rfl rfl (q_dc (z := (1834, .invokestatic 264, 3, 0, 0)) tk_lw31 7 rfl) (Nat.le_of_ble_eq_true rfl) ⟨(Nat.le_of_ble_eq_true rfl), (Nat.le_of_ble_eq_true rfl)⟩ ⟨(by show n1 + 1 ≤ 603072; omega), (by show n2 + 6 ≤ 7215209; omega)⟩ ?_
  refine q_nrm 1837 [.int (W_rankOf (xs (i + 1)) σ).1] (n1 + 1) (n2 + 6) rfl rfl rfl rfl ?_
  generalize hk9 : (W_rankOf (xs (i + 1)) σ).1 = k9 at ht ho ⊢
  refine q_go C tk_lw31 [(8, 2)] [] (pc1 := 1840) (σ1 := (W_rankOf (xs (i + 1)) σ).2) (lv1 := (6, .int k9) :: [(0, .ref 239), (1, .ref 220), (2, .ref 229), (3, .ref 237), (4, .ref 238), (5, .int (nI i))]) (st1 := [.ref 229]) rfl trivial ?_
  refine q_go C tk_lw31 [(10, 4)] [] (pc1 := 1845) (σ1 := (W_rankOf (xs (i + 1)) σ).2) (lv1 := ((6, .int k9) :: [(0, .ref 239), (1, .ref 220), (2, .ref 229), (3, .ref 237), (4, .ref 238), (5, .int (nI i))])) (st1 := [.int (nI i + 1), .ref 239, .ref 229]) rfl trivial ?_
  refine q_sld C hX (j := i + 1) (nI_add i 1) (by omega) hL (q_dc (z := (1845, .iaload, 1, 0, 0)) tk_lw31 14 rfl) ?_
  refine q_nrm 1846 [.int (xs (i + 1)), .ref 229] _ _ rfl rfl rfl rfl ?_
  refine q_callV C hfl mw_X9_rankOf mi_X9_rankOf me_X9_rankOf lk_L_266 (k_X9_rankOf (xs (i + 1)) (W_rankOf (xs (i + 1)) σ).2 hPF) (rest := []) rfl rfl rfl (by decide) (by decide) rfl (q_dc (z := (1846, .invokevirtual 266, 3, 0, 0)) tk_lw31 15 rfl) (Nat.le_of_ble_eq_true rfl) ⟨(Nat.le_of_ble_eq_true rfl), (Nat.le_of_ble_eq_true rfl)⟩ ⟨(by show n1 + 1 + 0 ≤ 603072; omega), (by show n2 + 6 + 0 ≤ 7215209; omega)⟩ ?_
  refine q_nrm 1849 [.int (F_X9_rankOf (xs (i + 1)) (W_rankOf (xs (i + 1)) σ).2).1] (n1 + 1) (n2 + 6) rfl rfl rfl rfl ?_
  generalize hb9 : (F_X9_rankOf (xs (i + 1)) (W_rankOf (xs (i + 1)) σ).2).1 = b9 at ho ⊢
  unfold to_rankOf at kk
  generalize ht9 : (F_X9_rankOf (xs (i + 1)) (W_rankOf (xs (i + 1)) σ).2).2 = τ at ht ho kk ⊢
  refine q_go C tk_lw31 [(16, 2)] [] (pc1 := 1852) (σ1 := τ) (lv1 := (7, .int b9) :: ((6, .int k9) :: [(0, .ref 239), (1, .ref 220), (2, .ref 229), (3, .ref 237), (4, .ref 238), (5, .int (nI i))])) (st1 := [.ref 229]) rfl trivial ?_
  refine q_callV C hfl mw_X9_thrown mi_X9_thrown me_X9_thrown lk_L_161 (k_X9_thrown τ) (rest := []) rfl rfl rfl (by decide) (by decide) rfl (q_dc (z := (1852, .invokevirtual 161, 3, 0, 0)) tk_lw31 18 rfl) (Nat.le_of_ble_eq_true rfl) ⟨(Nat.le_of_ble_eq_true rfl), (Nat.le_of_ble_eq_true rfl)⟩ ⟨(by show n1 + 1 + 0 ≤ 603072; omega), (by show n2 + 6 + 0 ≤ 7215209; omega)⟩ ?_
  refine q_nrm 1855 [.int (F_X9_thrown τ)] (n1 + 1) (n2 + 6) rfl rfl rfl rfl ?_
  refine q_go C tk_lw31 [(19, 2)] [true] (pc1 := 1862) (σ1 := τ) (lv1 := ((7, .int b9) :: (6, .int k9) :: [(0, .ref 239), (1, .ref 220), (2, .ref 229), (3, .ref 237), (4, .ref 238), (5, .int (nI i))])) (st1 := []) rfl ⟨(by unfold F_X9_thrown; exact ht), trivial⟩ ?_
  by_cases c0 : k9 = 0
  · have ho := ho c0
    refine q_go C tk_lw31 [(23, 8)] [false] (pc1 := 1874) (σ1 := τ) (lv1 := ((7, .int b9) :: (6, .int k9) :: [(0, .ref 239), (1, .ref 220), (2, .ref 229), (3, .ref 237), (4, .ref 238), (5, .int (nI i))])) (st1 := [.int (lg_cmp (τ 237 0).toInt64 b9.toInt64)]) rfl ⟨c0, rfl, (by unfold vp_in; decide), trivial⟩ ?_
    refine q_go C tk_lw31 [(31, 1), (34, 1)] [true] (pc1 := 2654) (σ1 := τ) (lv1 := ((7, .int b9) :: (6, .int k9) :: [(0, .ref 239), (1, .ref 220), (2, .ref 229), (3, .ref 237), (4, .ref 238), (5, .int (nI i))])) (st1 := []) rfl ⟨(by rw [ho]; exact q_cmp0 _), trivial⟩ ?_
    refine q_widen (k := n1 + 12) (n := n2 + 2000) (by omega) (by omega) ?_
    exact q_lvpick [2, 3, 4, 5, 6, 7] rfl kk
  · refine q_go C tk_lw31 [(23, 2), (34, 1)] [true] (pc1 := 2654) (σ1 := τ) (lv1 := ((7, .int b9) :: (6, .int k9) :: [(0, .ref 239), (1, .ref 220), (2, .ref 229), (3, .ref 237), (4, .ref 238), (5, .int (nI i))])) (st1 := []) rfl ⟨c0, trivial⟩ ?_
    refine q_widen (k := n1 + 12) (n := n2 + 2000) (by omega) (by omega) ?_
    exact q_lvpick [2, 3, 4, 5, 6, 7] rfl kk
def tb_lw33 : List q_E := [(1947, .aload_n 1, 1, 0, 0), (1948, .aload_n 0, 1, 0, 0), (1949, .iload 5, 2, 0, 0), (1951, .iconst 1, 1, 1, 0), (1952, .iadd, 1, 0, 0), (1953, .iaload, 1, 0, 0), (1954, .aload_n 0, 1, 0, 0), (1955, .iload 5, 2, 0, 0), (1957, .iconst 2, 1, 2, 0), (1958, .iadd, 1, 0, 0), (1959, .iaload, 1, 0, 0), (1960, .aload_n 0, 1, 0, 0), (1961, .iload 5, 2, 0, 0), (1963, .iconst 3, 1, 3, 0), (1964, .iadd, 1, 0, 0), (1965, .iaload, 1, 0, 0), (1966, .aload_n 3, 1, 0, 0), (1967, .invokestatic 271, 3, 0, 0), (1970, .istore 6, 2, 0, 0), (1972, .aload_n 2, 1, 0, 0), (1973, .aload_n 0, 1, 0, 0), (1974, .iload 5, 2, 0, 0), (1976, .iconst 1, 1, 1, 0), (1977, .iadd, 1, 0, 0), (1978, .iaload, 1, 0, 0), (1979, .aload_n 0, 1, 0, 0), (1980, .iload 5, 2, 0, 0), (1982, .iconst 2, 1, 2, 0), (1983, .iadd, 1, 0, 0), (1984, .iaload, 1, 0, 0), (1985, .aload_n 0, 1, 0, 0), (1986, .iload 5, 2, 0, 0), (1988, .iconst 3, 1, 3, 0), (1989, .iadd, 1, 0, 0), (1990, .iaload, 1, 0, 0), (1991, .invokevirtual 273, 3, 0, 0), (1994, .istore 7, 2, 0, 0), (1996, .aload_n 2, 1, 0, 0), (1997, .invokevirtual 161, 3, 0, 0), (2000, .iload 6, 2, 0, 0), (2002, .if_icmp .eq 5, 3, 0, 2007), (2005, .iconst 0, 1, 0, 0), (2006, .ireturn, 1, 0, 0), (2007, .iload 6, 2, 0, 0), (2009, .ifCond .ne 15, 3, 0, 2024), (2012, .aload_n 3, 1, 0, 0), (2013, .iconst 0, 1, 0, 0), (2014, .laload, 1, 0, 0), (2015, .iload 7, 2, 0, 0), (2017, .i2l, 1, 0, 0), (2018, .lcmp, 1, 0, 0), (2019, .ifCond .eq 5, 3, 0, 2024), (2022, .iconst 0, 1, 0, 0), (2023, .ireturn, 1, 0, 0), (2024, .goto 630, 3, 0, 2654)]
set_option maxRecDepth 100000 in
theorem tk_lw33 : q_tb code 9 tb_lw33 = true := by decide +kernel
def sim_reach (g0 : Int32) (g1 : Int32) (g2 : Int32) (σ : q_M) : Prop := q_SimI (fun σ => P_X8_reach g0 g1 g2 σ ∧ (∀ E, (F_X8_reach g0 g1 g2 σ) = .inr E → E ∈ nx_reach)) (fun σ => P_X9_reach g0 g1 g2 σ) (W_reach g0 g1 g2) (F_X9_reach g0 g1 g2) σ
def to_reach (g0 : Int32) (g1 : Int32) (g2 : Int32) (σ : q_M) : q_M := (F_X9_reach g0 g1 g2 (W_reach g0 g1 g2 σ).2).2
set_option maxRecDepth 100000 in
theorem cw_reach : Cond.codeWith yL_reach cL_reach 6 (some .int) hh_L_reach ∈ q_W := q_t4 196 rfl rfl
set_option maxRecDepth 100000 in
theorem sw_reach : Cond.static yL_reach ∈ q_W := q_t4 195 rfl rfl
set_option maxRecDepth 100000 in
theorem lw_ln_reach : Cond.methodLink RL 271 yL_reach ∈ q_W := q_t4 194 rfl rfl
set_option maxRecDepth 100000 in
set_option maxHeartbeats 2000000 in
theorem lw_reach {α β : Nat → Nat} {D : va_G} {κ : Nat → ClassId} {p : Program} {l : Launch} {e : Env} {s : State} {m : MethodId} {args : Array Value} {below : List Frame} {meth : Method} {c : Code} {A : Nat → Prop} {Q : State → Prop} {n1 n2 : Nat} (C : q_Cx α β D κ p s m args meth c code RL (fun _ => none) (fun _ => none) 9 A) (hfl : l.flags = flags0) {L : Nat} {xs : Nat → Int32} (hX : q_scr α s A L xs) {i : Nat} (hi : i + 4 ≤ L) (hL : L ≤ 2048) (hn : n1 + 12 ≤ 600000) (hn2 : n2 + 2000 ≤ 7000000) (σ : q_M) (hs : sim_reach (xs (i + 1)) (xs (i + 2)) (xs (i + 3)) σ) (kk : q_St α β D κ p l e room_1 s m args below meth c 9 A Q (n1 + 12) (n2 + 2000) (to_reach (xs (i + 1)) (xs (i + 2)) (xs (i + 3)) σ) [(0, .ref 239), (1, .ref 220), (2, .ref 229), (3, .ref 237), (4, .ref 238), (5, .int (nI i))] 2654 []) : q_St α β D κ p l e room_1 s m args below meth c 9 A Q n1 n2 σ [(0, .ref 239), (1, .ref 220), (2, .ref 229), (3, .ref 237), (4, .ref 238), (5, .int (nI i))] 1947 [] := by
  obtain ⟨hPW, hPF, ht, ho⟩ := hs
  obtain ⟨hPW, hE⟩ := hPW
  refine q_go C tk_lw33 [(0, 1)] [] (pc1 := 1948) (σ1 := σ) (lv1 := [(0, .ref 239), (1, .ref 220), (2, .ref 229), (3, .ref 237), (4, .ref 238), (5, .int (nI i))]) (st1 := [.ref 220]) rfl trivial ?_
  refine q_go C tk_lw33 [(1, 4)] [] (pc1 := 1953) (σ1 := σ) (lv1 := [(0, .ref 239), (1, .ref 220), (2, .ref 229), (3, .ref 237), (4, .ref 238), (5, .int (nI i))]) (st1 := [.int (nI i + 1), .ref 239, .ref 220]) rfl trivial ?_
  refine q_sld C hX (j := i + 1) (nI_add i 1) (by omega) hL (q_dc (z := (1953, .iaload, 1, 0, 0)) tk_lw33 5 rfl) ?_
  refine q_nrm 1954 [.int (xs (i + 1)), .ref 220] _ _ rfl rfl rfl rfl ?_
  refine q_go C tk_lw33 [(6, 4)] [] (pc1 := 1959) (σ1 := σ) (lv1 := [(0, .ref 239), (1, .ref 220), (2, .ref 229), (3, .ref 237), (4, .ref 238), (5, .int (nI i))]) (st1 := [.int (nI i + 2), .ref 239, .int (xs (i + 1)), .ref 220]) rfl trivial ?_
  refine q_sld C hX (j := i + 2) (nI_add i 2) (by omega) hL (q_dc (z := (1959, .iaload, 1, 0, 0)) tk_lw33 10 rfl) ?_
  refine q_nrm 1960 [.int (xs (i + 2)), .int (xs (i + 1)), .ref 220] _ _ rfl rfl rfl rfl ?_
  refine q_go C tk_lw33 [(11, 4)] [] (pc1 := 1965) (σ1 := σ) (lv1 := [(0, .ref 239), (1, .ref 220), (2, .ref 229), (3, .ref 237), (4, .ref 238), (5, .int (nI i))]) (st1 := [.int (nI i + 3), .ref 239, .int (xs (i + 2)), .int (xs (i + 1)), .ref 220]) rfl trivial ?_
  refine q_sld C hX (j := i + 3) (nI_add i 3) (by omega) hL (q_dc (z := (1965, .iaload, 1, 0, 0)) tk_lw33 15 rfl) ?_
  refine q_nrm 1966 [.int (xs (i + 3)), .int (xs (i + 2)), .int (xs (i + 1)), .ref 220] _ _ rfl rfl rfl rfl ?_
  refine q_go C tk_lw33 [(16, 1)] [] (pc1 := 1967) (σ1 := σ) (lv1 := [(0, .ref 239), (1, .ref 220), (2, .ref 229), (3, .ref 237), (4, .ref 238), (5, .int (nI i))]) (st1 := [.ref 237, .int (xs (i + 3)), .int (xs (i + 2)), .int (xs (i + 1)), .ref 220]) rfl trivial ?_
  refine q_callW (n := 5) C hfl cw_reach (by decide +kernel) q_init_L sw_reach lw_ln_reach (As := [.ref 220, .int (xs (i + 1)), .int (xs (i + 2)), .int (xs (i + 3)), .ref 237]) (kw_reach (xs (i + 1)) (xs (i + 2)) (xs (i + 3)) σ hPW hE) (rest := []) rfl rfl (q_dc (z := (1967, .invokestatic 271, 3, 0, 0)) tk_lw33 17 rfl) (Nat.le_of_ble_eq_true rfl) ⟨(Nat.le_of_ble_eq_true rfl), (Nat.le_of_ble_eq_true rfl)⟩ ⟨(by show n1 + 3 ≤ 603072; omega), (by show n2 + 18 ≤ 7215209; omega)⟩ ?_
  refine q_nrm 1970 [.int (W_reach (xs (i + 1)) (xs (i + 2)) (xs (i + 3)) σ).1] (n1 + 3) (n2 + 18) rfl rfl rfl rfl ?_
  generalize hk9 : (W_reach (xs (i + 1)) (xs (i + 2)) (xs (i + 3)) σ).1 = k9 at ht ho ⊢
  refine q_go C tk_lw33 [(18, 2)] [] (pc1 := 1973) (σ1 := (W_reach (xs (i + 1)) (xs (i + 2)) (xs (i + 3)) σ).2) (lv1 := (6, .int k9) :: [(0, .ref 239), (1, .ref 220), (2, .ref 229), (3, .ref 237), (4, .ref 238), (5, .int (nI i))]) (st1 := [.ref 229]) rfl trivial ?_
  refine q_go C tk_lw33 [(20, 4)] [] (pc1 := 1978) (σ1 := (W_reach (xs (i + 1)) (xs (i + 2)) (xs (i + 3)) σ).2) (lv1 := ((6, .int k9) :: [(0, .ref 239), (1, .ref 220), (2, .ref 229), (3, .ref 237), (4, .ref 238), (5, .int (nI i))])) (st1 := [.int (nI i + 1), .ref 239, .ref 229]) rfl trivial ?_
  refine q_sld C hX (j := i + 1) (nI_add i 1) (by omega) hL (q_dc (z := (1978, .iaload, 1, 0, 0)) tk_lw33 24 rfl) ?_
  refine q_nrm 1979 [.int (xs (i + 1)), .ref 229] _ _ rfl rfl rfl rfl ?_
  refine q_go C tk_lw33 [(25, 4)] [] (pc1 := 1984) (σ1 := (W_reach (xs (i + 1)) (xs (i + 2)) (xs (i + 3)) σ).2) (lv1 := ((6, .int k9) :: [(0, .ref 239), (1, .ref 220), (2, .ref 229), (3, .ref 237), (4, .ref 238), (5, .int (nI i))])) (st1 := [.int (nI i + 2), .ref 239, .int (xs (i + 1)), .ref 229]) rfl trivial ?_
  refine q_sld C hX (j := i + 2) (nI_add i 2) (by omega) hL (q_dc (z := (1984, .iaload, 1, 0, 0)) tk_lw33 29 rfl) ?_
  refine q_nrm 1985 [.int (xs (i + 2)), .int (xs (i + 1)), .ref 229] _ _ rfl rfl rfl rfl ?_
  refine q_go C tk_lw33 [(30, 4)] [] (pc1 := 1990) (σ1 := (W_reach (xs (i + 1)) (xs (i + 2)) (xs (i + 3)) σ).2) (lv1 := ((6, .int k9) :: [(0, .ref 239), (1, .ref 220), (2, .ref 229), (3, .ref 237), (4, .ref 238), (5, .int (nI i))])) (st1 := [.int (nI i + 3), .ref 239, .int (xs (i + 2)), .int (xs (i + 1)), .ref 229]) rfl trivial ?_
  refine q_sld C hX (j := i + 3) (nI_add i 3) (by omega) hL (q_dc (z := (1990, .iaload, 1, 0, 0)) tk_lw33 34 rfl) ?_
  refine q_nrm 1991 [.int (xs (i + 3)), .int (xs (i + 2)), .int (xs (i + 1)), .ref 229] _ _ rfl rfl rfl rfl ?_
  refine q_callV C hfl mw_X9_reach mi_X9_reach me_X9_reach lk_L_273 (k_X9_reach (xs (i + 1)) (xs (i + 2)) (xs (i + 3)) (W_reach (xs (i + 1)) (xs (i + 2)) (xs (i + 3)) σ).2 hPF) (rest := []) rfl rfl rfl (by decide) (by decide) rfl (q_dc (z := (1991, .invokevirtual 273, 3, 0, 0)) tk_lw33 35 rfl) (Nat.le_of_ble_eq_true rfl) ⟨(Nat.le_of_ble_eq_true rfl), (Nat.le_of_ble_eq_true rfl)⟩ ⟨(by show n1 + 3 + 0 ≤ 603072; omega), (by show n2 + 18 + 0 ≤ 7215209; omega)⟩ ?_
  refine q_nrm 1994 [.int (F_X9_reach (xs (i + 1)) (xs (i + 2)) (xs (i + 3)) (W_reach (xs (i + 1)) (xs (i + 2)) (xs (i + 3)) σ).2).1] (n1 + 3) (n2 + 18) rfl rfl rfl rfl ?_
  generalize hb9 : (F_X9_reach (xs (i + 1)) (xs (i + 2)) (xs (i + 3)) (W_reach (xs (i + 1)) (xs (i + 2)) (xs (i + 3)) σ).2).1 = b9 at ho ⊢
  unfold to_reach at kk
  generalize ht9 : (F_X9_reach (xs (i + 1)) (xs (i + 2)) (xs (i + 3)) (W_reach (xs (i + 1)) (xs (i + 2)) (xs (i + 3)) σ).2).2 = τ at ht ho kk ⊢
  refine q_go C tk_lw33 [(36, 2)] [] (pc1 := 1997) (σ1 := τ) (lv1 := (7, .int b9) :: ((6, .int k9) :: [(0, .ref 239), (1, .ref 220), (2, .ref 229), (3, .ref 237), (4, .ref 238), (5, .int (nI i))])) (st1 := [.ref 229]) rfl trivial ?_
  refine q_callV C hfl mw_X9_thrown mi_X9_thrown me_X9_thrown lk_L_161 (k_X9_thrown τ) (rest := []) rfl rfl rfl (by decide) (by decide) rfl (q_dc (z := (1997, .invokevirtual 161, 3, 0, 0)) tk_lw33 38 rfl) (Nat.le_of_ble_eq_true rfl) ⟨(Nat.le_of_ble_eq_true rfl), (Nat.le_of_ble_eq_true rfl)⟩ ⟨(by show n1 + 3 + 0 ≤ 603072; omega), (by show n2 + 18 + 0 ≤ 7215209; omega)⟩ ?_
  refine q_nrm 2000 [.int (F_X9_thrown τ)] (n1 + 3) (n2 + 18) rfl rfl rfl rfl ?_
  refine q_go C tk_lw33 [(39, 2)] [true] (pc1 := 2007) (σ1 := τ) (lv1 := ((7, .int b9) :: (6, .int k9) :: [(0, .ref 239), (1, .ref 220), (2, .ref 229), (3, .ref 237), (4, .ref 238), (5, .int (nI i))])) (st1 := []) rfl ⟨(by unfold F_X9_thrown; exact ht), trivial⟩ ?_
  by_cases c0 : k9 = 0
  · have ho := ho c0
    refine q_go C tk_lw33 [(43, 8)] [false] (pc1 := 2019) (σ1 := τ) (lv1 := ((7, .int b9) :: (6, .int k9) :: [(0, .ref 239), (1, .ref 220), (2, .ref 229), (3, .ref 237), (4, .ref 238), (5, .int (nI i))])) (st1 := [.int (lg_cmp (τ 237 0).toInt64 b9.toInt64)]) rfl ⟨c0, rfl, (by unfold vp_in; decide), trivial⟩ ?_
    refine q_go C tk_lw33 [(51, 1), (54, 1)] [true] (pc1 := 2654) (σ1 := τ) (lv1 := ((7, .int b9) :: (6, .int k9) :: [(0, .ref 239), (1, .ref 220), (2, .ref 229), (3, .ref 237), (4, .ref 238), (5, .int (nI i))])) (st1 := []) rfl ⟨(by rw [ho]; exact q_cmp0 _), trivial⟩ ?_
    refine q_widen (k := n1 + 12) (n := n2 + 2000) (by omega) (by omega) ?_
    exact q_lvpick [2, 3, 4, 5, 6, 7] rfl kk
  · refine q_go C tk_lw33 [(43, 2), (54, 1)] [true] (pc1 := 2654) (σ1 := τ) (lv1 := ((7, .int b9) :: (6, .int k9) :: [(0, .ref 239), (1, .ref 220), (2, .ref 229), (3, .ref 237), (4, .ref 238), (5, .int (nI i))])) (st1 := []) rfl ⟨c0, trivial⟩ ?_
    refine q_widen (k := n1 + 12) (n := n2 + 2000) (by omega) (by omega) ?_
    exact q_lvpick [2, 3, 4, 5, 6, 7] rfl kk
def tb_lw34 : List q_E := [(2027, .aload_n 1, 1, 0, 0), (2028, .aload_n 0, 1, 0, 0), (2029, .iload 5, 2, 0, 0), (2031, .iconst 1, 1, 1, 0), (2032, .iadd, 1, 0, 0), (2033, .iaload, 1, 0, 0), (2034, .aload_n 0, 1, 0, 0), (2035, .iload 5, 2, 0, 0), (2037, .iconst 2, 1, 2, 0), (2038, .iadd, 1, 0, 0), (2039, .iaload, 1, 0, 0), (2040, .aload_n 0, 1, 0, 0), (2041, .iload 5, 2, 0, 0), (2043, .iconst 3, 1, 3, 0), (2044, .iadd, 1, 0, 0), (2045, .iaload, 1, 0, 0), (2046, .aload_n 3, 1, 0, 0), (2047, .invokestatic 274, 3, 0, 0), (2050, .istore 6, 2, 0, 0), (2052, .aload_n 2, 1, 0, 0), (2053, .aload_n 0, 1, 0, 0), (2054, .iload 5, 2, 0, 0), (2056, .iconst 1, 1, 1, 0), (2057, .iadd, 1, 0, 0), (2058, .iaload, 1, 0, 0), (2059, .aload_n 0, 1, 0, 0), (2060, .iload 5, 2, 0, 0), (2062, .iconst 2, 1, 2, 0), (2063, .iadd, 1, 0, 0), (2064, .iaload, 1, 0, 0), (2065, .aload_n 0, 1, 0, 0), (2066, .iload 5, 2, 0, 0), (2068, .iconst 3, 1, 3, 0), (2069, .iadd, 1, 0, 0), (2070, .iaload, 1, 0, 0), (2071, .invokevirtual 276, 3, 0, 0), (2074, .istore 7, 2, 0, 0), (2076, .aload_n 2, 1, 0, 0), (2077, .invokevirtual 161, 3, 0, 0), (2080, .iload 6, 2, 0, 0), (2082, .if_icmp .eq 5, 3, 0, 2087), (2085, .iconst 0, 1, 0, 0), (2086, .ireturn, 1, 0, 0), (2087, .iload 6, 2, 0, 0), (2089, .ifCond .ne 15, 3, 0, 2104), (2092, .aload_n 3, 1, 0, 0), (2093, .iconst 0, 1, 0, 0), (2094, .laload, 1, 0, 0), (2095, .iload 7, 2, 0, 0), (2097, .i2l, 1, 0, 0), (2098, .lcmp, 1, 0, 0), (2099, .ifCond .eq 5, 3, 0, 2104), (2102, .iconst 0, 1, 0, 0), (2103, .ireturn, 1, 0, 0), (2104, .goto 550, 3, 0, 2654)]
set_option maxRecDepth 100000 in
theorem tk_lw34 : q_tb code 9 tb_lw34 = true := by decide +kernel
def sim_reachByStretches (g0 : Int32) (g1 : Int32) (g2 : Int32) (σ : q_M) : Prop := q_SimI (fun σ => P_X8_reachByStretches g0 g1 g2 σ ∧ (∀ E, (F_X8_reachByStretches g0 g1 g2 σ) = .inr E → E ∈ nx_reachByStretches)) (fun σ => P_X9_reachByStretches g0 g1 g2 σ) (W_reachByStretches g0 g1 g2) (F_X9_reachByStretches g0 g1 g2) σ
def to_reachByStretches (g0 : Int32) (g1 : Int32) (g2 : Int32) (σ : q_M) : q_M := (F_X9_reachByStretches g0 g1 g2 (W_reachByStretches g0 g1 g2 σ).2).2
set_option maxRecDepth 100000 in
theorem cw_reachByStretches : Cond.codeWith yL_reachByStretches cL_reachByStretches 6 (some .int) hh_L_reachByStretches ∈ q_W := q_t4 209 rfl rfl
set_option maxRecDepth 100000 in
theorem sw_reachByStretches : Cond.static yL_reachByStretches ∈ q_W := q_t4 208 rfl rfl
set_option maxRecDepth 100000 in
theorem lw_ln_reachByStretches : Cond.methodLink RL 274 yL_reachByStretches ∈ q_W := q_t4 207 rfl rfl
set_option maxRecDepth 100000 in
set_option maxHeartbeats 2000000 in
theorem lw_reachByStretches {α β : Nat → Nat} {D : va_G} {κ : Nat → ClassId} {p : Program} {l : Launch} {e : Env} {s : State} {m : MethodId} {args : Array Value} {below : List Frame} {meth : Method} {c : Code} {A : Nat → Prop} {Q : State → Prop} {n1 n2 : Nat} (C : q_Cx α β D κ p s m args meth c code RL (fun _ => none) (fun _ => none) 9 A) (hfl : l.flags = flags0) {L : Nat} {xs : Nat → Int32} (hX : q_scr α s A L xs) {i : Nat} (hi : i + 4 ≤ L) (hL : L ≤ 2048) (hn : n1 + 12 ≤ 600000) (hn2 : n2 + 2000 ≤ 7000000) (σ : q_M) (hs : sim_reachByStretches (xs (i + 1)) (xs (i + 2)) (xs (i + 3)) σ) (kk : q_St α β D κ p l e room_1 s m args below meth c 9 A Q (n1 + 12) (n2 + 2000) (to_reachByStretches (xs (i + 1)) (xs (i + 2)) (xs (i + 3)) σ) [(0, .ref 239), (1, .ref 220), (2, .ref 229), (3, .ref 237), (4, .ref 238), (5, .int (nI i))] 2654 []) : q_St α β D κ p l e room_1 s m args below meth c 9 A Q n1 n2 σ [(0, .ref 239), (1, .ref 220), (2, .ref 229), (3, .ref 237), (4, .ref 238), (5, .int (nI i))] 2027 [] := by
  obtain ⟨hPW, hPF, ht, ho⟩ := hs
  obtain ⟨hPW, hE⟩ := hPW
  refine q_go C tk_lw34 [(0, 1)] [] (pc1 := 2028) (σ1 := σ) (lv1 := [(0, .ref 239), (1, .ref 220), (2, .ref 229), (3, .ref 237), (4, .ref 238), (5, .int (nI i))]) (st1 := [.ref 220]) rfl trivial ?_
  refine q_go C tk_lw34 [(1, 4)] [] (pc1 := 2033) (σ1 := σ) (lv1 := [(0, .ref 239), (1, .ref 220), (2, .ref 229), (3, .ref 237), (4, .ref 238), (5, .int (nI i))]) (st1 := [.int (nI i + 1), .ref 239, .ref 220]) rfl trivial ?_
  refine q_sld C hX (j := i + 1) (nI_add i 1) (by omega) hL (q_dc (z := (2033, .iaload, 1, 0, 0)) tk_lw34 5 rfl) ?_
  refine q_nrm 2034 [.int (xs (i + 1)), .ref 220] _ _ rfl rfl rfl rfl ?_
  refine q_go C tk_lw34 [(6, 4)] [] (pc1 := 2039) (σ1 := σ) (lv1 := [(0, .ref 239), (1, .ref 220), (2, .ref 229), (3, .ref 237), (4, .ref 238), (5, .int (nI i))]) (st1 := [.int (nI i + 2), .ref 239, .int (xs (i + 1)), .ref 220]) rfl trivial ?_
  refine q_sld C hX (j := i + 2) (nI_add i 2) (by omega) hL (q_dc (z := (2039, .iaload, 1, 0, 0)) tk_lw34 10 rfl) ?_
  refine q_nrm 2040 [.int (xs (i + 2)), .int (xs (i + 1)), .ref 220] _ _ rfl rfl rfl rfl ?_
  refine q_go C tk_lw34 [(11, 4)] [] (pc1 := 2045) (σ1 := σ) (lv1 := [(0, .ref 239), (1, .ref 220), (2, .ref 229), (3, .ref 237), (4, .ref 238), (5, .int (nI i))]) (st1 := [.int (nI i + 3), .ref 239, .int (xs (i + 2)), .int (xs (i + 1)), .ref 220]) rfl trivial ?_
  refine q_sld C hX (j := i + 3) (nI_add i 3) (by omega) hL (q_dc (z := (2045, .iaload, 1, 0, 0)) tk_lw34 15 rfl) ?_
  refine q_nrm 2046 [.int (xs (i + 3)), .int (xs (i + 2)), .int (xs (i + 1)), .ref 220] _ _ rfl rfl rfl rfl ?_
  refine q_go C tk_lw34 [(16, 1)] [] (pc1 := 2047) (σ1 := σ) (lv1 := [(0, .ref 239), (1, .ref 220), (2, .ref 229), (3, .ref 237), (4, .ref 238), (5, .int (nI i))]) (st1 := [.ref 237, .int (xs (i + 3)), .int (xs (i + 2)), .int (xs (i + 1)), .ref 220]) rfl trivial ?_
  refine q_callW (n := 5) C hfl cw_reachByStretches (by decide +kernel) q_init_L sw_reachByStretches lw_ln_reachByStretches (As := [.ref 220, .int (xs (i + 1)), .int (xs (i + 2)), .int (xs (i + 3)), .ref 237]) (kw_reachByStretches (xs (i + 1)) (xs (i + 2)) (xs (i + 3)) σ hPW hE) (rest := []) rfl rfl (q_dc (z := (2047, .invokestatic 274, 3, 0, 0)) tk_lw34 17 rfl) (Nat.le_of_ble_eq_true rfl) ⟨(Nat.le_of_ble_eq_true rfl), (Nat.le_of_ble_eq_true rfl)⟩ ⟨(by show n1 + 3 ≤ 603072; omega), (by show n2 + 18 ≤ 7215209; omega)⟩ ?_
  refine q_nrm 2050 [.int (W_reachByStretches (xs (i + 1)) (xs (i + 2)) (xs (i + 3)) σ).1] (n1 + 3) (n2 + 18) rfl rfl rfl rfl ?_
  generalize hk9 : (W_reachByStretches (xs (i + 1)) (xs (i + 2)) (xs (i + 3)) σ).1 = k9 at ht ho ⊢
  refine q_go C tk_lw34 [(18, 2)] [] (pc1 := 2053) (σ1 := (W_reachByStretches (xs (i + 1)) (xs (i + 2)) (xs (i + 3)) σ).2) (lv1 := (6, .int k9) :: [(0, .ref 239), (1, .ref 220), (2, .ref 229), (3, .ref 237), (4, .ref 238), (5, .int (nI i))]) (st1 := [.ref 229]) rfl trivial ?_
  refine q_go C tk_lw34 [(20, 4)] [] (pc1 := 2058) (σ1 := (W_reachByStretches (xs (i + 1)) (xs (i + 2)) (xs (i + 3)) σ).2) (lv1 := ((6, .int k9) :: [(0, .ref 239), (1, .ref 220), (2, .ref 229), (3, .ref 237), (4, .ref 238), (5, .int (nI i))])) (st1 := [.int (nI i + 1), .ref 239, .ref 229]) rfl trivial ?_
  refine q_sld C hX (j := i + 1) (nI_add i 1) (by omega) hL (q_dc (z := (2058, .iaload, 1, 0, 0)) tk_lw34 24 rfl) ?_
  refine q_nrm 2059 [.int (xs (i + 1)), .ref 229] _ _ rfl rfl rfl rfl ?_
  refine q_go C tk_lw34 [(25, 4)] [] (pc1 := 2064) (σ1 := (W_reachByStretches (xs (i + 1)) (xs (i + 2)) (xs (i + 3)) σ).2) (lv1 := ((6, .int k9) :: [(0, .ref 239), (1, .ref 220), (2, .ref 229), (3, .ref 237), (4, .ref 238), (5, .int (nI i))])) (st1 := [.int (nI i + 2), .ref 239, .int (xs (i + 1)), .ref 229]) rfl trivial ?_
  refine q_sld C hX (j := i + 2) (nI_add i 2) (by omega) hL (q_dc (z := (2064, .iaload, 1, 0, 0)) tk_lw34 29 rfl) ?_
  refine q_nrm 2065 [.int (xs (i + 2)), .int (xs (i + 1)), .ref 229] _ _ rfl rfl rfl rfl ?_
  refine q_go C tk_lw34 [(30, 4)] [] (pc1 := 2070) (σ1 := (W_reachByStretches (xs (i + 1)) (xs (i + 2)) (xs (i + 3)) σ).2) (lv1 := ((6, .int k9) :: [(0, .ref 239), (1, .ref 220), (2, .ref 229), (3, .ref 237), (4, .ref 238), (5, .int (nI i))])) (st1 := [.int (nI i + 3), .ref 239, .int (xs (i + 2)), .int (xs (i + 1)), .ref 229]) rfl trivial ?_
  refine q_sld C hX (j := i + 3) (nI_add i 3) (by omega) hL (q_dc (z := (2070, .iaload, 1, 0, 0)) tk_lw34 34 rfl) ?_
  refine q_nrm 2071 [.int (xs (i + 3)), .int (xs (i + 2)), .int (xs (i + 1)), .ref 229] _ _ rfl rfl rfl rfl ?_
  refine q_callV C hfl mw_X9_reachByStretches mi_X9_reachByStretches me_X9_reachByStretches lk_L_276 (k_X9_reachByStretches (xs (i + 1)) (xs (i + 2)) (xs (i + 3)) (W_reachByStretches (xs (i + 1)) (xs (i + 2)) (xs (i + 3)) σ).2 hPF) (rest := []) rfl rfl rfl (by decide) (by decide) rfl (q_dc (z := (2071, .invokevirtual 276, 3, 0, 0)) tk_lw34 35 rfl) (Nat.le_of_ble_eq_true rfl) ⟨(Nat.le_of_ble_eq_true rfl), (Nat.le_of_ble_eq_true rfl)⟩ ⟨(by show n1 + 3 + 0 ≤ 603072; omega), (by show n2 + 18 + 0 ≤ 7215209; omega)⟩ ?_
  refine q_nrm 2074 [.int (F_X9_reachByStretches (xs (i + 1)) (xs (i + 2)) (xs (i + 3)) (W_reachByStretches (xs (i + 1)) (xs (i + 2)) (xs (i + 3)) σ).2).1] (n1 + 3) (n2 + 18) rfl rfl rfl rfl ?_
  generalize hb9 : (F_X9_reachByStretches (xs (i + 1)) (xs (i + 2)) (xs (i + 3)) (W_reachByStretches (xs (i + 1)) (xs (i + 2)) (xs (i + 3)) σ).2).1 = b9 at ho ⊢
  unfold to_reachByStretches at kk
  generalize ht9 : (F_X9_reachByStretches (xs (i + 1)) (xs (i + 2)) (xs (i + 3)) (W_reachByStretches (xs (i + 1)) (xs (i + 2)) (xs (i + 3)) σ).2).2 = τ at ht ho kk ⊢
  refine q_go C tk_lw34 [(36, 2)] [] (pc1 := 2077) (σ1 := τ) (lv1 := (7, .int b9) :: ((6, .int k9) :: [(0, .ref 239), (1, .ref 220), (2, .ref 229), (3, .ref 237), (4, .ref 238), (5, .int (nI i))])) (st1 := [.ref 229]) rfl trivial ?_
  refine q_callV C hfl mw_X9_thrown mi_X9_thrown me_X9_thrown lk_L_161 (k_X9_thrown τ) (rest := []) rfl rfl rfl (by decide) (by decide) rfl (q_dc (z := (2077, .invokevirtual 161, 3, 0, 0)) tk_lw34 38 rfl) (Nat.le_of_ble_eq_true rfl) ⟨(Nat.le_of_ble_eq_true rfl), (Nat.le_of_ble_eq_true rfl)⟩ ⟨(by show n1 + 3 + 0 ≤ 603072; omega), (by show n2 + 18 + 0 ≤ 7215209; omega)⟩ ?_
  refine q_nrm 2080 [.int (F_X9_thrown τ)] (n1 + 3) (n2 + 18) rfl rfl rfl rfl ?_
  refine q_go C tk_lw34 [(39, 2)] [true] (pc1 := 2087) (σ1 := τ) (lv1 := ((7, .int b9) :: (6, .int k9) :: [(0, .ref 239), (1, .ref 220), (2, .ref 229), (3, .ref 237), (4, .ref 238), (5, .int (nI i))])) (st1 := []) rfl ⟨(by unfold F_X9_thrown; exact ht), trivial⟩ ?_
  by_cases c0 : k9 = 0
  · have ho := ho c0
    refine q_go C tk_lw34 [(43, 8)] [false] (pc1 := 2099) (σ1 := τ) (lv1 := ((7, .int b9) :: (6, .int k9) :: [(0, .ref 239), (1, .ref 220), (2, .ref 229), (3, .ref 237), (4, .ref 238), (5, .int (nI i))])) (st1 := [.int (lg_cmp (τ 237 0).toInt64 b9.toInt64)]) rfl ⟨c0, rfl, (by unfold vp_in; decide), trivial⟩ ?_
    refine q_go C tk_lw34 [(51, 1), (54, 1)] [true] (pc1 := 2654) (σ1 := τ) (lv1 := ((7, .int b9) :: (6, .int k9) :: [(0, .ref 239), (1, .ref 220), (2, .ref 229), (3, .ref 237), (4, .ref 238), (5, .int (nI i))])) (st1 := []) rfl ⟨(by rw [ho]; exact q_cmp0 _), trivial⟩ ?_
    refine q_widen (k := n1 + 12) (n := n2 + 2000) (by omega) (by omega) ?_
    exact q_lvpick [2, 3, 4, 5, 6, 7] rfl kk
  · refine q_go C tk_lw34 [(43, 2), (54, 1)] [true] (pc1 := 2654) (σ1 := τ) (lv1 := ((7, .int b9) :: (6, .int k9) :: [(0, .ref 239), (1, .ref 220), (2, .ref 229), (3, .ref 237), (4, .ref 238), (5, .int (nI i))])) (st1 := []) rfl ⟨c0, trivial⟩ ?_
    refine q_widen (k := n1 + 12) (n := n2 + 2000) (by omega) (by omega) ?_
    exact q_lvpick [2, 3, 4, 5, 6, 7] rfl kk
def tb_lw35 : List q_E := [(2107, .aload_n 1, 1, 0, 0), (2108, .aload_n 0, 1, 0, 0), (2109, .iload 5, 2, 0, 0), (2111, .iconst 1, 1, 1, 0), (2112, .iadd, 1, 0, 0), (2113, .iaload, 1, 0, 0), (2114, .aload_n 3, 1, 0, 0), (2115, .invokestatic 277, 3, 0, 0), (2118, .istore 6, 2, 0, 0), (2120, .aload_n 2, 1, 0, 0), (2121, .aload_n 0, 1, 0, 0), (2122, .iload 5, 2, 0, 0), (2124, .iconst 1, 1, 1, 0), (2125, .iadd, 1, 0, 0), (2126, .iaload, 1, 0, 0), (2127, .invokevirtual 279, 3, 0, 0), (2130, .istore 7, 2, 0, 0), (2132, .aload_n 2, 1, 0, 0), (2133, .invokevirtual 161, 3, 0, 0), (2136, .iload 6, 2, 0, 0), (2138, .if_icmp .eq 5, 3, 0, 2143), (2141, .iconst 0, 1, 0, 0), (2142, .ireturn, 1, 0, 0), (2143, .iload 6, 2, 0, 0), (2145, .ifCond .ne 15, 3, 0, 2160), (2148, .aload_n 3, 1, 0, 0), (2149, .iconst 0, 1, 0, 0), (2150, .laload, 1, 0, 0), (2151, .iload 7, 2, 0, 0), (2153, .i2l, 1, 0, 0), (2154, .lcmp, 1, 0, 0), (2155, .ifCond .eq 5, 3, 0, 2160), (2158, .iconst 0, 1, 0, 0), (2159, .ireturn, 1, 0, 0), (2160, .goto 494, 3, 0, 2654)]
set_option maxRecDepth 100000 in
theorem tk_lw35 : q_tb code 9 tb_lw35 = true := by decide +kernel
def sim_secondsToZone (g0 : Int32) (σ : q_M) : Prop := q_SimI (fun σ => P_X8_secondsToZone g0 σ ∧ (∀ E, (F_X8_secondsToZone g0 σ) = .inr E → E ∈ nx_secondsToZone)) (fun σ => P_X9_secondsToZone g0 σ) (W_secondsToZone g0) (F_X9_secondsToZone g0) σ
def to_secondsToZone (g0 : Int32) (σ : q_M) : q_M := (F_X9_secondsToZone g0 (W_secondsToZone g0 σ).2).2
set_option maxRecDepth 100000 in
theorem cw_secondsToZone : Cond.codeWith yL_secondsToZone cL_secondsToZone 4 (some .int) hh_L_secondsToZone ∈ q_W := q_t4 216 rfl rfl
set_option maxRecDepth 100000 in
theorem sw_secondsToZone : Cond.static yL_secondsToZone ∈ q_W := q_t4 215 rfl rfl
set_option maxRecDepth 100000 in
theorem lw_ln_secondsToZone : Cond.methodLink RL 277 yL_secondsToZone ∈ q_W := q_t4 214 rfl rfl
set_option maxRecDepth 100000 in
set_option maxHeartbeats 2000000 in
theorem lw_secondsToZone {α β : Nat → Nat} {D : va_G} {κ : Nat → ClassId} {p : Program} {l : Launch} {e : Env} {s : State} {m : MethodId} {args : Array Value} {below : List Frame} {meth : Method} {c : Code} {A : Nat → Prop} {Q : State → Prop} {n1 n2 : Nat} (C : q_Cx α β D κ p s m args meth c code RL (fun _ => none) (fun _ => none) 9 A) (hfl : l.flags = flags0) {L : Nat} {xs : Nat → Int32} (hX : q_scr α s A L xs) {i : Nat} (hi : i + 4 ≤ L) (hL : L ≤ 2048) (hn : n1 + 12 ≤ 600000) (hn2 : n2 + 2000 ≤ 7000000) (σ : q_M) (hs : sim_secondsToZone (xs (i + 1)) σ) (kk : q_St α β D κ p l e room_1 s m args below meth c 9 A Q (n1 + 12) (n2 + 2000) (to_secondsToZone (xs (i + 1)) σ) [(0, .ref 239), (1, .ref 220), (2, .ref 229), (3, .ref 237), (4, .ref 238), (5, .int (nI i))] 2654 []) : q_St α β D κ p l e room_1 s m args below meth c 9 A Q n1 n2 σ [(0, .ref 239), (1, .ref 220), (2, .ref 229), (3, .ref 237), (4, .ref 238), (5, .int (nI i))] 2107 [] := by
  obtain ⟨hPW, hPF, ht, ho⟩ := hs
  obtain ⟨hPW, hE⟩ := hPW
  refine q_go C tk_lw35 [(0, 1)] [] (pc1 := 2108) (σ1 := σ) (lv1 := [(0, .ref 239), (1, .ref 220), (2, .ref 229), (3, .ref 237), (4, .ref 238), (5, .int (nI i))]) (st1 := [.ref 220]) rfl trivial ?_
  refine q_go C tk_lw35 [(1, 4)] [] (pc1 := 2113) (σ1 := σ) (lv1 := [(0, .ref 239), (1, .ref 220), (2, .ref 229), (3, .ref 237), (4, .ref 238), (5, .int (nI i))]) (st1 := [.int (nI i + 1), .ref 239, .ref 220]) rfl trivial ?_
  refine q_sld C hX (j := i + 1) (nI_add i 1) (by omega) hL (q_dc (z := (2113, .iaload, 1, 0, 0)) tk_lw35 5 rfl) ?_
  refine q_nrm 2114 [.int (xs (i + 1)), .ref 220] _ _ rfl rfl rfl rfl ?_
  refine q_go C tk_lw35 [(6, 1)] [] (pc1 := 2115) (σ1 := σ) (lv1 := [(0, .ref 239), (1, .ref 220), (2, .ref 229), (3, .ref 237), (4, .ref 238), (5, .int (nI i))]) (st1 := [.ref 237, .int (xs (i + 1)), .ref 220]) rfl trivial ?_
  refine q_callW (n := 3) C hfl cw_secondsToZone (by decide +kernel) q_init_L sw_secondsToZone lw_ln_secondsToZone (As := [.ref 220, .int (xs (i + 1)), .ref 237]) (kw_secondsToZone (xs (i + 1)) σ hPW hE) (rest := []) rfl rfl (q_dc (z := (2115, .invokestatic 277, 3, 0, 0)) tk_lw35 7 rfl) (Nat.le_of_ble_eq_true rfl) ⟨(Nat.le_of_ble_eq_true rfl), (Nat.le_of_ble_eq_true rfl)⟩ ⟨(by show n1 + 2 ≤ 603072; omega), (by show n2 + 12 ≤ 7215209; omega)⟩ ?_
  refine q_nrm 2118 [.int (W_secondsToZone (xs (i + 1)) σ).1] (n1 + 2) (n2 + 12) rfl rfl rfl rfl ?_
  generalize hk9 : (W_secondsToZone (xs (i + 1)) σ).1 = k9 at ht ho ⊢
  refine q_go C tk_lw35 [(8, 2)] [] (pc1 := 2121) (σ1 := (W_secondsToZone (xs (i + 1)) σ).2) (lv1 := (6, .int k9) :: [(0, .ref 239), (1, .ref 220), (2, .ref 229), (3, .ref 237), (4, .ref 238), (5, .int (nI i))]) (st1 := [.ref 229]) rfl trivial ?_
  refine q_go C tk_lw35 [(10, 4)] [] (pc1 := 2126) (σ1 := (W_secondsToZone (xs (i + 1)) σ).2) (lv1 := ((6, .int k9) :: [(0, .ref 239), (1, .ref 220), (2, .ref 229), (3, .ref 237), (4, .ref 238), (5, .int (nI i))])) (st1 := [.int (nI i + 1), .ref 239, .ref 229]) rfl trivial ?_
  refine q_sld C hX (j := i + 1) (nI_add i 1) (by omega) hL (q_dc (z := (2126, .iaload, 1, 0, 0)) tk_lw35 14 rfl) ?_
  refine q_nrm 2127 [.int (xs (i + 1)), .ref 229] _ _ rfl rfl rfl rfl ?_
  refine q_callV C hfl mw_X9_secondsToZone mi_X9_secondsToZone me_X9_secondsToZone lk_L_279 (k_X9_secondsToZone (xs (i + 1)) (W_secondsToZone (xs (i + 1)) σ).2 hPF) (rest := []) rfl rfl rfl (by decide) (by decide) rfl (q_dc (z := (2127, .invokevirtual 279, 3, 0, 0)) tk_lw35 15 rfl) (Nat.le_of_ble_eq_true rfl) ⟨(Nat.le_of_ble_eq_true rfl), (Nat.le_of_ble_eq_true rfl)⟩ ⟨(by show n1 + 2 + 0 ≤ 603072; omega), (by show n2 + 12 + 0 ≤ 7215209; omega)⟩ ?_
  refine q_nrm 2130 [.int (F_X9_secondsToZone (xs (i + 1)) (W_secondsToZone (xs (i + 1)) σ).2).1] (n1 + 2) (n2 + 12) rfl rfl rfl rfl ?_
  generalize hb9 : (F_X9_secondsToZone (xs (i + 1)) (W_secondsToZone (xs (i + 1)) σ).2).1 = b9 at ho ⊢
  unfold to_secondsToZone at kk
  generalize ht9 : (F_X9_secondsToZone (xs (i + 1)) (W_secondsToZone (xs (i + 1)) σ).2).2 = τ at ht ho kk ⊢
  refine q_go C tk_lw35 [(16, 2)] [] (pc1 := 2133) (σ1 := τ) (lv1 := (7, .int b9) :: ((6, .int k9) :: [(0, .ref 239), (1, .ref 220), (2, .ref 229), (3, .ref 237), (4, .ref 238), (5, .int (nI i))])) (st1 := [.ref 229]) rfl trivial ?_
  refine q_callV C hfl mw_X9_thrown mi_X9_thrown me_X9_thrown lk_L_161 (k_X9_thrown τ) (rest := []) rfl rfl rfl (by decide) (by decide) rfl (q_dc (z := (2133, .invokevirtual 161, 3, 0, 0)) tk_lw35 18 rfl) (Nat.le_of_ble_eq_true rfl) ⟨(Nat.le_of_ble_eq_true rfl), (Nat.le_of_ble_eq_true rfl)⟩ ⟨(by show n1 + 2 + 0 ≤ 603072; omega), (by show n2 + 12 + 0 ≤ 7215209; omega)⟩ ?_
  refine q_nrm 2136 [.int (F_X9_thrown τ)] (n1 + 2) (n2 + 12) rfl rfl rfl rfl ?_
  refine q_go C tk_lw35 [(19, 2)] [true] (pc1 := 2143) (σ1 := τ) (lv1 := ((7, .int b9) :: (6, .int k9) :: [(0, .ref 239), (1, .ref 220), (2, .ref 229), (3, .ref 237), (4, .ref 238), (5, .int (nI i))])) (st1 := []) rfl ⟨(by unfold F_X9_thrown; exact ht), trivial⟩ ?_
  by_cases c0 : k9 = 0
  · have ho := ho c0
    refine q_go C tk_lw35 [(23, 8)] [false] (pc1 := 2155) (σ1 := τ) (lv1 := ((7, .int b9) :: (6, .int k9) :: [(0, .ref 239), (1, .ref 220), (2, .ref 229), (3, .ref 237), (4, .ref 238), (5, .int (nI i))])) (st1 := [.int (lg_cmp (τ 237 0).toInt64 b9.toInt64)]) rfl ⟨c0, rfl, (by unfold vp_in; decide), trivial⟩ ?_
    refine q_go C tk_lw35 [(31, 1), (34, 1)] [true] (pc1 := 2654) (σ1 := τ) (lv1 := ((7, .int b9) :: (6, .int k9) :: [(0, .ref 239), (1, .ref 220), (2, .ref 229), (3, .ref 237), (4, .ref 238), (5, .int (nI i))])) (st1 := []) rfl ⟨(by rw [ho]; exact q_cmp0 _), trivial⟩ ?_
    refine q_widen (k := n1 + 12) (n := n2 + 2000) (by omega) (by omega) ?_
    exact q_lvpick [2, 3, 4, 5, 6, 7] rfl kk
  · refine q_go C tk_lw35 [(23, 2), (34, 1)] [true] (pc1 := 2654) (σ1 := τ) (lv1 := ((7, .int b9) :: (6, .int k9) :: [(0, .ref 239), (1, .ref 220), (2, .ref 229), (3, .ref 237), (4, .ref 238), (5, .int (nI i))])) (st1 := []) rfl ⟨c0, trivial⟩ ?_
    refine q_widen (k := n1 + 12) (n := n2 + 2000) (by omega) (by omega) ?_
    exact q_lvpick [2, 3, 4, 5, 6, 7] rfl kk
def tb_lw36 : List q_E := [(2163, .aload_n 1, 1, 0, 0), (2164, .aload_n 3, 1, 0, 0), (2165, .invokestatic 280, 3, 0, 0), (2168, .istore 6, 2, 0, 0), (2170, .aload_n 2, 1, 0, 0), (2171, .invokevirtual 282, 3, 0, 0), (2174, .istore 7, 2, 0, 0), (2176, .aload_n 2, 1, 0, 0), (2177, .invokevirtual 161, 3, 0, 0), (2180, .iload 6, 2, 0, 0), (2182, .if_icmp .eq 5, 3, 0, 2187), (2185, .iconst 0, 1, 0, 0), (2186, .ireturn, 1, 0, 0), (2187, .iload 6, 2, 0, 0), (2189, .ifCond .ne 15, 3, 0, 2204), (2192, .aload_n 3, 1, 0, 0), (2193, .iconst 0, 1, 0, 0), (2194, .laload, 1, 0, 0), (2195, .iload 7, 2, 0, 0), (2197, .i2l, 1, 0, 0), (2198, .lcmp, 1, 0, 0), (2199, .ifCond .eq 5, 3, 0, 2204), (2202, .iconst 0, 1, 0, 0), (2203, .ireturn, 1, 0, 0), (2204, .goto 450, 3, 0, 2654)]
set_option maxRecDepth 100000 in
theorem tk_lw36 : q_tb code 9 tb_lw36 = true := by decide +kernel
def sim_refusalReason (σ : q_M) : Prop := q_SimI (fun σ => (∀ E, (F_X8_refusalReason σ) = .inr E → E ∈ nx_refusalReason)) (fun σ => True) (W_refusalReason) (F_X9_refusalReason) σ
def to_refusalReason (σ : q_M) : q_M := (F_X9_refusalReason (W_refusalReason σ).2).2
set_option maxRecDepth 100000 in
theorem cw_refusalReason : Cond.codeWith yL_refusalReason cL_refusalReason 3 (some .int) hh_L_refusalReason ∈ q_W := q_t4 230 rfl rfl
set_option maxRecDepth 100000 in
theorem sw_refusalReason : Cond.static yL_refusalReason ∈ q_W := q_t4 229 rfl rfl
set_option maxRecDepth 100000 in
theorem lw_ln_refusalReason : Cond.methodLink RL 280 yL_refusalReason ∈ q_W := q_t4 228 rfl rfl
set_option maxRecDepth 100000 in
set_option maxHeartbeats 2000000 in
theorem lw_refusalReason {α β : Nat → Nat} {D : va_G} {κ : Nat → ClassId} {p : Program} {l : Launch} {e : Env} {s : State} {m : MethodId} {args : Array Value} {below : List Frame} {meth : Method} {c : Code} {A : Nat → Prop} {Q : State → Prop} {n1 n2 : Nat} (C : q_Cx α β D κ p s m args meth c code RL (fun _ => none) (fun _ => none) 9 A) (hfl : l.flags = flags0) {L : Nat} {xs : Nat → Int32} (hX : q_scr α s A L xs) {i : Nat} (hi : i + 4 ≤ L) (hL : L ≤ 2048) (hn : n1 + 12 ≤ 600000) (hn2 : n2 + 2000 ≤ 7000000) (σ : q_M) (hs : sim_refusalReason σ) (kk : q_St α β D κ p l e room_1 s m args below meth c 9 A Q (n1 + 12) (n2 + 2000) (to_refusalReason σ) [(0, .ref 239), (1, .ref 220), (2, .ref 229), (3, .ref 237), (4, .ref 238), (5, .int (nI i))] 2654 []) : q_St α β D κ p l e room_1 s m args below meth c 9 A Q n1 n2 σ [(0, .ref 239), (1, .ref 220), (2, .ref 229), (3, .ref 237), (4, .ref 238), (5, .int (nI i))] 2163 [] := by
  obtain ⟨hPW, hPF, ht, ho⟩ := hs
  have hE := hPW
  refine q_go C tk_lw36 [(0, 1)] [] (pc1 := 2164) (σ1 := σ) (lv1 := [(0, .ref 239), (1, .ref 220), (2, .ref 229), (3, .ref 237), (4, .ref 238), (5, .int (nI i))]) (st1 := [.ref 220]) rfl trivial ?_
  refine q_go C tk_lw36 [(1, 1)] [] (pc1 := 2165) (σ1 := σ) (lv1 := [(0, .ref 239), (1, .ref 220), (2, .ref 229), (3, .ref 237), (4, .ref 238), (5, .int (nI i))]) (st1 := [.ref 237, .ref 220]) rfl trivial ?_
  refine q_callW (n := 2) C hfl cw_refusalReason (by decide +kernel) q_init_L sw_refusalReason lw_ln_refusalReason (As := [.ref 220, .ref 237]) (kw_refusalReason σ hE) (rest := []) rfl rfl (q_dc (z := (2165, .invokestatic 280, 3, 0, 0)) tk_lw36 2 rfl) (Nat.le_of_ble_eq_true rfl) ⟨(Nat.le_of_ble_eq_true rfl), (Nat.le_of_ble_eq_true rfl)⟩ ⟨(by show n1 + 1 ≤ 603072; omega), (by show n2 + 6 ≤ 7215209; omega)⟩ ?_
  refine q_nrm 2168 [.int (W_refusalReason σ).1] (n1 + 1) (n2 + 6) rfl rfl rfl rfl ?_
  generalize hk9 : (W_refusalReason σ).1 = k9 at ht ho ⊢
  refine q_go C tk_lw36 [(3, 2)] [] (pc1 := 2171) (σ1 := (W_refusalReason σ).2) (lv1 := (6, .int k9) :: [(0, .ref 239), (1, .ref 220), (2, .ref 229), (3, .ref 237), (4, .ref 238), (5, .int (nI i))]) (st1 := [.ref 229]) rfl trivial ?_
  refine q_callV C hfl mw_X9_refusalReason mi_X9_refusalReason me_X9_refusalReason lk_L_282 (k_X9_refusalReason (W_refusalReason σ).2) (rest := []) rfl rfl rfl (by decide) (by decide) rfl (q_dc (z := (2171, .invokevirtual 282, 3, 0, 0)) tk_lw36 5 rfl) (Nat.le_of_ble_eq_true rfl) ⟨(Nat.le_of_ble_eq_true rfl), (Nat.le_of_ble_eq_true rfl)⟩ ⟨(by show n1 + 1 + 0 ≤ 603072; omega), (by show n2 + 6 + 0 ≤ 7215209; omega)⟩ ?_
  refine q_nrm 2174 [.int (F_X9_refusalReason (W_refusalReason σ).2).1] (n1 + 1) (n2 + 6) rfl rfl rfl rfl ?_
  generalize hb9 : (F_X9_refusalReason (W_refusalReason σ).2).1 = b9 at ho ⊢
  unfold to_refusalReason at kk
  generalize ht9 : (F_X9_refusalReason (W_refusalReason σ).2).2 = τ at ht ho kk ⊢
  refine q_go C tk_lw36 [(6, 2)] [] (pc1 := 2177) (σ1 := τ) (lv1 := (7, .int b9) :: ((6, .int k9) :: [(0, .ref 239), (1, .ref 220), (2, .ref 229), (3, .ref 237), (4, .ref 238), (5, .int (nI i))])) (st1 := [.ref 229]) rfl trivial ?_
  refine q_callV C hfl mw_X9_thrown mi_X9_thrown me_X9_thrown lk_L_161 (k_X9_thrown τ) (rest := []) rfl rfl rfl (by decide) (by decide) rfl (q_dc (z := (2177, .invokevirtual 161, 3, 0, 0)) tk_lw36 8 rfl) (Nat.le_of_ble_eq_true rfl) ⟨(Nat.le_of_ble_eq_true rfl), (Nat.le_of_ble_eq_true rfl)⟩ ⟨(by show n1 + 1 + 0 ≤ 603072; omega), (by show n2 + 6 + 0 ≤ 7215209; omega)⟩ ?_
  refine q_nrm 2180 [.int (F_X9_thrown τ)] (n1 + 1) (n2 + 6) rfl rfl rfl rfl ?_
  refine q_go C tk_lw36 [(9, 2)] [true] (pc1 := 2187) (σ1 := τ) (lv1 := ((7, .int b9) :: (6, .int k9) :: [(0, .ref 239), (1, .ref 220), (2, .ref 229), (3, .ref 237), (4, .ref 238), (5, .int (nI i))])) (st1 := []) rfl ⟨(by unfold F_X9_thrown; exact ht), trivial⟩ ?_
  by_cases c0 : k9 = 0
  · have ho := ho c0
    refine q_go C tk_lw36 [(13, 8)] [false] (pc1 := 2199) (σ1 := τ) (lv1 := ((7, .int b9) :: (6, .int k9) :: [(0, .ref 239), (1, .ref 220), (2, .ref 229), (3, .ref 237), (4, .ref 238), (5, .int (nI i))])) (st1 := [.int (lg_cmp (τ 237 0).toInt64 b9.toInt64)]) rfl ⟨c0, rfl, (by unfold vp_in; decide), trivial⟩ ?_
    refine q_go C tk_lw36 [(21, 1), (24, 1)] [true] (pc1 := 2654) (σ1 := τ) (lv1 := ((7, .int b9) :: (6, .int k9) :: [(0, .ref 239), (1, .ref 220), (2, .ref 229), (3, .ref 237), (4, .ref 238), (5, .int (nI i))])) (st1 := []) rfl ⟨(by rw [ho]; exact q_cmp0 _), trivial⟩ ?_
    refine q_widen (k := n1 + 12) (n := n2 + 2000) (by omega) (by omega) ?_
    exact q_lvpick [2, 3, 4, 5, 6, 7] rfl kk
  · refine q_go C tk_lw36 [(13, 2), (24, 1)] [true] (pc1 := 2654) (σ1 := τ) (lv1 := ((7, .int b9) :: (6, .int k9) :: [(0, .ref 239), (1, .ref 220), (2, .ref 229), (3, .ref 237), (4, .ref 238), (5, .int (nI i))])) (st1 := []) rfl ⟨c0, trivial⟩ ?_
    refine q_widen (k := n1 + 12) (n := n2 + 2000) (by omega) (by omega) ?_
    exact q_lvpick [2, 3, 4, 5, 6, 7] rfl kk
