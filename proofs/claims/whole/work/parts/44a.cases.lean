/-! The law's loop: more cases (a). -/
def tb_lw3 : List q_E := [(428, .aload_n 1, 1, 0, 0), (429, .aload_n 0, 1, 0, 0), (430, .iload 5, 2, 0, 0), (432, .iconst 1, 1, 1, 0), (433, .iadd, 1, 0, 0), (434, .iaload, 1, 0, 0), (435, .aload_n 3, 1, 0, 0), (436, .invokestatic 172, 3, 0, 0), (439, .istore 6, 2, 0, 0), (441, .aload_n 2, 1, 0, 0), (442, .aload_n 0, 1, 0, 0), (443, .iload 5, 2, 0, 0), (445, .iconst 1, 1, 1, 0), (446, .iadd, 1, 0, 0), (447, .iaload, 1, 0, 0), (448, .invokevirtual 174, 3, 0, 0), (451, .istore 7, 2, 0, 0), (453, .aload_n 2, 1, 0, 0), (454, .invokevirtual 161, 3, 0, 0), (457, .iload 6, 2, 0, 0), (459, .if_icmp .eq 5, 3, 0, 464), (462, .iconst 0, 1, 0, 0), (463, .ireturn, 1, 0, 0), (464, .iload 6, 2, 0, 0), (466, .ifCond .ne 15, 3, 0, 481), (469, .aload_n 3, 1, 0, 0), (470, .iconst 0, 1, 0, 0), (471, .laload, 1, 0, 0), (472, .iload 7, 2, 0, 0), (474, .i2l, 1, 0, 0), (475, .lcmp, 1, 0, 0), (476, .ifCond .eq 5, 3, 0, 481), (479, .iconst 0, 1, 0, 0), (480, .ireturn, 1, 0, 0), (481, .goto 2173, 3, 0, 2654)]
set_option maxRecDepth 100000 in
theorem tk_lw3 : q_tb code 9 tb_lw3 = true := by decide +kernel
def sim_drawLanes (g0 : Int32) (σ : q_M) : Prop := q_SimI (fun σ => P_X8_drawLanes g0 σ ∧ (∀ E, (F_X8_drawLanes g0 σ).1 = .inr E → E ∈ nx_drawLanes)) (fun σ => P_X9_drawLanes g0 σ) (W_drawLanes g0) (F_X9_drawLanes g0) σ
def to_drawLanes (g0 : Int32) (σ : q_M) : q_M := (F_X9_drawLanes g0 (W_drawLanes g0 σ).2).2
set_option maxRecDepth 100000 in
theorem cw_drawLanes : Cond.codeWith yL_drawLanes cL_drawLanes 4 (some .int) hh_L_drawLanes ∈ q_W := q_t3 64 rfl rfl
set_option maxRecDepth 100000 in
theorem sw_drawLanes : Cond.static yL_drawLanes ∈ q_W := q_t3 63 rfl rfl
set_option maxRecDepth 100000 in
theorem lw_ln_drawLanes : Cond.methodLink RL 172 yL_drawLanes ∈ q_W := q_t3 62 rfl rfl
set_option maxRecDepth 100000 in
set_option maxHeartbeats 2000000 in
theorem lw_drawLanes {α β : Nat → Nat} {D : va_G} {κ : Nat → ClassId} {p : Program} {l : Launch} {e : Env} {s : State} {m : MethodId} {args : Array Value} {below : List Frame} {meth : Method} {c : Code} {A : Nat → Prop} {Q : State → Prop} {n1 n2 : Nat} (C : q_Cx α β D κ p s m args meth c code RL (fun _ => none) (fun _ => none) 9 A) (hfl : l.flags = flags0) {L : Nat} {xs : Nat → Int32} (hX : q_scr α s A L xs) {i : Nat} (hi : i + 4 ≤ L) (hL : L ≤ 2048) (hn : n1 + 12 ≤ 600000) (hn2 : n2 + 2000 ≤ 7000000) (σ : q_M) (hs : sim_drawLanes (xs (i + 1)) σ) (kk : q_St α β D κ p l e room_1 s m args below meth c 9 A Q (n1 + 12) (n2 + 2000) (to_drawLanes (xs (i + 1)) σ) [(0, .ref 239), (1, .ref 220), (2, .ref 229), (3, .ref 237), (4, .ref 238), (5, .int (nI i))] 2654 []) : q_St α β D κ p l e room_1 s m args below meth c 9 A Q n1 n2 σ [(0, .ref 239), (1, .ref 220), (2, .ref 229), (3, .ref 237), (4, .ref 238), (5, .int (nI i))] 428 [] := by
  obtain ⟨hPW, hPF, ht, ho⟩ := hs
  obtain ⟨hPW, hE⟩ := hPW
  refine q_go C tk_lw3 [(0, 1)] [] (pc1 := 429) (σ1 := σ) (lv1 := [(0, .ref 239), (1, .ref 220), (2, .ref 229), (3, .ref 237), (4, .ref 238), (5, .int (nI i))]) (st1 := [.ref 220]) rfl trivial ?_
  refine q_go C tk_lw3 [(1, 4)] [] (pc1 := 434) (σ1 := σ) (lv1 := [(0, .ref 239), (1, .ref 220), (2, .ref 229), (3, .ref 237), (4, .ref 238), (5, .int (nI i))]) (st1 := [.int (nI i + 1), .ref 239, .ref 220]) rfl trivial ?_
  refine q_sld C hX (j := i + 1) (nI_add i 1) (by omega) hL (q_dc (z := (434, .iaload, 1, 0, 0)) tk_lw3 5 rfl) ?_
  refine q_nrm 435 [.int (xs (i + 1)), .ref 220] _ _ rfl rfl rfl rfl ?_
  refine q_go C tk_lw3 [(6, 1)] [] (pc1 := 436) (σ1 := σ) (lv1 := [(0, .ref 239), (1, .ref 220), (2, .ref 229), (3, .ref 237), (4, .ref 238), (5, .int (nI i))]) (st1 := [.ref 237, .int (xs (i + 1)), .ref 220]) rfl trivial ?_
  refine q_callW (n := 3) C hfl cw_drawLanes (by decide +kernel) q_init_L sw_drawLanes lw_ln_drawLanes (As := [.ref 220, .int (xs (i + 1)), .ref 237]) (kw_drawLanes (xs (i + 1)) σ hPW hE) (rest := []) rfl rfl (q_dc (z := (436, .invokestatic 172, 3, 0, 0)) tk_lw3 7 rfl) (Nat.le_of_ble_eq_true rfl) ⟨(Nat.le_of_ble_eq_true rfl), (Nat.le_of_ble_eq_true rfl)⟩ ⟨(by show n1 + 2 ≤ 603072; omega), (by show n2 + 12 ≤ 7215209; omega)⟩ ?_
  refine q_nrm 439 [.int (W_drawLanes (xs (i + 1)) σ).1] (n1 + 2) (n2 + 12) rfl rfl rfl rfl ?_
  generalize hk9 : (W_drawLanes (xs (i + 1)) σ).1 = k9 at ht ho ⊢
  refine q_go C tk_lw3 [(8, 2)] [] (pc1 := 442) (σ1 := (W_drawLanes (xs (i + 1)) σ).2) (lv1 := (6, .int k9) :: [(0, .ref 239), (1, .ref 220), (2, .ref 229), (3, .ref 237), (4, .ref 238), (5, .int (nI i))]) (st1 := [.ref 229]) rfl trivial ?_
  refine q_go C tk_lw3 [(10, 4)] [] (pc1 := 447) (σ1 := (W_drawLanes (xs (i + 1)) σ).2) (lv1 := ((6, .int k9) :: [(0, .ref 239), (1, .ref 220), (2, .ref 229), (3, .ref 237), (4, .ref 238), (5, .int (nI i))])) (st1 := [.int (nI i + 1), .ref 239, .ref 229]) rfl trivial ?_
  refine q_sld C hX (j := i + 1) (nI_add i 1) (by omega) hL (q_dc (z := (447, .iaload, 1, 0, 0)) tk_lw3 14 rfl) ?_
  refine q_nrm 448 [.int (xs (i + 1)), .ref 229] _ _ rfl rfl rfl rfl ?_
  refine q_callV C hfl mw_X9_drawLanes mi_X9_drawLanes me_X9_drawLanes lk_L_174 (k_X9_drawLanes (xs (i + 1)) (W_drawLanes (xs (i + 1)) σ).2 hPF) (rest := []) rfl rfl rfl (by decide) (by decide) rfl (q_dc (z := (448, .invokevirtual 174, 3, 0, 0)) tk_lw3 15 rfl) (Nat.le_of_ble_eq_true rfl) ⟨(Nat.le_of_ble_eq_true rfl), (Nat.le_of_ble_eq_true rfl)⟩ ⟨(by show n1 + 2 + 0 ≤ 603072; omega), (by show n2 + 12 + 0 ≤ 7215209; omega)⟩ ?_
  refine q_nrm 451 [.int (F_X9_drawLanes (xs (i + 1)) (W_drawLanes (xs (i + 1)) σ).2).1] (n1 + 2) (n2 + 12) rfl rfl rfl rfl ?_
  generalize hb9 : (F_X9_drawLanes (xs (i + 1)) (W_drawLanes (xs (i + 1)) σ).2).1 = b9 at ho ⊢
  unfold to_drawLanes at kk
  generalize ht9 : (F_X9_drawLanes (xs (i + 1)) (W_drawLanes (xs (i + 1)) σ).2).2 = τ at ht ho kk ⊢
  refine q_go C tk_lw3 [(16, 2)] [] (pc1 := 454) (σ1 := τ) (lv1 := (7, .int b9) :: ((6, .int k9) :: [(0, .ref 239), (1, .ref 220), (2, .ref 229), (3, .ref 237), (4, .ref 238), (5, .int (nI i))])) (st1 := [.ref 229]) rfl trivial ?_
  refine q_callV C hfl mw_X9_thrown mi_X9_thrown me_X9_thrown lk_L_161 (k_X9_thrown τ) (rest := []) rfl rfl rfl (by decide) (by decide) rfl (q_dc (z := (454, .invokevirtual 161, 3, 0, 0)) tk_lw3 18 rfl) (Nat.le_of_ble_eq_true rfl) ⟨(Nat.le_of_ble_eq_true rfl), (Nat.le_of_ble_eq_true rfl)⟩ ⟨(by show n1 + 2 + 0 ≤ 603072; omega), (by show n2 + 12 + 0 ≤ 7215209; omega)⟩ ?_
  refine q_nrm 457 [.int (F_X9_thrown τ)] (n1 + 2) (n2 + 12) rfl rfl rfl rfl ?_
  refine q_go C tk_lw3 [(19, 2)] [true] (pc1 := 464) (σ1 := τ) (lv1 := ((7, .int b9) :: (6, .int k9) :: [(0, .ref 239), (1, .ref 220), (2, .ref 229), (3, .ref 237), (4, .ref 238), (5, .int (nI i))])) (st1 := []) rfl ⟨(by unfold F_X9_thrown; exact ht), trivial⟩ ?_
  by_cases c0 : k9 = 0
  · have ho := ho c0
    refine q_go C tk_lw3 [(23, 8)] [false] (pc1 := 476) (σ1 := τ) (lv1 := ((7, .int b9) :: (6, .int k9) :: [(0, .ref 239), (1, .ref 220), (2, .ref 229), (3, .ref 237), (4, .ref 238), (5, .int (nI i))])) (st1 := [.int (lg_cmp (τ 237 0).toInt64 b9.toInt64)]) rfl ⟨c0, rfl, (by unfold vp_in; decide), trivial⟩ ?_
    refine q_go C tk_lw3 [(31, 1), (34, 1)] [true] (pc1 := 2654) (σ1 := τ) (lv1 := ((7, .int b9) :: (6, .int k9) :: [(0, .ref 239), (1, .ref 220), (2, .ref 229), (3, .ref 237), (4, .ref 238), (5, .int (nI i))])) (st1 := []) rfl ⟨(by rw [ho]; exact q_cmp0 _), trivial⟩ ?_
    refine q_widen (k := n1 + 12) (n := n2 + 2000) (by omega) (by omega) ?_
    exact q_lvpick [2, 3, 4, 5, 6, 7] rfl kk
  · refine q_go C tk_lw3 [(23, 2), (34, 1)] [true] (pc1 := 2654) (σ1 := τ) (lv1 := ((7, .int b9) :: (6, .int k9) :: [(0, .ref 239), (1, .ref 220), (2, .ref 229), (3, .ref 237), (4, .ref 238), (5, .int (nI i))])) (st1 := []) rfl ⟨c0, trivial⟩ ?_
    refine q_widen (k := n1 + 12) (n := n2 + 2000) (by omega) (by omega) ?_
    exact q_lvpick [2, 3, 4, 5, 6, 7] rfl kk
def tb_lw4 : List q_E := [(484, .aload_n 1, 1, 0, 0), (485, .aload_n 3, 1, 0, 0), (486, .invokestatic 175, 3, 0, 0), (489, .istore 6, 2, 0, 0), (491, .aload_n 2, 1, 0, 0), (492, .invokevirtual 177, 3, 0, 0), (495, .istore 7, 2, 0, 0), (497, .aload_n 2, 1, 0, 0), (498, .invokevirtual 161, 3, 0, 0), (501, .iload 6, 2, 0, 0), (503, .if_icmp .eq 5, 3, 0, 508), (506, .iconst 0, 1, 0, 0), (507, .ireturn, 1, 0, 0), (508, .iload 6, 2, 0, 0), (510, .ifCond .ne 15, 3, 0, 525), (513, .aload_n 3, 1, 0, 0), (514, .iconst 0, 1, 0, 0), (515, .laload, 1, 0, 0), (516, .iload 7, 2, 0, 0), (518, .i2l, 1, 0, 0), (519, .lcmp, 1, 0, 0), (520, .ifCond .eq 5, 3, 0, 525), (523, .iconst 0, 1, 0, 0), (524, .ireturn, 1, 0, 0), (525, .goto 2129, 3, 0, 2654)]
set_option maxRecDepth 100000 in
theorem tk_lw4 : q_tb code 9 tb_lw4 = true := by decide +kernel
def sim_start (σ : q_M) : Prop := q_SimI (fun σ => P_X8_start σ ∧ (∀ E, (F_X8_start σ).1 = .inr E → E ∈ nx_start)) (fun σ => P_X9_start σ) (W_start) (F_X9_start) σ
def to_start (σ : q_M) : q_M := (F_X9_start (W_start σ).2).2
set_option maxRecDepth 100000 in
theorem cw_start : Cond.codeWith yL_start cL_start 3 (some .int) hh_L_start ∈ q_W := q_t3 91 rfl rfl
set_option maxRecDepth 100000 in
theorem sw_start : Cond.static yL_start ∈ q_W := q_t3 90 rfl rfl
set_option maxRecDepth 100000 in
theorem lw_ln_start : Cond.methodLink RL 175 yL_start ∈ q_W := q_t3 89 rfl rfl
set_option maxRecDepth 100000 in
set_option maxHeartbeats 2000000 in
theorem lw_start {α β : Nat → Nat} {D : va_G} {κ : Nat → ClassId} {p : Program} {l : Launch} {e : Env} {s : State} {m : MethodId} {args : Array Value} {below : List Frame} {meth : Method} {c : Code} {A : Nat → Prop} {Q : State → Prop} {n1 n2 : Nat} (C : q_Cx α β D κ p s m args meth c code RL (fun _ => none) (fun _ => none) 9 A) (hfl : l.flags = flags0) {L : Nat} {xs : Nat → Int32} (hX : q_scr α s A L xs) {i : Nat} (hi : i + 4 ≤ L) (hL : L ≤ 2048) (hn : n1 + 12 ≤ 600000) (hn2 : n2 + 2000 ≤ 7000000) (σ : q_M) (hs : sim_start σ) (kk : q_St α β D κ p l e room_1 s m args below meth c 9 A Q (n1 + 12) (n2 + 2000) (to_start σ) [(0, .ref 239), (1, .ref 220), (2, .ref 229), (3, .ref 237), (4, .ref 238), (5, .int (nI i))] 2654 []) : q_St α β D κ p l e room_1 s m args below meth c 9 A Q n1 n2 σ [(0, .ref 239), (1, .ref 220), (2, .ref 229), (3, .ref 237), (4, .ref 238), (5, .int (nI i))] 484 [] := by
  obtain ⟨hPW, hPF, ht, ho⟩ := hs
  obtain ⟨hPW, hE⟩ := hPW
  refine q_go C tk_lw4 [(0, 1)] [] (pc1 := 485) (σ1 := σ) (lv1 := [(0, .ref 239), (1, .ref 220), (2, .ref 229), (3, .ref 237), (4, .ref 238), (5, .int (nI i))]) (st1 := [.ref 220]) rfl trivial ?_
  refine q_go C tk_lw4 [(1, 1)] [] (pc1 := 486) (σ1 := σ) (lv1 := [(0, .ref 239), (1, .ref 220), (2, .ref 229), (3, .ref 237), (4, .ref 238), (5, .int (nI i))]) (st1 := [.ref 237, .ref 220]) rfl trivial ?_
  refine q_callW (n := 2) C hfl cw_start (by decide +kernel) q_init_L sw_start lw_ln_start (As := [.ref 220, .ref 237]) (kw_start σ hPW hE) (rest := []) rfl rfl (q_dc (z := (486, .invokestatic 175, 3, 0, 0)) tk_lw4 2 rfl) (Nat.le_of_ble_eq_true rfl) ⟨(Nat.le_of_ble_eq_true rfl), (Nat.le_of_ble_eq_true rfl)⟩ ⟨(by show n1 + 1 ≤ 603072; omega), (by show n2 + 6 ≤ 7215209; omega)⟩ ?_
  refine q_nrm 489 [.int (W_start σ).1] (n1 + 1) (n2 + 6) rfl rfl rfl rfl ?_
  generalize hk9 : (W_start σ).1 = k9 at ht ho ⊢
  refine q_go C tk_lw4 [(3, 2)] [] (pc1 := 492) (σ1 := (W_start σ).2) (lv1 := (6, .int k9) :: [(0, .ref 239), (1, .ref 220), (2, .ref 229), (3, .ref 237), (4, .ref 238), (5, .int (nI i))]) (st1 := [.ref 229]) rfl trivial ?_
  refine q_callV C hfl mw_X9_start mi_X9_start me_X9_start lk_L_177 (k_X9_start (W_start σ).2 hPF) (rest := []) rfl rfl rfl (by decide) (by decide) rfl (q_dc (z := (492, .invokevirtual 177, 3, 0, 0)) tk_lw4 5 rfl) (Nat.le_of_ble_eq_true rfl) ⟨(Nat.le_of_ble_eq_true rfl), (Nat.le_of_ble_eq_true rfl)⟩ ⟨(by show n1 + 1 + 0 ≤ 603072; omega), (by show n2 + 6 + 0 ≤ 7215209; omega)⟩ ?_
  refine q_nrm 495 [.int (F_X9_start (W_start σ).2).1] (n1 + 1) (n2 + 6) rfl rfl rfl rfl ?_
  generalize hb9 : (F_X9_start (W_start σ).2).1 = b9 at ho ⊢
  unfold to_start at kk
  generalize ht9 : (F_X9_start (W_start σ).2).2 = τ at ht ho kk ⊢
  refine q_go C tk_lw4 [(6, 2)] [] (pc1 := 498) (σ1 := τ) (lv1 := (7, .int b9) :: ((6, .int k9) :: [(0, .ref 239), (1, .ref 220), (2, .ref 229), (3, .ref 237), (4, .ref 238), (5, .int (nI i))])) (st1 := [.ref 229]) rfl trivial ?_
  refine q_callV C hfl mw_X9_thrown mi_X9_thrown me_X9_thrown lk_L_161 (k_X9_thrown τ) (rest := []) rfl rfl rfl (by decide) (by decide) rfl (q_dc (z := (498, .invokevirtual 161, 3, 0, 0)) tk_lw4 8 rfl) (Nat.le_of_ble_eq_true rfl) ⟨(Nat.le_of_ble_eq_true rfl), (Nat.le_of_ble_eq_true rfl)⟩ ⟨(by show n1 + 1 + 0 ≤ 603072; omega), (by show n2 + 6 + 0 ≤ 7215209; omega)⟩ ?_
  refine q_nrm 501 [.int (F_X9_thrown τ)] (n1 + 1) (n2 + 6) rfl rfl rfl rfl ?_
  refine q_go C tk_lw4 [(9, 2)] [true] (pc1 := 508) (σ1 := τ) (lv1 := ((7, .int b9) :: (6, .int k9) :: [(0, .ref 239), (1, .ref 220), (2, .ref 229), (3, .ref 237), (4, .ref 238), (5, .int (nI i))])) (st1 := []) rfl ⟨(by unfold F_X9_thrown; exact ht), trivial⟩ ?_
  by_cases c0 : k9 = 0
  · have ho := ho c0
    refine q_go C tk_lw4 [(13, 8)] [false] (pc1 := 520) (σ1 := τ) (lv1 := ((7, .int b9) :: (6, .int k9) :: [(0, .ref 239), (1, .ref 220), (2, .ref 229), (3, .ref 237), (4, .ref 238), (5, .int (nI i))])) (st1 := [.int (lg_cmp (τ 237 0).toInt64 b9.toInt64)]) rfl ⟨c0, rfl, (by unfold vp_in; decide), trivial⟩ ?_
    refine q_go C tk_lw4 [(21, 1), (24, 1)] [true] (pc1 := 2654) (σ1 := τ) (lv1 := ((7, .int b9) :: (6, .int k9) :: [(0, .ref 239), (1, .ref 220), (2, .ref 229), (3, .ref 237), (4, .ref 238), (5, .int (nI i))])) (st1 := []) rfl ⟨(by rw [ho]; exact q_cmp0 _), trivial⟩ ?_
    refine q_widen (k := n1 + 12) (n := n2 + 2000) (by omega) (by omega) ?_
    exact q_lvpick [2, 3, 4, 5, 6, 7] rfl kk
  · refine q_go C tk_lw4 [(13, 2), (24, 1)] [true] (pc1 := 2654) (σ1 := τ) (lv1 := ((7, .int b9) :: (6, .int k9) :: [(0, .ref 239), (1, .ref 220), (2, .ref 229), (3, .ref 237), (4, .ref 238), (5, .int (nI i))])) (st1 := []) rfl ⟨c0, trivial⟩ ?_
    refine q_widen (k := n1 + 12) (n := n2 + 2000) (by omega) (by omega) ?_
    exact q_lvpick [2, 3, 4, 5, 6, 7] rfl kk
def tb_lw5 : List q_E := [(528, .aload_n 1, 1, 0, 0), (529, .aload_n 0, 1, 0, 0), (530, .iload 5, 2, 0, 0), (532, .iconst 1, 1, 1, 0), (533, .iadd, 1, 0, 0), (534, .iaload, 1, 0, 0), (535, .aload_n 3, 1, 0, 0), (536, .invokestatic 178, 3, 0, 0), (539, .istore 6, 2, 0, 0), (541, .aload_n 2, 1, 0, 0), (542, .aload_n 0, 1, 0, 0), (543, .iload 5, 2, 0, 0), (545, .iconst 1, 1, 1, 0), (546, .iadd, 1, 0, 0), (547, .iaload, 1, 0, 0), (548, .invokevirtual 180, 3, 0, 0), (551, .istore 7, 2, 0, 0), (553, .aload_n 2, 1, 0, 0), (554, .invokevirtual 161, 3, 0, 0), (557, .iload 6, 2, 0, 0), (559, .if_icmp .eq 5, 3, 0, 564), (562, .iconst 0, 1, 0, 0), (563, .ireturn, 1, 0, 0), (564, .iload 6, 2, 0, 0), (566, .ifCond .ne 15, 3, 0, 581), (569, .aload_n 3, 1, 0, 0), (570, .iconst 0, 1, 0, 0), (571, .laload, 1, 0, 0), (572, .iload 7, 2, 0, 0), (574, .i2l, 1, 0, 0), (575, .lcmp, 1, 0, 0), (576, .ifCond .eq 5, 3, 0, 581), (579, .iconst 0, 1, 0, 0), (580, .ireturn, 1, 0, 0), (581, .goto 2073, 3, 0, 2654)]
set_option maxRecDepth 100000 in
theorem tk_lw5 : q_tb code 9 tb_lw5 = true := by decide +kernel
def sim_run (g0 : Int32) (σ : q_M) : Prop := q_SimI (fun σ => P_X8_run g0 σ ∧ (∀ E, (F_X8_run g0 σ).1 = .inr E → E ∈ nx_run)) (fun σ => P_X9_run g0 σ) (W_run g0) (F_X9_run g0) σ
def to_run (g0 : Int32) (σ : q_M) : q_M := (F_X9_run g0 (W_run g0 σ).2).2
set_option maxRecDepth 100000 in
theorem cw_run : Cond.codeWith yL_run cL_run 4 (some .int) hh_L_run ∈ q_W := q_t3 103 rfl rfl
set_option maxRecDepth 100000 in
theorem sw_run : Cond.static yL_run ∈ q_W := q_t3 102 rfl rfl
set_option maxRecDepth 100000 in
theorem lw_ln_run : Cond.methodLink RL 178 yL_run ∈ q_W := q_t3 101 rfl rfl
set_option maxRecDepth 100000 in
set_option maxHeartbeats 2000000 in
theorem lw_run {α β : Nat → Nat} {D : va_G} {κ : Nat → ClassId} {p : Program} {l : Launch} {e : Env} {s : State} {m : MethodId} {args : Array Value} {below : List Frame} {meth : Method} {c : Code} {A : Nat → Prop} {Q : State → Prop} {n1 n2 : Nat} (C : q_Cx α β D κ p s m args meth c code RL (fun _ => none) (fun _ => none) 9 A) (hfl : l.flags = flags0) {L : Nat} {xs : Nat → Int32} (hX : q_scr α s A L xs) {i : Nat} (hi : i + 4 ≤ L) (hL : L ≤ 2048) (hn : n1 + 12 ≤ 600000) (hn2 : n2 + 2000 ≤ 7000000) (σ : q_M) (hs : sim_run (xs (i + 1)) σ) (kk : q_St α β D κ p l e room_1 s m args below meth c 9 A Q (n1 + 12) (n2 + 2000) (to_run (xs (i + 1)) σ) [(0, .ref 239), (1, .ref 220), (2, .ref 229), (3, .ref 237), (4, .ref 238), (5, .int (nI i))] 2654 []) : q_St α β D κ p l e room_1 s m args below meth c 9 A Q n1 n2 σ [(0, .ref 239), (1, .ref 220), (2, .ref 229), (3, .ref 237), (4, .ref 238), (5, .int (nI i))] 528 [] := by
  obtain ⟨hPW, hPF, ht, ho⟩ := hs
  obtain ⟨hPW, hE⟩ := hPW
  refine q_go C tk_lw5 [(0, 1)] [] (pc1 := 529) (σ1 := σ) (lv1 := [(0, .ref 239), (1, .ref 220), (2, .ref 229), (3, .ref 237), (4, .ref 238), (5, .int (nI i))]) (st1 := [.ref 220]) rfl trivial ?_
  refine q_go C tk_lw5 [(1, 4)] [] (pc1 := 534) (σ1 := σ) (lv1 := [(0, .ref 239), (1, .ref 220), (2, .ref 229), (3, .ref 237), (4, .ref 238), (5, .int (nI i))]) (st1 := [.int (nI i + 1), .ref 239, .ref 220]) rfl trivial ?_
  refine q_sld C hX (j := i + 1) (nI_add i 1) (by omega) hL (q_dc (z := (534, .iaload, 1, 0, 0)) tk_lw5 5 rfl) ?_
  refine q_nrm 535 [.int (xs (i + 1)), .ref 220] _ _ rfl rfl rfl rfl ?_
  refine q_go C tk_lw5 [(6, 1)] [] (pc1 := 536) (σ1 := σ) (lv1 := [(0, .ref 239), (1, .ref 220), (2, .ref 229), (3, .ref 237), (4, .ref 238), (5, .int (nI i))]) (st1 := [.ref 237, .int (xs (i + 1)), .ref 220]) rfl trivial ?_
  refine q_callW (n := 3) C hfl cw_run (by decide +kernel) q_init_L sw_run lw_ln_run (As := [.ref 220, .int (xs (i + 1)), .ref 237]) (kw_run (xs (i + 1)) σ hPW hE) (rest := []) rfl rfl (q_dc (z := (536, .invokestatic 178, 3, 0, 0)) tk_lw5 7 rfl) (Nat.le_of_ble_eq_true rfl) ⟨(Nat.le_of_ble_eq_true rfl), (Nat.le_of_ble_eq_true rfl)⟩ ⟨(by show n1 + 1 ≤ 603072; omega), (by show n2 + 6 ≤ 7215209; omega)⟩ ?_
  refine q_nrm 539 [.int (W_run (xs (i + 1)) σ).1] (n1 + 1) (n2 + 6) rfl rfl rfl rfl ?_
  generalize hk9 : (W_run (xs (i + 1)) σ).1 = k9 at ht ho ⊢
  refine q_go C tk_lw5 [(8, 2)] [] (pc1 := 542) (σ1 := (W_run (xs (i + 1)) σ).2) (lv1 := (6, .int k9) :: [(0, .ref 239), (1, .ref 220), (2, .ref 229), (3, .ref 237), (4, .ref 238), (5, .int (nI i))]) (st1 := [.ref 229]) rfl trivial ?_
  refine q_go C tk_lw5 [(10, 4)] [] (pc1 := 547) (σ1 := (W_run (xs (i + 1)) σ).2) (lv1 := ((6, .int k9) :: [(0, .ref 239), (1, .ref 220), (2, .ref 229), (3, .ref 237), (4, .ref 238), (5, .int (nI i))])) (st1 := [.int (nI i + 1), .ref 239, .ref 229]) rfl trivial ?_
  refine q_sld C hX (j := i + 1) (nI_add i 1) (by omega) hL (q_dc (z := (547, .iaload, 1, 0, 0)) tk_lw5 14 rfl) ?_
  refine q_nrm 548 [.int (xs (i + 1)), .ref 229] _ _ rfl rfl rfl rfl ?_
  refine q_callV C hfl mw_X9_run mi_X9_run me_X9_run lk_L_180 (k_X9_run (xs (i + 1)) (W_run (xs (i + 1)) σ).2 hPF) (rest := []) rfl rfl rfl (by decide) (by decide) rfl (q_dc (z := (548, .invokevirtual 180, 3, 0, 0)) tk_lw5 15 rfl) (Nat.le_of_ble_eq_true rfl) ⟨(Nat.le_of_ble_eq_true rfl), (Nat.le_of_ble_eq_true rfl)⟩ ⟨(by show n1 + 1 + 0 ≤ 603072; omega), (by show n2 + 6 + 0 ≤ 7215209; omega)⟩ ?_
  refine q_nrm 551 [.int (F_X9_run (xs (i + 1)) (W_run (xs (i + 1)) σ).2).1] (n1 + 1) (n2 + 6) rfl rfl rfl rfl ?_
  generalize hb9 : (F_X9_run (xs (i + 1)) (W_run (xs (i + 1)) σ).2).1 = b9 at ho ⊢
  unfold to_run at kk
  generalize ht9 : (F_X9_run (xs (i + 1)) (W_run (xs (i + 1)) σ).2).2 = τ at ht ho kk ⊢
  refine q_go C tk_lw5 [(16, 2)] [] (pc1 := 554) (σ1 := τ) (lv1 := (7, .int b9) :: ((6, .int k9) :: [(0, .ref 239), (1, .ref 220), (2, .ref 229), (3, .ref 237), (4, .ref 238), (5, .int (nI i))])) (st1 := [.ref 229]) rfl trivial ?_
  refine q_callV C hfl mw_X9_thrown mi_X9_thrown me_X9_thrown lk_L_161 (k_X9_thrown τ) (rest := []) rfl rfl rfl (by decide) (by decide) rfl (q_dc (z := (554, .invokevirtual 161, 3, 0, 0)) tk_lw5 18 rfl) (Nat.le_of_ble_eq_true rfl) ⟨(Nat.le_of_ble_eq_true rfl), (Nat.le_of_ble_eq_true rfl)⟩ ⟨(by show n1 + 1 + 0 ≤ 603072; omega), (by show n2 + 6 + 0 ≤ 7215209; omega)⟩ ?_
  refine q_nrm 557 [.int (F_X9_thrown τ)] (n1 + 1) (n2 + 6) rfl rfl rfl rfl ?_
  refine q_go C tk_lw5 [(19, 2)] [true] (pc1 := 564) (σ1 := τ) (lv1 := ((7, .int b9) :: (6, .int k9) :: [(0, .ref 239), (1, .ref 220), (2, .ref 229), (3, .ref 237), (4, .ref 238), (5, .int (nI i))])) (st1 := []) rfl ⟨(by unfold F_X9_thrown; exact ht), trivial⟩ ?_
  by_cases c0 : k9 = 0
  · have ho := ho c0
    refine q_go C tk_lw5 [(23, 8)] [false] (pc1 := 576) (σ1 := τ) (lv1 := ((7, .int b9) :: (6, .int k9) :: [(0, .ref 239), (1, .ref 220), (2, .ref 229), (3, .ref 237), (4, .ref 238), (5, .int (nI i))])) (st1 := [.int (lg_cmp (τ 237 0).toInt64 b9.toInt64)]) rfl ⟨c0, rfl, (by unfold vp_in; decide), trivial⟩ ?_
    refine q_go C tk_lw5 [(31, 1), (34, 1)] [true] (pc1 := 2654) (σ1 := τ) (lv1 := ((7, .int b9) :: (6, .int k9) :: [(0, .ref 239), (1, .ref 220), (2, .ref 229), (3, .ref 237), (4, .ref 238), (5, .int (nI i))])) (st1 := []) rfl ⟨(by rw [ho]; exact q_cmp0 _), trivial⟩ ?_
    refine q_widen (k := n1 + 12) (n := n2 + 2000) (by omega) (by omega) ?_
    exact q_lvpick [2, 3, 4, 5, 6, 7] rfl kk
  · refine q_go C tk_lw5 [(23, 2), (34, 1)] [true] (pc1 := 2654) (σ1 := τ) (lv1 := ((7, .int b9) :: (6, .int k9) :: [(0, .ref 239), (1, .ref 220), (2, .ref 229), (3, .ref 237), (4, .ref 238), (5, .int (nI i))])) (st1 := []) rfl ⟨c0, trivial⟩ ?_
    refine q_widen (k := n1 + 12) (n := n2 + 2000) (by omega) (by omega) ?_
    exact q_lvpick [2, 3, 4, 5, 6, 7] rfl kk
def tb_lw6 : List q_E := [(584, .aload_n 1, 1, 0, 0), (585, .aload_n 0, 1, 0, 0), (586, .iload 5, 2, 0, 0), (588, .iconst 1, 1, 1, 0), (589, .iadd, 1, 0, 0), (590, .iaload, 1, 0, 0), (591, .aload_n 3, 1, 0, 0), (592, .invokestatic 181, 3, 0, 0), (595, .istore 6, 2, 0, 0), (597, .aload_n 2, 1, 0, 0), (598, .aload_n 0, 1, 0, 0), (599, .iload 5, 2, 0, 0), (601, .iconst 1, 1, 1, 0), (602, .iadd, 1, 0, 0), (603, .iaload, 1, 0, 0), (604, .invokevirtual 183, 3, 0, 0), (607, .istore 7, 2, 0, 0), (609, .aload_n 2, 1, 0, 0), (610, .invokevirtual 161, 3, 0, 0), (613, .iload 6, 2, 0, 0), (615, .if_icmp .eq 5, 3, 0, 620), (618, .iconst 0, 1, 0, 0), (619, .ireturn, 1, 0, 0), (620, .iload 6, 2, 0, 0), (622, .ifCond .ne 15, 3, 0, 637), (625, .aload_n 3, 1, 0, 0), (626, .iconst 0, 1, 0, 0), (627, .laload, 1, 0, 0), (628, .iload 7, 2, 0, 0), (630, .i2l, 1, 0, 0), (631, .lcmp, 1, 0, 0), (632, .ifCond .eq 5, 3, 0, 637), (635, .iconst 0, 1, 0, 0), (636, .ireturn, 1, 0, 0), (637, .goto 2017, 3, 0, 2654)]
set_option maxRecDepth 100000 in
theorem tk_lw6 : q_tb code 9 tb_lw6 = true := by decide +kernel
def sim_pass (g0 : Int32) (σ : q_M) : Prop := q_SimI (fun σ => P_X8_pass g0 σ ∧ (∀ E, (F_X8_pass g0 σ).1 = .inr E → E ∈ nx_pass)) (fun σ => P_X9_pass g0 σ) (W_pass g0) (F_X9_pass g0) σ
def to_pass (g0 : Int32) (σ : q_M) : q_M := (F_X9_pass g0 (W_pass g0 σ).2).2
set_option maxRecDepth 100000 in
theorem cw_pass : Cond.codeWith yL_pass cL_pass 4 (some .int) hh_L_pass ∈ q_W := q_t3 143 rfl rfl
set_option maxRecDepth 100000 in
theorem sw_pass : Cond.static yL_pass ∈ q_W := q_t3 142 rfl rfl
set_option maxRecDepth 100000 in
theorem lw_ln_pass : Cond.methodLink RL 181 yL_pass ∈ q_W := q_t3 141 rfl rfl
set_option maxRecDepth 100000 in
set_option maxHeartbeats 2000000 in
theorem lw_pass {α β : Nat → Nat} {D : va_G} {κ : Nat → ClassId} {p : Program} {l : Launch} {e : Env} {s : State} {m : MethodId} {args : Array Value} {below : List Frame} {meth : Method} {c : Code} {A : Nat → Prop} {Q : State → Prop} {n1 n2 : Nat} (C : q_Cx α β D κ p s m args meth c code RL (fun _ => none) (fun _ => none) 9 A) (hfl : l.flags = flags0) {L : Nat} {xs : Nat → Int32} (hX : q_scr α s A L xs) {i : Nat} (hi : i + 4 ≤ L) (hL : L ≤ 2048) (hn : n1 + 12 ≤ 600000) (hn2 : n2 + 2000 ≤ 7000000) (σ : q_M) (hs : sim_pass (xs (i + 1)) σ) (kk : q_St α β D κ p l e room_1 s m args below meth c 9 A Q (n1 + 12) (n2 + 2000) (to_pass (xs (i + 1)) σ) [(0, .ref 239), (1, .ref 220), (2, .ref 229), (3, .ref 237), (4, .ref 238), (5, .int (nI i))] 2654 []) : q_St α β D κ p l e room_1 s m args below meth c 9 A Q n1 n2 σ [(0, .ref 239), (1, .ref 220), (2, .ref 229), (3, .ref 237), (4, .ref 238), (5, .int (nI i))] 584 [] := by
  obtain ⟨hPW, hPF, ht, ho⟩ := hs
  obtain ⟨hPW, hE⟩ := hPW
  refine q_go C tk_lw6 [(0, 1)] [] (pc1 := 585) (σ1 := σ) (lv1 := [(0, .ref 239), (1, .ref 220), (2, .ref 229), (3, .ref 237), (4, .ref 238), (5, .int (nI i))]) (st1 := [.ref 220]) rfl trivial ?_
  refine q_go C tk_lw6 [(1, 4)] [] (pc1 := 590) (σ1 := σ) (lv1 := [(0, .ref 239), (1, .ref 220), (2, .ref 229), (3, .ref 237), (4, .ref 238), (5, .int (nI i))]) (st1 := [.int (nI i + 1), .ref 239, .ref 220]) rfl trivial ?_
  refine q_sld C hX (j := i + 1) (nI_add i 1) (by omega) hL (q_dc (z := (590, .iaload, 1, 0, 0)) tk_lw6 5 rfl) ?_
  refine q_nrm 591 [.int (xs (i + 1)), .ref 220] _ _ rfl rfl rfl rfl ?_
  refine q_go C tk_lw6 [(6, 1)] [] (pc1 := 592) (σ1 := σ) (lv1 := [(0, .ref 239), (1, .ref 220), (2, .ref 229), (3, .ref 237), (4, .ref 238), (5, .int (nI i))]) (st1 := [.ref 237, .int (xs (i + 1)), .ref 220]) rfl trivial ?_
  refine q_callW (n := 3) C hfl cw_pass (by decide +kernel) q_init_L sw_pass lw_ln_pass (As := [.ref 220, .int (xs (i + 1)), .ref 237]) (kw_pass (xs (i + 1)) σ hPW hE) (rest := []) rfl rfl (q_dc (z := (592, .invokestatic 181, 3, 0, 0)) tk_lw6 7 rfl) (Nat.le_of_ble_eq_true rfl) ⟨(Nat.le_of_ble_eq_true rfl), (Nat.le_of_ble_eq_true rfl)⟩ ⟨(by show n1 + 2 ≤ 603072; omega), (by show n2 + 12 ≤ 7215209; omega)⟩ ?_
  refine q_nrm 595 [.int (W_pass (xs (i + 1)) σ).1] (n1 + 2) (n2 + 12) rfl rfl rfl rfl ?_
  generalize hk9 : (W_pass (xs (i + 1)) σ).1 = k9 at ht ho ⊢
  refine q_go C tk_lw6 [(8, 2)] [] (pc1 := 598) (σ1 := (W_pass (xs (i + 1)) σ).2) (lv1 := (6, .int k9) :: [(0, .ref 239), (1, .ref 220), (2, .ref 229), (3, .ref 237), (4, .ref 238), (5, .int (nI i))]) (st1 := [.ref 229]) rfl trivial ?_
  refine q_go C tk_lw6 [(10, 4)] [] (pc1 := 603) (σ1 := (W_pass (xs (i + 1)) σ).2) (lv1 := ((6, .int k9) :: [(0, .ref 239), (1, .ref 220), (2, .ref 229), (3, .ref 237), (4, .ref 238), (5, .int (nI i))])) (st1 := [.int (nI i + 1), .ref 239, .ref 229]) rfl trivial ?_
  refine q_sld C hX (j := i + 1) (nI_add i 1) (by omega) hL (q_dc (z := (603, .iaload, 1, 0, 0)) tk_lw6 14 rfl) ?_
  refine q_nrm 604 [.int (xs (i + 1)), .ref 229] _ _ rfl rfl rfl rfl ?_
  refine q_callV C hfl mw_X9_pass mi_X9_pass me_X9_pass lk_L_183 (k_X9_pass (xs (i + 1)) (W_pass (xs (i + 1)) σ).2 hPF) (rest := []) rfl rfl rfl (by decide) (by decide) rfl (q_dc (z := (604, .invokevirtual 183, 3, 0, 0)) tk_lw6 15 rfl) (Nat.le_of_ble_eq_true rfl) ⟨(Nat.le_of_ble_eq_true rfl), (Nat.le_of_ble_eq_true rfl)⟩ ⟨(by show n1 + 2 + 0 ≤ 603072; omega), (by show n2 + 12 + 0 ≤ 7215209; omega)⟩ ?_
  refine q_nrm 607 [.int (F_X9_pass (xs (i + 1)) (W_pass (xs (i + 1)) σ).2).1] (n1 + 2) (n2 + 12) rfl rfl rfl rfl ?_
  generalize hb9 : (F_X9_pass (xs (i + 1)) (W_pass (xs (i + 1)) σ).2).1 = b9 at ho ⊢
  unfold to_pass at kk
  generalize ht9 : (F_X9_pass (xs (i + 1)) (W_pass (xs (i + 1)) σ).2).2 = τ at ht ho kk ⊢
  refine q_go C tk_lw6 [(16, 2)] [] (pc1 := 610) (σ1 := τ) (lv1 := (7, .int b9) :: ((6, .int k9) :: [(0, .ref 239), (1, .ref 220), (2, .ref 229), (3, .ref 237), (4, .ref 238), (5, .int (nI i))])) (st1 := [.ref 229]) rfl trivial ?_
  refine q_callV C hfl mw_X9_thrown mi_X9_thrown me_X9_thrown lk_L_161 (k_X9_thrown τ) (rest := []) rfl rfl rfl (by decide) (by decide) rfl (q_dc (z := (610, .invokevirtual 161, 3, 0, 0)) tk_lw6 18 rfl) (Nat.le_of_ble_eq_true rfl) ⟨(Nat.le_of_ble_eq_true rfl), (Nat.le_of_ble_eq_true rfl)⟩ ⟨(by show n1 + 2 + 0 ≤ 603072; omega), (by show n2 + 12 + 0 ≤ 7215209; omega)⟩ ?_
  refine q_nrm 613 [.int (F_X9_thrown τ)] (n1 + 2) (n2 + 12) rfl rfl rfl rfl ?_
  refine q_go C tk_lw6 [(19, 2)] [true] (pc1 := 620) (σ1 := τ) (lv1 := ((7, .int b9) :: (6, .int k9) :: [(0, .ref 239), (1, .ref 220), (2, .ref 229), (3, .ref 237), (4, .ref 238), (5, .int (nI i))])) (st1 := []) rfl ⟨(by unfold F_X9_thrown; exact ht), trivial⟩ ?_
  by_cases c0 : k9 = 0
  · have ho := ho c0
    refine q_go C tk_lw6 [(23, 8)] [false] (pc1 := 632) (σ1 := τ) (lv1 := ((7, .int b9) :: (6, .int k9) :: [(0, .ref 239), (1, .ref 220), (2, .ref 229), (3, .ref 237), (4, .ref 238), (5, .int (nI i))])) (st1 := [.int (lg_cmp (τ 237 0).toInt64 b9.toInt64)]) rfl ⟨c0, rfl, (by unfold vp_in; decide), trivial⟩ ?_
    refine q_go C tk_lw6 [(31, 1), (34, 1)] [true] (pc1 := 2654) (σ1 := τ) (lv1 := ((7, .int b9) :: (6, .int k9) :: [(0, .ref 239), (1, .ref 220), (2, .ref 229), (3, .ref 237), (4, .ref 238), (5, .int (nI i))])) (st1 := []) rfl ⟨(by rw [ho]; exact q_cmp0 _), trivial⟩ ?_
    refine q_widen (k := n1 + 12) (n := n2 + 2000) (by omega) (by omega) ?_
    exact q_lvpick [2, 3, 4, 5, 6, 7] rfl kk
  · refine q_go C tk_lw6 [(23, 2), (34, 1)] [true] (pc1 := 2654) (σ1 := τ) (lv1 := ((7, .int b9) :: (6, .int k9) :: [(0, .ref 239), (1, .ref 220), (2, .ref 229), (3, .ref 237), (4, .ref 238), (5, .int (nI i))])) (st1 := []) rfl ⟨c0, trivial⟩ ?_
    refine q_widen (k := n1 + 12) (n := n2 + 2000) (by omega) (by omega) ?_
    exact q_lvpick [2, 3, 4, 5, 6, 7] rfl kk
def tb_lw7 : List q_E := [(640, .aload_n 1, 1, 0, 0), (641, .aload_n 0, 1, 0, 0), (642, .iload 5, 2, 0, 0), (644, .iconst 1, 1, 1, 0), (645, .iadd, 1, 0, 0), (646, .iaload, 1, 0, 0), (647, .aload_n 0, 1, 0, 0), (648, .iload 5, 2, 0, 0), (650, .iconst 2, 1, 2, 0), (651, .iadd, 1, 0, 0), (652, .iaload, 1, 0, 0), (653, .aload_n 3, 1, 0, 0), (654, .invokestatic 184, 3, 0, 0), (657, .istore 6, 2, 0, 0), (659, .aload_n 2, 1, 0, 0), (660, .aload_n 0, 1, 0, 0), (661, .iload 5, 2, 0, 0), (663, .iconst 1, 1, 1, 0), (664, .iadd, 1, 0, 0), (665, .iaload, 1, 0, 0), (666, .aload_n 0, 1, 0, 0), (667, .iload 5, 2, 0, 0), (669, .iconst 2, 1, 2, 0), (670, .iadd, 1, 0, 0), (671, .iaload, 1, 0, 0), (672, .invokevirtual 187, 3, 0, 0), (675, .istore 7, 2, 0, 0), (677, .aload_n 2, 1, 0, 0), (678, .invokevirtual 161, 3, 0, 0), (681, .iload 6, 2, 0, 0), (683, .if_icmp .eq 5, 3, 0, 688), (686, .iconst 0, 1, 0, 0), (687, .ireturn, 1, 0, 0), (688, .iload 6, 2, 0, 0), (690, .ifCond .ne 15, 3, 0, 705), (693, .aload_n 3, 1, 0, 0), (694, .iconst 0, 1, 0, 0), (695, .laload, 1, 0, 0), (696, .iload 7, 2, 0, 0), (698, .i2l, 1, 0, 0), (699, .lcmp, 1, 0, 0), (700, .ifCond .eq 5, 3, 0, 705), (703, .iconst 0, 1, 0, 0), (704, .ireturn, 1, 0, 0), (705, .goto 1949, 3, 0, 2654)]
set_option maxRecDepth 100000 in
theorem tk_lw7 : q_tb code 9 tb_lw7 = true := by decide +kernel
def sim_drop (g0 : Int32) (g1 : Int32) (σ : q_M) : Prop := q_SimI (fun σ => P_X8_drop g0 g1 σ ∧ (∀ E, (F_X8_drop g0 g1 σ).1 = .inr E → E ∈ nx_drop)) (fun σ => P_X9_drop g0 g1 σ) (W_drop g0 g1) (F_X9_drop g0 g1) σ
def to_drop (g0 : Int32) (g1 : Int32) (σ : q_M) : q_M := (F_X9_drop g0 g1 (W_drop g0 g1 σ).2).2
set_option maxRecDepth 100000 in
theorem cw_drop : Cond.codeWith yL_drop cL_drop 5 (some .int) hh_L_drop ∈ q_W := q_t3 167 rfl rfl
set_option maxRecDepth 100000 in
theorem sw_drop : Cond.static yL_drop ∈ q_W := q_t3 166 rfl rfl
set_option maxRecDepth 100000 in
theorem lw_ln_drop : Cond.methodLink RL 184 yL_drop ∈ q_W := q_t3 165 rfl rfl
set_option maxRecDepth 100000 in
set_option maxHeartbeats 2000000 in
theorem lw_drop {α β : Nat → Nat} {D : va_G} {κ : Nat → ClassId} {p : Program} {l : Launch} {e : Env} {s : State} {m : MethodId} {args : Array Value} {below : List Frame} {meth : Method} {c : Code} {A : Nat → Prop} {Q : State → Prop} {n1 n2 : Nat} (C : q_Cx α β D κ p s m args meth c code RL (fun _ => none) (fun _ => none) 9 A) (hfl : l.flags = flags0) {L : Nat} {xs : Nat → Int32} (hX : q_scr α s A L xs) {i : Nat} (hi : i + 4 ≤ L) (hL : L ≤ 2048) (hn : n1 + 12 ≤ 600000) (hn2 : n2 + 2000 ≤ 7000000) (σ : q_M) (hs : sim_drop (xs (i + 1)) (xs (i + 2)) σ) (kk : q_St α β D κ p l e room_1 s m args below meth c 9 A Q (n1 + 12) (n2 + 2000) (to_drop (xs (i + 1)) (xs (i + 2)) σ) [(0, .ref 239), (1, .ref 220), (2, .ref 229), (3, .ref 237), (4, .ref 238), (5, .int (nI i))] 2654 []) : q_St α β D κ p l e room_1 s m args below meth c 9 A Q n1 n2 σ [(0, .ref 239), (1, .ref 220), (2, .ref 229), (3, .ref 237), (4, .ref 238), (5, .int (nI i))] 640 [] := by
  obtain ⟨hPW, hPF, ht, ho⟩ := hs
  obtain ⟨hPW, hE⟩ := hPW
  refine q_go C tk_lw7 [(0, 1)] [] (pc1 := 641) (σ1 := σ) (lv1 := [(0, .ref 239), (1, .ref 220), (2, .ref 229), (3, .ref 237), (4, .ref 238), (5, .int (nI i))]) (st1 := [.ref 220]) rfl trivial ?_
  refine q_go C tk_lw7 [(1, 4)] [] (pc1 := 646) (σ1 := σ) (lv1 := [(0, .ref 239), (1, .ref 220), (2, .ref 229), (3, .ref 237), (4, .ref 238), (5, .int (nI i))]) (st1 := [.int (nI i + 1), .ref 239, .ref 220]) rfl trivial ?_
  refine q_sld C hX (j := i + 1) (nI_add i 1) (by omega) hL (q_dc (z := (646, .iaload, 1, 0, 0)) tk_lw7 5 rfl) ?_
  refine q_nrm 647 [.int (xs (i + 1)), .ref 220] _ _ rfl rfl rfl rfl ?_
  refine q_go C tk_lw7 [(6, 4)] [] (pc1 := 652) (σ1 := σ) (lv1 := [(0, .ref 239), (1, .ref 220), (2, .ref 229), (3, .ref 237), (4, .ref 238), (5, .int (nI i))]) (st1 := [.int (nI i + 2), .ref 239, .int (xs (i + 1)), .ref 220]) rfl trivial ?_
  refine q_sld C hX (j := i + 2) (nI_add i 2) (by omega) hL (q_dc (z := (652, .iaload, 1, 0, 0)) tk_lw7 10 rfl) ?_
  refine q_nrm 653 [.int (xs (i + 2)), .int (xs (i + 1)), .ref 220] _ _ rfl rfl rfl rfl ?_
  refine q_go C tk_lw7 [(11, 1)] [] (pc1 := 654) (σ1 := σ) (lv1 := [(0, .ref 239), (1, .ref 220), (2, .ref 229), (3, .ref 237), (4, .ref 238), (5, .int (nI i))]) (st1 := [.ref 237, .int (xs (i + 2)), .int (xs (i + 1)), .ref 220]) rfl trivial ?_
  refine q_callW (n := 4) C hfl cw_drop (by decide +kernel) q_init_L sw_drop lw_ln_drop (As := [.ref 220, .int (xs (i + 1)), .int (xs (i + 2)), .ref 237]) (kw_drop (xs (i + 1)) (xs (i + 2)) σ hPW hE) (rest := []) rfl rfl (q_dc (z := (654, .invokestatic 184, 3, 0, 0)) tk_lw7 12 rfl) (Nat.le_of_ble_eq_true rfl) ⟨(Nat.le_of_ble_eq_true rfl), (Nat.le_of_ble_eq_true rfl)⟩ ⟨(by show n1 + 2 ≤ 603072; omega), (by show n2 + 12 ≤ 7215209; omega)⟩ ?_
  refine q_nrm 657 [.int (W_drop (xs (i + 1)) (xs (i + 2)) σ).1] (n1 + 2) (n2 + 12) rfl rfl rfl rfl ?_
  generalize hk9 : (W_drop (xs (i + 1)) (xs (i + 2)) σ).1 = k9 at ht ho ⊢
  refine q_go C tk_lw7 [(13, 2)] [] (pc1 := 660) (σ1 := (W_drop (xs (i + 1)) (xs (i + 2)) σ).2) (lv1 := (6, .int k9) :: [(0, .ref 239), (1, .ref 220), (2, .ref 229), (3, .ref 237), (4, .ref 238), (5, .int (nI i))]) (st1 := [.ref 229]) rfl trivial ?_
  refine q_go C tk_lw7 [(15, 4)] [] (pc1 := 665) (σ1 := (W_drop (xs (i + 1)) (xs (i + 2)) σ).2) (lv1 := ((6, .int k9) :: [(0, .ref 239), (1, .ref 220), (2, .ref 229), (3, .ref 237), (4, .ref 238), (5, .int (nI i))])) (st1 := [.int (nI i + 1), .ref 239, .ref 229]) rfl trivial ?_
  refine q_sld C hX (j := i + 1) (nI_add i 1) (by omega) hL (q_dc (z := (665, .iaload, 1, 0, 0)) tk_lw7 19 rfl) ?_
  refine q_nrm 666 [.int (xs (i + 1)), .ref 229] _ _ rfl rfl rfl rfl ?_
  refine q_go C tk_lw7 [(20, 4)] [] (pc1 := 671) (σ1 := (W_drop (xs (i + 1)) (xs (i + 2)) σ).2) (lv1 := ((6, .int k9) :: [(0, .ref 239), (1, .ref 220), (2, .ref 229), (3, .ref 237), (4, .ref 238), (5, .int (nI i))])) (st1 := [.int (nI i + 2), .ref 239, .int (xs (i + 1)), .ref 229]) rfl trivial ?_
  refine q_sld C hX (j := i + 2) (nI_add i 2) (by omega) hL (q_dc (z := (671, .iaload, 1, 0, 0)) tk_lw7 24 rfl) ?_
  refine q_nrm 672 [.int (xs (i + 2)), .int (xs (i + 1)), .ref 229] _ _ rfl rfl rfl rfl ?_
  refine q_callV C hfl mw_X9_drop mi_X9_drop me_X9_drop lk_L_187 (k_X9_drop (xs (i + 1)) (xs (i + 2)) (W_drop (xs (i + 1)) (xs (i + 2)) σ).2 hPF) (rest := []) rfl rfl rfl (by decide) (by decide) rfl (q_dc (z := (672, .invokevirtual 187, 3, 0, 0)) tk_lw7 25 rfl) (Nat.le_of_ble_eq_true rfl) ⟨(Nat.le_of_ble_eq_true rfl), (Nat.le_of_ble_eq_true rfl)⟩ ⟨(by show n1 + 2 + 0 ≤ 603072; omega), (by show n2 + 12 + 0 ≤ 7215209; omega)⟩ ?_
  refine q_nrm 675 [.int (F_X9_drop (xs (i + 1)) (xs (i + 2)) (W_drop (xs (i + 1)) (xs (i + 2)) σ).2).1] (n1 + 2) (n2 + 12) rfl rfl rfl rfl ?_
  generalize hb9 : (F_X9_drop (xs (i + 1)) (xs (i + 2)) (W_drop (xs (i + 1)) (xs (i + 2)) σ).2).1 = b9 at ho ⊢
  unfold to_drop at kk
  generalize ht9 : (F_X9_drop (xs (i + 1)) (xs (i + 2)) (W_drop (xs (i + 1)) (xs (i + 2)) σ).2).2 = τ at ht ho kk ⊢
  refine q_go C tk_lw7 [(26, 2)] [] (pc1 := 678) (σ1 := τ) (lv1 := (7, .int b9) :: ((6, .int k9) :: [(0, .ref 239), (1, .ref 220), (2, .ref 229), (3, .ref 237), (4, .ref 238), (5, .int (nI i))])) (st1 := [.ref 229]) rfl trivial ?_
  refine q_callV C hfl mw_X9_thrown mi_X9_thrown me_X9_thrown lk_L_161 (k_X9_thrown τ) (rest := []) rfl rfl rfl (by decide) (by decide) rfl (q_dc (z := (678, .invokevirtual 161, 3, 0, 0)) tk_lw7 28 rfl) (Nat.le_of_ble_eq_true rfl) ⟨(Nat.le_of_ble_eq_true rfl), (Nat.le_of_ble_eq_true rfl)⟩ ⟨(by show n1 + 2 + 0 ≤ 603072; omega), (by show n2 + 12 + 0 ≤ 7215209; omega)⟩ ?_
  refine q_nrm 681 [.int (F_X9_thrown τ)] (n1 + 2) (n2 + 12) rfl rfl rfl rfl ?_
  refine q_go C tk_lw7 [(29, 2)] [true] (pc1 := 688) (σ1 := τ) (lv1 := ((7, .int b9) :: (6, .int k9) :: [(0, .ref 239), (1, .ref 220), (2, .ref 229), (3, .ref 237), (4, .ref 238), (5, .int (nI i))])) (st1 := []) rfl ⟨(by unfold F_X9_thrown; exact ht), trivial⟩ ?_
  by_cases c0 : k9 = 0
  · have ho := ho c0
    refine q_go C tk_lw7 [(33, 8)] [false] (pc1 := 700) (σ1 := τ) (lv1 := ((7, .int b9) :: (6, .int k9) :: [(0, .ref 239), (1, .ref 220), (2, .ref 229), (3, .ref 237), (4, .ref 238), (5, .int (nI i))])) (st1 := [.int (lg_cmp (τ 237 0).toInt64 b9.toInt64)]) rfl ⟨c0, rfl, (by unfold vp_in; decide), trivial⟩ ?_
    refine q_go C tk_lw7 [(41, 1), (44, 1)] [true] (pc1 := 2654) (σ1 := τ) (lv1 := ((7, .int b9) :: (6, .int k9) :: [(0, .ref 239), (1, .ref 220), (2, .ref 229), (3, .ref 237), (4, .ref 238), (5, .int (nI i))])) (st1 := []) rfl ⟨(by rw [ho]; exact q_cmp0 _), trivial⟩ ?_
    refine q_widen (k := n1 + 12) (n := n2 + 2000) (by omega) (by omega) ?_
    exact q_lvpick [2, 3, 4, 5, 6, 7] rfl kk
  · refine q_go C tk_lw7 [(33, 2), (44, 1)] [true] (pc1 := 2654) (σ1 := τ) (lv1 := ((7, .int b9) :: (6, .int k9) :: [(0, .ref 239), (1, .ref 220), (2, .ref 229), (3, .ref 237), (4, .ref 238), (5, .int (nI i))])) (st1 := []) rfl ⟨c0, trivial⟩ ?_
    refine q_widen (k := n1 + 12) (n := n2 + 2000) (by omega) (by omega) ?_
    exact q_lvpick [2, 3, 4, 5, 6, 7] rfl kk
def tb_lw8 : List q_E := [(708, .aload_n 1, 1, 0, 0), (709, .aload_n 0, 1, 0, 0), (710, .iload 5, 2, 0, 0), (712, .iconst 1, 1, 1, 0), (713, .iadd, 1, 0, 0), (714, .iaload, 1, 0, 0), (715, .aload_n 3, 1, 0, 0), (716, .invokestatic 188, 3, 0, 0), (719, .istore 6, 2, 0, 0), (721, .aload_n 2, 1, 0, 0), (722, .aload_n 0, 1, 0, 0), (723, .iload 5, 2, 0, 0), (725, .iconst 1, 1, 1, 0), (726, .iadd, 1, 0, 0), (727, .iaload, 1, 0, 0), (728, .invokevirtual 190, 3, 0, 0), (731, .istore 7, 2, 0, 0), (733, .aload_n 2, 1, 0, 0), (734, .invokevirtual 161, 3, 0, 0), (737, .iload 6, 2, 0, 0), (739, .if_icmp .eq 5, 3, 0, 744), (742, .iconst 0, 1, 0, 0), (743, .ireturn, 1, 0, 0), (744, .iload 6, 2, 0, 0), (746, .ifCond .ne 15, 3, 0, 761), (749, .aload_n 3, 1, 0, 0), (750, .iconst 0, 1, 0, 0), (751, .laload, 1, 0, 0), (752, .iload 7, 2, 0, 0), (754, .i2l, 1, 0, 0), (755, .lcmp, 1, 0, 0), (756, .ifCond .eq 5, 3, 0, 761), (759, .iconst 0, 1, 0, 0), (760, .ireturn, 1, 0, 0), (761, .goto 1893, 3, 0, 2654)]
set_option maxRecDepth 100000 in
theorem tk_lw8 : q_tb code 9 tb_lw8 = true := by decide +kernel
def sim_withdraw (g0 : Int32) (σ : q_M) : Prop := q_SimI (fun σ => P_X8_withdraw g0 σ ∧ (∀ E, (F_X8_withdraw g0 σ).1 = .inr E → E ∈ nx_withdraw)) (fun σ => P_X9_withdraw g0 σ) (W_withdraw g0) (F_X9_withdraw g0) σ
def to_withdraw (g0 : Int32) (σ : q_M) : q_M := (F_X9_withdraw g0 (W_withdraw g0 σ).2).2
set_option maxRecDepth 100000 in
theorem cw_withdraw : Cond.codeWith yL_withdraw cL_withdraw 4 (some .int) hh_L_withdraw ∈ q_W := q_t3 190 rfl rfl
set_option maxRecDepth 100000 in
theorem sw_withdraw : Cond.static yL_withdraw ∈ q_W := q_t3 189 rfl rfl
set_option maxRecDepth 100000 in
theorem lw_ln_withdraw : Cond.methodLink RL 188 yL_withdraw ∈ q_W := q_t3 188 rfl rfl
set_option maxRecDepth 100000 in
set_option maxHeartbeats 2000000 in
theorem lw_withdraw {α β : Nat → Nat} {D : va_G} {κ : Nat → ClassId} {p : Program} {l : Launch} {e : Env} {s : State} {m : MethodId} {args : Array Value} {below : List Frame} {meth : Method} {c : Code} {A : Nat → Prop} {Q : State → Prop} {n1 n2 : Nat} (C : q_Cx α β D κ p s m args meth c code RL (fun _ => none) (fun _ => none) 9 A) (hfl : l.flags = flags0) {L : Nat} {xs : Nat → Int32} (hX : q_scr α s A L xs) {i : Nat} (hi : i + 4 ≤ L) (hL : L ≤ 2048) (hn : n1 + 12 ≤ 600000) (hn2 : n2 + 2000 ≤ 7000000) (σ : q_M) (hs : sim_withdraw (xs (i + 1)) σ) (kk : q_St α β D κ p l e room_1 s m args below meth c 9 A Q (n1 + 12) (n2 + 2000) (to_withdraw (xs (i + 1)) σ) [(0, .ref 239), (1, .ref 220), (2, .ref 229), (3, .ref 237), (4, .ref 238), (5, .int (nI i))] 2654 []) : q_St α β D κ p l e room_1 s m args below meth c 9 A Q n1 n2 σ [(0, .ref 239), (1, .ref 220), (2, .ref 229), (3, .ref 237), (4, .ref 238), (5, .int (nI i))] 708 [] := by
  obtain ⟨hPW, hPF, ht, ho⟩ := hs
  obtain ⟨hPW, hE⟩ := hPW
  refine q_go C tk_lw8 [(0, 1)] [] (pc1 := 709) (σ1 := σ) (lv1 := [(0, .ref 239), (1, .ref 220), (2, .ref 229), (3, .ref 237), (4, .ref 238), (5, .int (nI i))]) (st1 := [.ref 220]) rfl trivial ?_
  refine q_go C tk_lw8 [(1, 4)] [] (pc1 := 714) (σ1 := σ) (lv1 := [(0, .ref 239), (1, .ref 220), (2, .ref 229), (3, .ref 237), (4, .ref 238), (5, .int (nI i))]) (st1 := [.int (nI i + 1), .ref 239, .ref 220]) rfl trivial ?_
  refine q_sld C hX (j := i + 1) (nI_add i 1) (by omega) hL (q_dc (z := (714, .iaload, 1, 0, 0)) tk_lw8 5 rfl) ?_
  refine q_nrm 715 [.int (xs (i + 1)), .ref 220] _ _ rfl rfl rfl rfl ?_
  refine q_go C tk_lw8 [(6, 1)] [] (pc1 := 716) (σ1 := σ) (lv1 := [(0, .ref 239), (1, .ref 220), (2, .ref 229), (3, .ref 237), (4, .ref 238), (5, .int (nI i))]) (st1 := [.ref 237, .int (xs (i + 1)), .ref 220]) rfl trivial ?_
  refine q_callW (n := 3) C hfl cw_withdraw (by decide +kernel) q_init_L sw_withdraw lw_ln_withdraw (As := [.ref 220, .int (xs (i + 1)), .ref 237]) (kw_withdraw (xs (i + 1)) σ hPW hE) (rest := []) rfl rfl (q_dc (z := (716, .invokestatic 188, 3, 0, 0)) tk_lw8 7 rfl) (Nat.le_of_ble_eq_true rfl) ⟨(Nat.le_of_ble_eq_true rfl), (Nat.le_of_ble_eq_true rfl)⟩ ⟨(by show n1 + 2 ≤ 603072; omega), (by show n2 + 12 ≤ 7215209; omega)⟩ ?_
  refine q_nrm 719 [.int (W_withdraw (xs (i + 1)) σ).1] (n1 + 2) (n2 + 12) rfl rfl rfl rfl ?_
  generalize hk9 : (W_withdraw (xs (i + 1)) σ).1 = k9 at ht ho ⊢
  refine q_go C tk_lw8 [(8, 2)] [] (pc1 := 722) (σ1 := (W_withdraw (xs (i + 1)) σ).2) (lv1 := (6, .int k9) :: [(0, .ref 239), (1, .ref 220), (2, .ref 229), (3, .ref 237), (4, .ref 238), (5, .int (nI i))]) (st1 := [.ref 229]) rfl trivial ?_
  refine q_go C tk_lw8 [(10, 4)] [] (pc1 := 727) (σ1 := (W_withdraw (xs (i + 1)) σ).2) (lv1 := ((6, .int k9) :: [(0, .ref 239), (1, .ref 220), (2, .ref 229), (3, .ref 237), (4, .ref 238), (5, .int (nI i))])) (st1 := [.int (nI i + 1), .ref 239, .ref 229]) rfl trivial ?_
  refine q_sld C hX (j := i + 1) (nI_add i 1) (by omega) hL (q_dc (z := (727, .iaload, 1, 0, 0)) tk_lw8 14 rfl) ?_
  refine q_nrm 728 [.int (xs (i + 1)), .ref 229] _ _ rfl rfl rfl rfl ?_
  refine q_callV C hfl mw_X9_withdraw mi_X9_withdraw me_X9_withdraw lk_L_190 (k_X9_withdraw (xs (i + 1)) (W_withdraw (xs (i + 1)) σ).2 hPF) (rest := []) rfl rfl rfl (by decide) (by decide) rfl (q_dc (z := (728, .invokevirtual 190, 3, 0, 0)) tk_lw8 15 rfl) (Nat.le_of_ble_eq_true rfl) ⟨(Nat.le_of_ble_eq_true rfl), (Nat.le_of_ble_eq_true rfl)⟩ ⟨(by show n1 + 2 + 0 ≤ 603072; omega), (by show n2 + 12 + 0 ≤ 7215209; omega)⟩ ?_
  refine q_nrm 731 [.int (F_X9_withdraw (xs (i + 1)) (W_withdraw (xs (i + 1)) σ).2).1] (n1 + 2) (n2 + 12) rfl rfl rfl rfl ?_
  generalize hb9 : (F_X9_withdraw (xs (i + 1)) (W_withdraw (xs (i + 1)) σ).2).1 = b9 at ho ⊢
  unfold to_withdraw at kk
  generalize ht9 : (F_X9_withdraw (xs (i + 1)) (W_withdraw (xs (i + 1)) σ).2).2 = τ at ht ho kk ⊢
  refine q_go C tk_lw8 [(16, 2)] [] (pc1 := 734) (σ1 := τ) (lv1 := (7, .int b9) :: ((6, .int k9) :: [(0, .ref 239), (1, .ref 220), (2, .ref 229), (3, .ref 237), (4, .ref 238), (5, .int (nI i))])) (st1 := [.ref 229]) rfl trivial ?_
  refine q_callV C hfl mw_X9_thrown mi_X9_thrown me_X9_thrown lk_L_161 (k_X9_thrown τ) (rest := []) rfl rfl rfl (by decide) (by decide) rfl (q_dc (z := (734, .invokevirtual 161, 3, 0, 0)) tk_lw8 18 rfl) (Nat.le_of_ble_eq_true rfl) ⟨(Nat.le_of_ble_eq_true rfl), (Nat.le_of_ble_eq_true rfl)⟩ ⟨(by show n1 + 2 + 0 ≤ 603072; omega), (by show n2 + 12 + 0 ≤ 7215209; omega)⟩ ?_
  refine q_nrm 737 [.int (F_X9_thrown τ)] (n1 + 2) (n2 + 12) rfl rfl rfl rfl ?_
  refine q_go C tk_lw8 [(19, 2)] [true] (pc1 := 744) (σ1 := τ) (lv1 := ((7, .int b9) :: (6, .int k9) :: [(0, .ref 239), (1, .ref 220), (2, .ref 229), (3, .ref 237), (4, .ref 238), (5, .int (nI i))])) (st1 := []) rfl ⟨(by unfold F_X9_thrown; exact ht), trivial⟩ ?_
  by_cases c0 : k9 = 0
  · have ho := ho c0
    refine q_go C tk_lw8 [(23, 8)] [false] (pc1 := 756) (σ1 := τ) (lv1 := ((7, .int b9) :: (6, .int k9) :: [(0, .ref 239), (1, .ref 220), (2, .ref 229), (3, .ref 237), (4, .ref 238), (5, .int (nI i))])) (st1 := [.int (lg_cmp (τ 237 0).toInt64 b9.toInt64)]) rfl ⟨c0, rfl, (by unfold vp_in; decide), trivial⟩ ?_
    refine q_go C tk_lw8 [(31, 1), (34, 1)] [true] (pc1 := 2654) (σ1 := τ) (lv1 := ((7, .int b9) :: (6, .int k9) :: [(0, .ref 239), (1, .ref 220), (2, .ref 229), (3, .ref 237), (4, .ref 238), (5, .int (nI i))])) (st1 := []) rfl ⟨(by rw [ho]; exact q_cmp0 _), trivial⟩ ?_
    refine q_widen (k := n1 + 12) (n := n2 + 2000) (by omega) (by omega) ?_
    exact q_lvpick [2, 3, 4, 5, 6, 7] rfl kk
  · refine q_go C tk_lw8 [(23, 2), (34, 1)] [true] (pc1 := 2654) (σ1 := τ) (lv1 := ((7, .int b9) :: (6, .int k9) :: [(0, .ref 239), (1, .ref 220), (2, .ref 229), (3, .ref 237), (4, .ref 238), (5, .int (nI i))])) (st1 := []) rfl ⟨c0, trivial⟩ ?_
    refine q_widen (k := n1 + 12) (n := n2 + 2000) (by omega) (by omega) ?_
    exact q_lvpick [2, 3, 4, 5, 6, 7] rfl kk
def tb_lw9 : List q_E := [(764, .aload_n 1, 1, 0, 0), (765, .aload_n 0, 1, 0, 0), (766, .iload 5, 2, 0, 0), (768, .iconst 1, 1, 1, 0), (769, .iadd, 1, 0, 0), (770, .iaload, 1, 0, 0), (771, .aload_n 0, 1, 0, 0), (772, .iload 5, 2, 0, 0), (774, .iconst 2, 1, 2, 0), (775, .iadd, 1, 0, 0), (776, .iaload, 1, 0, 0), (777, .aload_n 0, 1, 0, 0), (778, .iload 5, 2, 0, 0), (780, .iconst 3, 1, 3, 0), (781, .iadd, 1, 0, 0), (782, .iaload, 1, 0, 0), (783, .aload_n 3, 1, 0, 0), (784, .invokestatic 191, 3, 0, 0), (787, .istore 6, 2, 0, 0), (789, .aload_n 2, 1, 0, 0), (790, .aload_n 0, 1, 0, 0), (791, .iload 5, 2, 0, 0), (793, .iconst 1, 1, 1, 0), (794, .iadd, 1, 0, 0), (795, .iaload, 1, 0, 0), (796, .aload_n 0, 1, 0, 0), (797, .iload 5, 2, 0, 0), (799, .iconst 2, 1, 2, 0), (800, .iadd, 1, 0, 0), (801, .iaload, 1, 0, 0), (802, .aload_n 0, 1, 0, 0), (803, .iload 5, 2, 0, 0), (805, .iconst 3, 1, 3, 0), (806, .iadd, 1, 0, 0), (807, .iaload, 1, 0, 0), (808, .invokevirtual 193, 3, 0, 0), (811, .istore 7, 2, 0, 0), (813, .aload_n 2, 1, 0, 0), (814, .invokevirtual 161, 3, 0, 0), (817, .iload 6, 2, 0, 0), (819, .if_icmp .eq 5, 3, 0, 824), (822, .iconst 0, 1, 0, 0), (823, .ireturn, 1, 0, 0), (824, .iload 6, 2, 0, 0), (826, .ifCond .ne 22, 3, 0, 848), (829, .aload_n 3, 1, 0, 0), (830, .iconst 0, 1, 0, 0), (831, .laload, 1, 0, 0), (832, .iload 7, 2, 0, 0), (834, .ifCond .eq 7, 3, 0, 841), (837, .lconst 1, 1, 1, 0), (838, .goto 4, 3, 0, 842), (841, .lconst 0, 1, 0, 0), (842, .lcmp, 1, 0, 0), (843, .ifCond .eq 5, 3, 0, 848), (846, .iconst 0, 1, 0, 0), (847, .ireturn, 1, 0, 0), (848, .goto 1806, 3, 0, 2654)]
set_option maxRecDepth 100000 in
theorem tk_lw9 : q_tb code 9 tb_lw9 = true := by decide +kernel
def sim_protest (g0 : Int32) (g1 : Int32) (g2 : Int32) (σ : q_M) : Prop := q_SimB (fun σ => P_X8_protest g0 g1 g2 σ ∧ (∀ E, (F_X8_protest g0 g1 g2 σ).1 = .inr E → E ∈ nx_protest)) (fun σ => P_X9_protest g0 g1 g2 σ) (W_protest g0 g1 g2) (F_X9_protest g0 g1 g2) σ
def to_protest (g0 : Int32) (g1 : Int32) (g2 : Int32) (σ : q_M) : q_M := (F_X9_protest g0 g1 g2 (W_protest g0 g1 g2 σ).2).2
set_option maxRecDepth 100000 in
theorem cw_protest : Cond.codeWith yL_protest cL_protest 6 (some .int) hh_L_protest ∈ q_W := q_t3 200 rfl rfl
set_option maxRecDepth 100000 in
theorem sw_protest : Cond.static yL_protest ∈ q_W := q_t3 199 rfl rfl
set_option maxRecDepth 100000 in
theorem lw_ln_protest : Cond.methodLink RL 191 yL_protest ∈ q_W := q_t3 198 rfl rfl
set_option maxRecDepth 100000 in
set_option maxHeartbeats 2000000 in
theorem lw_protest {α β : Nat → Nat} {D : va_G} {κ : Nat → ClassId} {p : Program} {l : Launch} {e : Env} {s : State} {m : MethodId} {args : Array Value} {below : List Frame} {meth : Method} {c : Code} {A : Nat → Prop} {Q : State → Prop} {n1 n2 : Nat} (C : q_Cx α β D κ p s m args meth c code RL (fun _ => none) (fun _ => none) 9 A) (hfl : l.flags = flags0) {L : Nat} {xs : Nat → Int32} (hX : q_scr α s A L xs) {i : Nat} (hi : i + 4 ≤ L) (hL : L ≤ 2048) (hn : n1 + 12 ≤ 600000) (hn2 : n2 + 2000 ≤ 7000000) (σ : q_M) (hs : sim_protest (xs (i + 1)) (xs (i + 2)) (xs (i + 3)) σ) (kk : q_St α β D κ p l e room_1 s m args below meth c 9 A Q (n1 + 12) (n2 + 2000) (to_protest (xs (i + 1)) (xs (i + 2)) (xs (i + 3)) σ) [(0, .ref 239), (1, .ref 220), (2, .ref 229), (3, .ref 237), (4, .ref 238), (5, .int (nI i))] 2654 []) : q_St α β D κ p l e room_1 s m args below meth c 9 A Q n1 n2 σ [(0, .ref 239), (1, .ref 220), (2, .ref 229), (3, .ref 237), (4, .ref 238), (5, .int (nI i))] 764 [] := by
  obtain ⟨⟨hPW, hPF, ht, ho⟩, hz⟩ := hs
  obtain ⟨hPW, hE⟩ := hPW
  refine q_go C tk_lw9 [(0, 1)] [] (pc1 := 765) (σ1 := σ) (lv1 := [(0, .ref 239), (1, .ref 220), (2, .ref 229), (3, .ref 237), (4, .ref 238), (5, .int (nI i))]) (st1 := [.ref 220]) rfl trivial ?_
  refine q_go C tk_lw9 [(1, 4)] [] (pc1 := 770) (σ1 := σ) (lv1 := [(0, .ref 239), (1, .ref 220), (2, .ref 229), (3, .ref 237), (4, .ref 238), (5, .int (nI i))]) (st1 := [.int (nI i + 1), .ref 239, .ref 220]) rfl trivial ?_
  refine q_sld C hX (j := i + 1) (nI_add i 1) (by omega) hL (q_dc (z := (770, .iaload, 1, 0, 0)) tk_lw9 5 rfl) ?_
  refine q_nrm 771 [.int (xs (i + 1)), .ref 220] _ _ rfl rfl rfl rfl ?_
  refine q_go C tk_lw9 [(6, 4)] [] (pc1 := 776) (σ1 := σ) (lv1 := [(0, .ref 239), (1, .ref 220), (2, .ref 229), (3, .ref 237), (4, .ref 238), (5, .int (nI i))]) (st1 := [.int (nI i + 2), .ref 239, .int (xs (i + 1)), .ref 220]) rfl trivial ?_
  refine q_sld C hX (j := i + 2) (nI_add i 2) (by omega) hL (q_dc (z := (776, .iaload, 1, 0, 0)) tk_lw9 10 rfl) ?_
  refine q_nrm 777 [.int (xs (i + 2)), .int (xs (i + 1)), .ref 220] _ _ rfl rfl rfl rfl ?_
  refine q_go C tk_lw9 [(11, 4)] [] (pc1 := 782) (σ1 := σ) (lv1 := [(0, .ref 239), (1, .ref 220), (2, .ref 229), (3, .ref 237), (4, .ref 238), (5, .int (nI i))]) (st1 := [.int (nI i + 3), .ref 239, .int (xs (i + 2)), .int (xs (i + 1)), .ref 220]) rfl trivial ?_
  refine q_sld C hX (j := i + 3) (nI_add i 3) (by omega) hL (q_dc (z := (782, .iaload, 1, 0, 0)) tk_lw9 15 rfl) ?_
  refine q_nrm 783 [.int (xs (i + 3)), .int (xs (i + 2)), .int (xs (i + 1)), .ref 220] _ _ rfl rfl rfl rfl ?_
  refine q_go C tk_lw9 [(16, 1)] [] (pc1 := 784) (σ1 := σ) (lv1 := [(0, .ref 239), (1, .ref 220), (2, .ref 229), (3, .ref 237), (4, .ref 238), (5, .int (nI i))]) (st1 := [.ref 237, .int (xs (i + 3)), .int (xs (i + 2)), .int (xs (i + 1)), .ref 220]) rfl trivial ?_
  refine q_callW (n := 5) C hfl cw_protest (by decide +kernel) q_init_L sw_protest lw_ln_protest (As := [.ref 220, .int (xs (i + 1)), .int (xs (i + 2)), .int (xs (i + 3)), .ref 237]) (kw_protest (xs (i + 1)) (xs (i + 2)) (xs (i + 3)) σ hPW hE) (rest := []) rfl rfl (q_dc (z := (784, .invokestatic 191, 3, 0, 0)) tk_lw9 17 rfl) (Nat.le_of_ble_eq_true rfl) ⟨(Nat.le_of_ble_eq_true rfl), (Nat.le_of_ble_eq_true rfl)⟩ ⟨(by show n1 + 3 ≤ 603072; omega), (by show n2 + 18 ≤ 7215209; omega)⟩ ?_
  refine q_nrm 787 [.int (W_protest (xs (i + 1)) (xs (i + 2)) (xs (i + 3)) σ).1] (n1 + 3) (n2 + 18) rfl rfl rfl rfl ?_
  generalize hk9 : (W_protest (xs (i + 1)) (xs (i + 2)) (xs (i + 3)) σ).1 = k9 at ht ho ⊢
  refine q_go C tk_lw9 [(18, 2)] [] (pc1 := 790) (σ1 := (W_protest (xs (i + 1)) (xs (i + 2)) (xs (i + 3)) σ).2) (lv1 := (6, .int k9) :: [(0, .ref 239), (1, .ref 220), (2, .ref 229), (3, .ref 237), (4, .ref 238), (5, .int (nI i))]) (st1 := [.ref 229]) rfl trivial ?_
  refine q_go C tk_lw9 [(20, 4)] [] (pc1 := 795) (σ1 := (W_protest (xs (i + 1)) (xs (i + 2)) (xs (i + 3)) σ).2) (lv1 := ((6, .int k9) :: [(0, .ref 239), (1, .ref 220), (2, .ref 229), (3, .ref 237), (4, .ref 238), (5, .int (nI i))])) (st1 := [.int (nI i + 1), .ref 239, .ref 229]) rfl trivial ?_
  refine q_sld C hX (j := i + 1) (nI_add i 1) (by omega) hL (q_dc (z := (795, .iaload, 1, 0, 0)) tk_lw9 24 rfl) ?_
  refine q_nrm 796 [.int (xs (i + 1)), .ref 229] _ _ rfl rfl rfl rfl ?_
  refine q_go C tk_lw9 [(25, 4)] [] (pc1 := 801) (σ1 := (W_protest (xs (i + 1)) (xs (i + 2)) (xs (i + 3)) σ).2) (lv1 := ((6, .int k9) :: [(0, .ref 239), (1, .ref 220), (2, .ref 229), (3, .ref 237), (4, .ref 238), (5, .int (nI i))])) (st1 := [.int (nI i + 2), .ref 239, .int (xs (i + 1)), .ref 229]) rfl trivial ?_
  refine q_sld C hX (j := i + 2) (nI_add i 2) (by omega) hL (q_dc (z := (801, .iaload, 1, 0, 0)) tk_lw9 29 rfl) ?_
  refine q_nrm 802 [.int (xs (i + 2)), .int (xs (i + 1)), .ref 229] _ _ rfl rfl rfl rfl ?_
  refine q_go C tk_lw9 [(30, 4)] [] (pc1 := 807) (σ1 := (W_protest (xs (i + 1)) (xs (i + 2)) (xs (i + 3)) σ).2) (lv1 := ((6, .int k9) :: [(0, .ref 239), (1, .ref 220), (2, .ref 229), (3, .ref 237), (4, .ref 238), (5, .int (nI i))])) (st1 := [.int (nI i + 3), .ref 239, .int (xs (i + 2)), .int (xs (i + 1)), .ref 229]) rfl trivial ?_
  refine q_sld C hX (j := i + 3) (nI_add i 3) (by omega) hL (q_dc (z := (807, .iaload, 1, 0, 0)) tk_lw9 34 rfl) ?_
  refine q_nrm 808 [.int (xs (i + 3)), .int (xs (i + 2)), .int (xs (i + 1)), .ref 229] _ _ rfl rfl rfl rfl ?_
  refine q_callV C hfl mw_X9_protest mi_X9_protest me_X9_protest lk_L_193 (k_X9_protest (xs (i + 1)) (xs (i + 2)) (xs (i + 3)) (W_protest (xs (i + 1)) (xs (i + 2)) (xs (i + 3)) σ).2 hPF) (rest := []) rfl rfl rfl (by decide) (by decide) rfl (q_dc (z := (808, .invokevirtual 193, 3, 0, 0)) tk_lw9 35 rfl) (Nat.le_of_ble_eq_true rfl) ⟨(Nat.le_of_ble_eq_true rfl), (Nat.le_of_ble_eq_true rfl)⟩ ⟨(by show n1 + 3 + 0 ≤ 603072; omega), (by show n2 + 18 + 0 ≤ 7215209; omega)⟩ ?_
  refine q_nrm 811 [.int (F_X9_protest (xs (i + 1)) (xs (i + 2)) (xs (i + 3)) (W_protest (xs (i + 1)) (xs (i + 2)) (xs (i + 3)) σ).2).1] (n1 + 3) (n2 + 18) rfl rfl rfl rfl ?_
  generalize hb9 : (F_X9_protest (xs (i + 1)) (xs (i + 2)) (xs (i + 3)) (W_protest (xs (i + 1)) (xs (i + 2)) (xs (i + 3)) σ).2).1 = b9 at ho hz ⊢
  unfold to_protest at kk
  generalize ht9 : (F_X9_protest (xs (i + 1)) (xs (i + 2)) (xs (i + 3)) (W_protest (xs (i + 1)) (xs (i + 2)) (xs (i + 3)) σ).2).2 = τ at ht ho kk ⊢
  refine q_go C tk_lw9 [(36, 2)] [] (pc1 := 814) (σ1 := τ) (lv1 := (7, .int b9) :: ((6, .int k9) :: [(0, .ref 239), (1, .ref 220), (2, .ref 229), (3, .ref 237), (4, .ref 238), (5, .int (nI i))])) (st1 := [.ref 229]) rfl trivial ?_
  refine q_callV C hfl mw_X9_thrown mi_X9_thrown me_X9_thrown lk_L_161 (k_X9_thrown τ) (rest := []) rfl rfl rfl (by decide) (by decide) rfl (q_dc (z := (814, .invokevirtual 161, 3, 0, 0)) tk_lw9 38 rfl) (Nat.le_of_ble_eq_true rfl) ⟨(Nat.le_of_ble_eq_true rfl), (Nat.le_of_ble_eq_true rfl)⟩ ⟨(by show n1 + 3 + 0 ≤ 603072; omega), (by show n2 + 18 + 0 ≤ 7215209; omega)⟩ ?_
  refine q_nrm 817 [.int (F_X9_thrown τ)] (n1 + 3) (n2 + 18) rfl rfl rfl rfl ?_
  refine q_go C tk_lw9 [(39, 2)] [true] (pc1 := 824) (σ1 := τ) (lv1 := ((7, .int b9) :: (6, .int k9) :: [(0, .ref 239), (1, .ref 220), (2, .ref 229), (3, .ref 237), (4, .ref 238), (5, .int (nI i))])) (st1 := []) rfl ⟨(by unfold F_X9_thrown; exact ht), trivial⟩ ?_
  by_cases c0 : k9 = 0
  · have ho := ho c0
    refine q_go C tk_lw9 [(43, 5)] [false] (pc1 := 832) (σ1 := τ) (lv1 := ((7, .int b9) :: (6, .int k9) :: [(0, .ref 239), (1, .ref 220), (2, .ref 229), (3, .ref 237), (4, .ref 238), (5, .int (nI i))])) (st1 := [.long (τ 237 0).toInt64]) rfl ⟨c0, rfl, (by unfold vp_in; decide), trivial⟩ ?_
    rcases hz with hz | hz
    · have e1 : τ 237 0 = 0 := ho.trans hz
      refine q_go C tk_lw9 [(48, 2), (52, 2)] [true] (pc1 := 843) (σ1 := τ) (lv1 := ((7, .int b9) :: (6, .int k9) :: [(0, .ref 239), (1, .ref 220), (2, .ref 229), (3, .ref 237), (4, .ref 238), (5, .int (nI i))])) (st1 := [.int (lg_cmp (τ 237 0).toInt64 (0 : Int32).toInt64)]) rfl ⟨hz, trivial⟩ ?_
      refine q_go C tk_lw9 [(54, 1), (57, 1)] [true] (pc1 := 2654) (σ1 := τ) (lv1 := ((7, .int b9) :: (6, .int k9) :: [(0, .ref 239), (1, .ref 220), (2, .ref 229), (3, .ref 237), (4, .ref 238), (5, .int (nI i))])) (st1 := []) rfl ⟨(by rw [e1]; exact q_cmp0 _), trivial⟩ ?_
      refine q_widen (k := n1 + 12) (n := n2 + 2000) (by omega) (by omega) ?_
      exact q_lvpick [2, 3, 4, 5, 6, 7] rfl kk
    · have e1 : τ 237 0 = 1 := ho.trans hz
      refine q_go C tk_lw9 [(48, 4), (53, 1)] [false] (pc1 := 843) (σ1 := τ) (lv1 := ((7, .int b9) :: (6, .int k9) :: [(0, .ref 239), (1, .ref 220), (2, .ref 229), (3, .ref 237), (4, .ref 238), (5, .int (nI i))])) (st1 := [.int (lg_cmp (τ 237 0).toInt64 (1 : Int32).toInt64)]) rfl ⟨(fun z => absurd (hz.symm.trans z) (by decide)), trivial⟩ ?_
      refine q_go C tk_lw9 [(54, 1), (57, 1)] [true] (pc1 := 2654) (σ1 := τ) (lv1 := ((7, .int b9) :: (6, .int k9) :: [(0, .ref 239), (1, .ref 220), (2, .ref 229), (3, .ref 237), (4, .ref 238), (5, .int (nI i))])) (st1 := []) rfl ⟨(by rw [e1]; exact q_cmp0 _), trivial⟩ ?_
      refine q_widen (k := n1 + 12) (n := n2 + 2000) (by omega) (by omega) ?_
      exact q_lvpick [2, 3, 4, 5, 6, 7] rfl kk
  · refine q_go C tk_lw9 [(43, 2), (57, 1)] [true] (pc1 := 2654) (σ1 := τ) (lv1 := ((7, .int b9) :: (6, .int k9) :: [(0, .ref 239), (1, .ref 220), (2, .ref 229), (3, .ref 237), (4, .ref 238), (5, .int (nI i))])) (st1 := []) rfl ⟨c0, trivial⟩ ?_
    refine q_widen (k := n1 + 12) (n := n2 + 2000) (by omega) (by omega) ?_
    exact q_lvpick [2, 3, 4, 5, 6, 7] rfl kk
def tb_lw10 : List q_E := [(851, .aload_n 1, 1, 0, 0), (852, .invokevirtual 194, 3, 0, 0), (855, .aload_n 2, 1, 0, 0), (856, .invokevirtual 197, 3, 0, 0), (859, .if_icmp .eq 1795, 3, 0, 2654), (862, .iconst 0, 1, 0, 0), (863, .ireturn, 1, 0, 0)]
set_option maxRecDepth 100000 in
theorem tk_lw10 : q_tb code 9 tb_lw10 = true := by decide +kernel
def sim_teamCount (σ : q_M) : Prop := P_X8_teamCount σ ∧ (F_X8_teamCount σ) = (F_X9_teamCount σ).1
def to_teamCount (σ : q_M) : q_M := (F_X9_teamCount σ).2
set_option maxRecDepth 100000 in
set_option maxHeartbeats 2000000 in
theorem lw_teamCount {α β : Nat → Nat} {D : va_G} {κ : Nat → ClassId} {p : Program} {l : Launch} {e : Env} {s : State} {m : MethodId} {args : Array Value} {below : List Frame} {meth : Method} {c : Code} {A : Nat → Prop} {Q : State → Prop} {n1 n2 : Nat} (C : q_Cx α β D κ p s m args meth c code RL (fun _ => none) (fun _ => none) 9 A) (hfl : l.flags = flags0) {i : Nat} (hn : n1 + 12 ≤ 600000) (hn2 : n2 + 2000 ≤ 7000000) (σ : q_M) (hs : sim_teamCount σ) (kk : q_St α β D κ p l e room_1 s m args below meth c 9 A Q (n1 + 12) (n2 + 2000) (to_teamCount σ) [(0, .ref 239), (1, .ref 220), (2, .ref 229), (3, .ref 237), (4, .ref 238), (5, .int (nI i))] 2654 []) : q_St α β D κ p l e room_1 s m args below meth c 9 A Q n1 n2 σ [(0, .ref 239), (1, .ref 220), (2, .ref 229), (3, .ref 237), (4, .ref 238), (5, .int (nI i))] 851 [] := by
  obtain ⟨h8, he⟩ := hs
  refine q_go C tk_lw10 [(0, 1)] [] (pc1 := 852) (σ1 := σ) (lv1 := [(0, .ref 239), (1, .ref 220), (2, .ref 229), (3, .ref 237), (4, .ref 238), (5, .int (nI i))]) (st1 := [.ref 220]) rfl trivial ?_
  refine q_callV C hfl mw_X8_teamCount mi_X8_teamCount me_X8_teamCount lk_L_194 (k_X8_teamCount σ h8) (rest := []) rfl rfl rfl (by decide) (by decide) rfl (q_dc (z := (852, .invokevirtual 194, 3, 0, 0)) tk_lw10 1 rfl) (Nat.le_of_ble_eq_true rfl) ⟨(Nat.le_of_ble_eq_true rfl), (Nat.le_of_ble_eq_true rfl)⟩ ⟨(by show n1 + 0 ≤ 603072; omega), (by show n2 + 0 ≤ 7215209; omega)⟩ ?_
  refine q_nrm 855 [.int (F_X8_teamCount σ)] (n1 + 0) (n2 + 0) rfl rfl rfl rfl ?_
  refine q_go C tk_lw10 [(2, 1)] [] (pc1 := 856) (σ1 := σ) (lv1 := [(0, .ref 239), (1, .ref 220), (2, .ref 229), (3, .ref 237), (4, .ref 238), (5, .int (nI i))]) (st1 := [.ref 229, .int (F_X8_teamCount σ)]) rfl trivial ?_
  refine q_callV C hfl mw_X9_teamCount mi_X9_teamCount me_X9_teamCount lk_L_197 (k_X9_teamCount σ) (rest := [.int (F_X8_teamCount σ)]) rfl rfl rfl (by decide) (by decide) rfl (q_dc (z := (856, .invokevirtual 197, 3, 0, 0)) tk_lw10 3 rfl) (Nat.le_of_ble_eq_true rfl) ⟨(Nat.le_of_ble_eq_true rfl), (Nat.le_of_ble_eq_true rfl)⟩ ⟨(by show n1 + 0 + 0 ≤ 603072; omega), (by show n2 + 0 + 0 ≤ 7215209; omega)⟩ ?_
  refine q_nrm 859 [.int (F_X9_teamCount σ).1, .int (F_X8_teamCount σ)] (n1 + 0 + 0) (n2 + 0 + 0) rfl rfl rfl rfl ?_
  refine q_go C tk_lw10 [(4, 1)] [true] (pc1 := 2654) (σ1 := (F_X9_teamCount σ).2) (lv1 := [(0, .ref 239), (1, .ref 220), (2, .ref 229), (3, .ref 237), (4, .ref 238), (5, .int (nI i))]) (st1 := []) rfl ⟨he, trivial⟩ ?_
  exact q_widen (by omega) (by omega) kk
def tb_lw11 : List q_E := [(864, .aload_n 1, 1, 0, 0), (865, .invokevirtual 198, 3, 0, 0), (868, .aload_n 2, 1, 0, 0), (869, .invokevirtual 201, 3, 0, 0), (872, .if_icmp .eq 1782, 3, 0, 2654), (875, .iconst 0, 1, 0, 0), (876, .ireturn, 1, 0, 0)]
set_option maxRecDepth 100000 in
theorem tk_lw11 : q_tb code 9 tb_lw11 = true := by decide +kernel
def sim_runningCount (σ : q_M) : Prop := P_X8_runningCount σ ∧ P_X9_runningCount σ ∧ (F_X8_runningCount σ) = (F_X9_runningCount σ).1
def to_runningCount (σ : q_M) : q_M := (F_X9_runningCount σ).2
set_option maxRecDepth 100000 in
set_option maxHeartbeats 2000000 in
theorem lw_runningCount {α β : Nat → Nat} {D : va_G} {κ : Nat → ClassId} {p : Program} {l : Launch} {e : Env} {s : State} {m : MethodId} {args : Array Value} {below : List Frame} {meth : Method} {c : Code} {A : Nat → Prop} {Q : State → Prop} {n1 n2 : Nat} (C : q_Cx α β D κ p s m args meth c code RL (fun _ => none) (fun _ => none) 9 A) (hfl : l.flags = flags0) {i : Nat} (hn : n1 + 12 ≤ 600000) (hn2 : n2 + 2000 ≤ 7000000) (σ : q_M) (hs : sim_runningCount σ) (kk : q_St α β D κ p l e room_1 s m args below meth c 9 A Q (n1 + 12) (n2 + 2000) (to_runningCount σ) [(0, .ref 239), (1, .ref 220), (2, .ref 229), (3, .ref 237), (4, .ref 238), (5, .int (nI i))] 2654 []) : q_St α β D κ p l e room_1 s m args below meth c 9 A Q n1 n2 σ [(0, .ref 239), (1, .ref 220), (2, .ref 229), (3, .ref 237), (4, .ref 238), (5, .int (nI i))] 864 [] := by
  obtain ⟨h8, h9, he⟩ := hs
  refine q_go C tk_lw11 [(0, 1)] [] (pc1 := 865) (σ1 := σ) (lv1 := [(0, .ref 239), (1, .ref 220), (2, .ref 229), (3, .ref 237), (4, .ref 238), (5, .int (nI i))]) (st1 := [.ref 220]) rfl trivial ?_
  refine q_callV C hfl mw_X8_runningCount mi_X8_runningCount me_X8_runningCount lk_L_198 (k_X8_runningCount σ h8) (rest := []) rfl rfl rfl (by decide) (by decide) rfl (q_dc (z := (865, .invokevirtual 198, 3, 0, 0)) tk_lw11 1 rfl) (Nat.le_of_ble_eq_true rfl) ⟨(Nat.le_of_ble_eq_true rfl), (Nat.le_of_ble_eq_true rfl)⟩ ⟨(by show n1 + 0 ≤ 603072; omega), (by show n2 + 0 ≤ 7215209; omega)⟩ ?_
  refine q_nrm 868 [.int (F_X8_runningCount σ)] (n1 + 0) (n2 + 0) rfl rfl rfl rfl ?_
  refine q_go C tk_lw11 [(2, 1)] [] (pc1 := 869) (σ1 := σ) (lv1 := [(0, .ref 239), (1, .ref 220), (2, .ref 229), (3, .ref 237), (4, .ref 238), (5, .int (nI i))]) (st1 := [.ref 229, .int (F_X8_runningCount σ)]) rfl trivial ?_
  refine q_callV C hfl mw_X9_runningCount mi_X9_runningCount me_X9_runningCount lk_L_201 (k_X9_runningCount σ h9) (rest := [.int (F_X8_runningCount σ)]) rfl rfl rfl (by decide) (by decide) rfl (q_dc (z := (869, .invokevirtual 201, 3, 0, 0)) tk_lw11 3 rfl) (Nat.le_of_ble_eq_true rfl) ⟨(Nat.le_of_ble_eq_true rfl), (Nat.le_of_ble_eq_true rfl)⟩ ⟨(by show n1 + 0 + 0 ≤ 603072; omega), (by show n2 + 0 + 0 ≤ 7215209; omega)⟩ ?_
  refine q_nrm 872 [.int (F_X9_runningCount σ).1, .int (F_X8_runningCount σ)] (n1 + 0 + 0) (n2 + 0 + 0) rfl rfl rfl rfl ?_
  refine q_go C tk_lw11 [(4, 1)] [true] (pc1 := 2654) (σ1 := (F_X9_runningCount σ).2) (lv1 := [(0, .ref 239), (1, .ref 220), (2, .ref 229), (3, .ref 237), (4, .ref 238), (5, .int (nI i))]) (st1 := []) rfl ⟨he, trivial⟩ ?_
  exact q_widen (by omega) (by omega) kk
def tb_lw12 : List q_E := [(877, .aload_n 1, 1, 0, 0), (878, .invokevirtual 202, 3, 0, 0), (881, .aload_n 2, 1, 0, 0), (882, .invokevirtual 206, 3, 0, 0), (885, .if_icmp .eq 1769, 3, 0, 2654), (888, .iconst 0, 1, 0, 0), (889, .ireturn, 1, 0, 0)]
set_option maxRecDepth 100000 in
theorem tk_lw12 : q_tb code 9 tb_lw12 = true := by decide +kernel
def sim_isStarted (σ : q_M) : Prop := P_X8_isStarted σ ∧ (F_X8_isStarted σ) = (F_X9_isStarted σ).1
def to_isStarted (σ : q_M) : q_M := (F_X9_isStarted σ).2
set_option maxRecDepth 100000 in
set_option maxHeartbeats 2000000 in
theorem lw_isStarted {α β : Nat → Nat} {D : va_G} {κ : Nat → ClassId} {p : Program} {l : Launch} {e : Env} {s : State} {m : MethodId} {args : Array Value} {below : List Frame} {meth : Method} {c : Code} {A : Nat → Prop} {Q : State → Prop} {n1 n2 : Nat} (C : q_Cx α β D κ p s m args meth c code RL (fun _ => none) (fun _ => none) 9 A) (hfl : l.flags = flags0) {i : Nat} (hn : n1 + 12 ≤ 600000) (hn2 : n2 + 2000 ≤ 7000000) (σ : q_M) (hs : sim_isStarted σ) (kk : q_St α β D κ p l e room_1 s m args below meth c 9 A Q (n1 + 12) (n2 + 2000) (to_isStarted σ) [(0, .ref 239), (1, .ref 220), (2, .ref 229), (3, .ref 237), (4, .ref 238), (5, .int (nI i))] 2654 []) : q_St α β D κ p l e room_1 s m args below meth c 9 A Q n1 n2 σ [(0, .ref 239), (1, .ref 220), (2, .ref 229), (3, .ref 237), (4, .ref 238), (5, .int (nI i))] 877 [] := by
  obtain ⟨h8, he⟩ := hs
  refine q_go C tk_lw12 [(0, 1)] [] (pc1 := 878) (σ1 := σ) (lv1 := [(0, .ref 239), (1, .ref 220), (2, .ref 229), (3, .ref 237), (4, .ref 238), (5, .int (nI i))]) (st1 := [.ref 220]) rfl trivial ?_
  refine q_callV C hfl mw_X8_isStarted mi_X8_isStarted me_X8_isStarted lk_L_202 (k_X8_isStarted σ h8) (rest := []) rfl rfl rfl (by decide) (by decide) rfl (q_dc (z := (878, .invokevirtual 202, 3, 0, 0)) tk_lw12 1 rfl) (Nat.le_of_ble_eq_true rfl) ⟨(Nat.le_of_ble_eq_true rfl), (Nat.le_of_ble_eq_true rfl)⟩ ⟨(by show n1 + 0 ≤ 603072; omega), (by show n2 + 0 ≤ 7215209; omega)⟩ ?_
  refine q_nrm 881 [.int (F_X8_isStarted σ)] (n1 + 0) (n2 + 0) rfl rfl rfl rfl ?_
  refine q_go C tk_lw12 [(2, 1)] [] (pc1 := 882) (σ1 := σ) (lv1 := [(0, .ref 239), (1, .ref 220), (2, .ref 229), (3, .ref 237), (4, .ref 238), (5, .int (nI i))]) (st1 := [.ref 229, .int (F_X8_isStarted σ)]) rfl trivial ?_
  refine q_callV C hfl mw_X9_isStarted mi_X9_isStarted me_X9_isStarted lk_L_206 (k_X9_isStarted σ) (rest := [.int (F_X8_isStarted σ)]) rfl rfl rfl (by decide) (by decide) rfl (q_dc (z := (882, .invokevirtual 206, 3, 0, 0)) tk_lw12 3 rfl) (Nat.le_of_ble_eq_true rfl) ⟨(Nat.le_of_ble_eq_true rfl), (Nat.le_of_ble_eq_true rfl)⟩ ⟨(by show n1 + 0 + 0 ≤ 603072; omega), (by show n2 + 0 + 0 ≤ 7215209; omega)⟩ ?_
  refine q_nrm 885 [.int (F_X9_isStarted σ).1, .int (F_X8_isStarted σ)] (n1 + 0 + 0) (n2 + 0 + 0) rfl rfl rfl rfl ?_
  refine q_go C tk_lw12 [(4, 1)] [true] (pc1 := 2654) (σ1 := (F_X9_isStarted σ).2) (lv1 := [(0, .ref 239), (1, .ref 220), (2, .ref 229), (3, .ref 237), (4, .ref 238), (5, .int (nI i))]) (st1 := []) rfl ⟨he, trivial⟩ ?_
  exact q_widen (by omega) (by omega) kk
def tb_lw13 : List q_E := [(890, .aload_n 1, 1, 0, 0), (891, .invokevirtual 207, 3, 0, 0), (894, .aload_n 2, 1, 0, 0), (895, .invokevirtual 210, 3, 0, 0), (898, .if_icmp .eq 1756, 3, 0, 2654), (901, .iconst 0, 1, 0, 0), (902, .ireturn, 1, 0, 0)]
set_option maxRecDepth 100000 in
theorem tk_lw13 : q_tb code 9 tb_lw13 = true := by decide +kernel
def sim_isFinished (σ : q_M) : Prop := P_X8_isFinished σ ∧ P_X9_isFinished σ ∧ (F_X8_isFinished σ) = (F_X9_isFinished σ).1
def to_isFinished (σ : q_M) : q_M := (F_X9_isFinished σ).2
set_option maxRecDepth 100000 in
set_option maxHeartbeats 2000000 in
theorem lw_isFinished {α β : Nat → Nat} {D : va_G} {κ : Nat → ClassId} {p : Program} {l : Launch} {e : Env} {s : State} {m : MethodId} {args : Array Value} {below : List Frame} {meth : Method} {c : Code} {A : Nat → Prop} {Q : State → Prop} {n1 n2 : Nat} (C : q_Cx α β D κ p s m args meth c code RL (fun _ => none) (fun _ => none) 9 A) (hfl : l.flags = flags0) {i : Nat} (hn : n1 + 12 ≤ 600000) (hn2 : n2 + 2000 ≤ 7000000) (σ : q_M) (hs : sim_isFinished σ) (kk : q_St α β D κ p l e room_1 s m args below meth c 9 A Q (n1 + 12) (n2 + 2000) (to_isFinished σ) [(0, .ref 239), (1, .ref 220), (2, .ref 229), (3, .ref 237), (4, .ref 238), (5, .int (nI i))] 2654 []) : q_St α β D κ p l e room_1 s m args below meth c 9 A Q n1 n2 σ [(0, .ref 239), (1, .ref 220), (2, .ref 229), (3, .ref 237), (4, .ref 238), (5, .int (nI i))] 890 [] := by
  obtain ⟨h8, h9, he⟩ := hs
  refine q_go C tk_lw13 [(0, 1)] [] (pc1 := 891) (σ1 := σ) (lv1 := [(0, .ref 239), (1, .ref 220), (2, .ref 229), (3, .ref 237), (4, .ref 238), (5, .int (nI i))]) (st1 := [.ref 220]) rfl trivial ?_
  refine q_callV C hfl mw_X8_isFinished mi_X8_isFinished me_X8_isFinished lk_L_207 (k_X8_isFinished σ h8) (rest := []) rfl rfl rfl (by decide) (by decide) rfl (q_dc (z := (891, .invokevirtual 207, 3, 0, 0)) tk_lw13 1 rfl) (Nat.le_of_ble_eq_true rfl) ⟨(Nat.le_of_ble_eq_true rfl), (Nat.le_of_ble_eq_true rfl)⟩ ⟨(by show n1 + 0 ≤ 603072; omega), (by show n2 + 0 ≤ 7215209; omega)⟩ ?_
  refine q_nrm 894 [.int (F_X8_isFinished σ)] (n1 + 0) (n2 + 0) rfl rfl rfl rfl ?_
  refine q_go C tk_lw13 [(2, 1)] [] (pc1 := 895) (σ1 := σ) (lv1 := [(0, .ref 239), (1, .ref 220), (2, .ref 229), (3, .ref 237), (4, .ref 238), (5, .int (nI i))]) (st1 := [.ref 229, .int (F_X8_isFinished σ)]) rfl trivial ?_
  refine q_callV C hfl mw_X9_isFinished mi_X9_isFinished me_X9_isFinished lk_L_210 (k_X9_isFinished σ h9) (rest := [.int (F_X8_isFinished σ)]) rfl rfl rfl (by decide) (by decide) rfl (q_dc (z := (895, .invokevirtual 210, 3, 0, 0)) tk_lw13 3 rfl) (Nat.le_of_ble_eq_true rfl) ⟨(Nat.le_of_ble_eq_true rfl), (Nat.le_of_ble_eq_true rfl)⟩ ⟨(by show n1 + 0 + 0 ≤ 603072; omega), (by show n2 + 0 + 0 ≤ 7215209; omega)⟩ ?_
  refine q_nrm 898 [.int (F_X9_isFinished σ).1, .int (F_X8_isFinished σ)] (n1 + 0 + 0) (n2 + 0 + 0) rfl rfl rfl rfl ?_
  refine q_go C tk_lw13 [(4, 1)] [true] (pc1 := 2654) (σ1 := (F_X9_isFinished σ).2) (lv1 := [(0, .ref 239), (1, .ref 220), (2, .ref 229), (3, .ref 237), (4, .ref 238), (5, .int (nI i))]) (st1 := []) rfl ⟨he, trivial⟩ ?_
  exact q_widen (by omega) (by omega) kk
