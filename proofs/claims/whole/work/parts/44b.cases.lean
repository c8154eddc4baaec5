/-! The law's loop: more cases (b). -/
def tb_lw14 : List q_E := [(903, .aload_n 1, 1, 0, 0), (904, .invokevirtual 211, 3, 0, 0), (907, .aload_n 2, 1, 0, 0), (908, .invokevirtual 214, 3, 0, 0), (911, .if_icmp .eq 1743, 3, 0, 2654), (914, .iconst 0, 1, 0, 0), (915, .ireturn, 1, 0, 0)]
set_option maxRecDepth 100000 in
theorem tk_lw14 : q_tb code 9 tb_lw14 = true := by decide +kernel
def sim_clock (σ : q_M) : Prop := (F_X8_clock σ) = (F_X9_clock σ).1
def to_clock (σ : q_M) : q_M := (F_X9_clock σ).2
set_option maxRecDepth 100000 in
set_option maxHeartbeats 2000000 in
theorem lw_clock {α β : Nat → Nat} {D : va_G} {κ : Nat → ClassId} {p : Program} {l : Launch} {e : Env} {s : State} {m : MethodId} {args : Array Value} {below : List Frame} {meth : Method} {c : Code} {A : Nat → Prop} {Q : State → Prop} {n1 n2 : Nat} (C : q_Cx α β D κ p s m args meth c code RL (fun _ => none) (fun _ => none) 9 A) (hfl : l.flags = flags0) {i : Nat} (hn : n1 + 12 ≤ 600000) (hn2 : n2 + 2000 ≤ 7000000) (σ : q_M) (hs : sim_clock σ) (kk : q_St α β D κ p l e room_1 s m args below meth c 9 A Q (n1 + 12) (n2 + 2000) (to_clock σ) [(0, .ref 239), (1, .ref 220), (2, .ref 229), (3, .ref 237), (4, .ref 238), (5, .int (nI i))] 2654 []) : q_St α β D κ p l e room_1 s m args below meth c 9 A Q n1 n2 σ [(0, .ref 239), (1, .ref 220), (2, .ref 229), (3, .ref 237), (4, .ref 238), (5, .int (nI i))] 903 [] := by
  have he : (F_X8_clock σ) = (F_X9_clock σ).1 := hs
  refine q_go C tk_lw14 [(0, 1)] [] (pc1 := 904) (σ1 := σ) (lv1 := [(0, .ref 239), (1, .ref 220), (2, .ref 229), (3, .ref 237), (4, .ref 238), (5, .int (nI i))]) (st1 := [.ref 220]) rfl trivial ?_
  refine q_callV C hfl mw_X8_clock mi_X8_clock me_X8_clock lk_L_211 (k_X8_clock σ) (rest := []) rfl rfl rfl (by decide) (by decide) rfl (q_dc (z := (904, .invokevirtual 211, 3, 0, 0)) tk_lw14 1 rfl) (Nat.le_of_ble_eq_true rfl) ⟨(Nat.le_of_ble_eq_true rfl), (Nat.le_of_ble_eq_true rfl)⟩ ⟨(by show n1 + 0 ≤ 603072; omega), (by show n2 + 0 ≤ 7215209; omega)⟩ ?_
  refine q_nrm 907 [.int (F_X8_clock σ)] (n1 + 0) (n2 + 0) rfl rfl rfl rfl ?_
  refine q_go C tk_lw14 [(2, 1)] [] (pc1 := 908) (σ1 := σ) (lv1 := [(0, .ref 239), (1, .ref 220), (2, .ref 229), (3, .ref 237), (4, .ref 238), (5, .int (nI i))]) (st1 := [.ref 229, .int (F_X8_clock σ)]) rfl trivial ?_
  refine q_callV C hfl mw_X9_clock mi_X9_clock me_X9_clock lk_L_214 (k_X9_clock σ) (rest := [.int (F_X8_clock σ)]) rfl rfl rfl (by decide) (by decide) rfl (q_dc (z := (908, .invokevirtual 214, 3, 0, 0)) tk_lw14 3 rfl) (Nat.le_of_ble_eq_true rfl) ⟨(Nat.le_of_ble_eq_true rfl), (Nat.le_of_ble_eq_true rfl)⟩ ⟨(by show n1 + 0 + 0 ≤ 603072; omega), (by show n2 + 0 + 0 ≤ 7215209; omega)⟩ ?_
  refine q_nrm 911 [.int (F_X9_clock σ).1, .int (F_X8_clock σ)] (n1 + 0 + 0) (n2 + 0 + 0) rfl rfl rfl rfl ?_
  refine q_go C tk_lw14 [(4, 1)] [true] (pc1 := 2654) (σ1 := (F_X9_clock σ).2) (lv1 := [(0, .ref 239), (1, .ref 220), (2, .ref 229), (3, .ref 237), (4, .ref 238), (5, .int (nI i))]) (st1 := []) rfl ⟨he, trivial⟩ ?_
  exact q_widen (by omega) (by omega) kk
def tb_lw15 : List q_E := [(916, .aload_n 1, 1, 0, 0), (917, .invokevirtual 215, 3, 0, 0), (920, .aload_n 2, 1, 0, 0), (921, .invokevirtual 218, 3, 0, 0), (924, .if_icmp .eq 1730, 3, 0, 2654), (927, .iconst 0, 1, 0, 0), (928, .ireturn, 1, 0, 0)]
set_option maxRecDepth 100000 in
theorem tk_lw15 : q_tb code 9 tb_lw15 = true := by decide +kernel
def sim_length (σ : q_M) : Prop := (F_X8_length σ) = (F_X9_length σ).1
def to_length (σ : q_M) : q_M := (F_X9_length σ).2
set_option maxRecDepth 100000 in
set_option maxHeartbeats 2000000 in
theorem lw_length {α β : Nat → Nat} {D : va_G} {κ : Nat → ClassId} {p : Program} {l : Launch} {e : Env} {s : State} {m : MethodId} {args : Array Value} {below : List Frame} {meth : Method} {c : Code} {A : Nat → Prop} {Q : State → Prop} {n1 n2 : Nat} (C : q_Cx α β D κ p s m args meth c code RL (fun _ => none) (fun _ => none) 9 A) (hfl : l.flags = flags0) {i : Nat} (hn : n1 + 12 ≤ 600000) (hn2 : n2 + 2000 ≤ 7000000) (σ : q_M) (hs : sim_length σ) (kk : q_St α β D κ p l e room_1 s m args below meth c 9 A Q (n1 + 12) (n2 + 2000) (to_length σ) [(0, .ref 239), (1, .ref 220), (2, .ref 229), (3, .ref 237), (4, .ref 238), (5, .int (nI i))] 2654 []) : q_St α β D κ p l e room_1 s m args below meth c 9 A Q n1 n2 σ [(0, .ref 239), (1, .ref 220), (2, .ref 229), (3, .ref 237), (4, .ref 238), (5, .int (nI i))] 916 [] := by
  have he : (F_X8_length σ) = (F_X9_length σ).1 := hs
  refine q_go C tk_lw15 [(0, 1)] [] (pc1 := 917) (σ1 := σ) (lv1 := [(0, .ref 239), (1, .ref 220), (2, .ref 229), (3, .ref 237), (4, .ref 238), (5, .int (nI i))]) (st1 := [.ref 220]) rfl trivial ?_
  refine q_callV C hfl mw_X8_length mi_X8_length me_X8_length lk_L_215 (k_X8_length σ) (rest := []) rfl rfl rfl (by decide) (by decide) rfl (q_dc (z := (917, .invokevirtual 215, 3, 0, 0)) tk_lw15 1 rfl) (Nat.le_of_ble_eq_true rfl) ⟨(Nat.le_of_ble_eq_true rfl), (Nat.le_of_ble_eq_true rfl)⟩ ⟨(by show n1 + 0 ≤ 603072; omega), (by show n2 + 0 ≤ 7215209; omega)⟩ ?_
  refine q_nrm 920 [.int (F_X8_length σ)] (n1 + 0) (n2 + 0) rfl rfl rfl rfl ?_
  refine q_go C tk_lw15 [(2, 1)] [] (pc1 := 921) (σ1 := σ) (lv1 := [(0, .ref 239), (1, .ref 220), (2, .ref 229), (3, .ref 237), (4, .ref 238), (5, .int (nI i))]) (st1 := [.ref 229, .int (F_X8_length σ)]) rfl trivial ?_
  refine q_callV C hfl mw_X9_length mi_X9_length me_X9_length lk_L_218 (k_X9_length σ) (rest := [.int (F_X8_length σ)]) rfl rfl rfl (by decide) (by decide) rfl (q_dc (z := (921, .invokevirtual 218, 3, 0, 0)) tk_lw15 3 rfl) (Nat.le_of_ble_eq_true rfl) ⟨(Nat.le_of_ble_eq_true rfl), (Nat.le_of_ble_eq_true rfl)⟩ ⟨(by show n1 + 0 + 0 ≤ 603072; omega), (by show n2 + 0 + 0 ≤ 7215209; omega)⟩ ?_
  refine q_nrm 924 [.int (F_X9_length σ).1, .int (F_X8_length σ)] (n1 + 0 + 0) (n2 + 0 + 0) rfl rfl rfl rfl ?_
  refine q_go C tk_lw15 [(4, 1)] [true] (pc1 := 2654) (σ1 := (F_X9_length σ).2) (lv1 := [(0, .ref 239), (1, .ref 220), (2, .ref 229), (3, .ref 237), (4, .ref 238), (5, .int (nI i))]) (st1 := []) rfl ⟨he, trivial⟩ ?_
  exact q_widen (by omega) (by omega) kk
def tb_lw16 : List q_E := [(929, .aload_n 1, 1, 0, 0), (930, .aload_n 0, 1, 0, 0), (931, .iload 5, 2, 0, 0), (933, .iconst 1, 1, 1, 0), (934, .iadd, 1, 0, 0), (935, .iaload, 1, 0, 0), (936, .aload_n 3, 1, 0, 0), (937, .invokestatic 219, 3, 0, 0), (940, .istore 6, 2, 0, 0), (942, .aload_n 2, 1, 0, 0), (943, .aload_n 0, 1, 0, 0), (944, .iload 5, 2, 0, 0), (946, .iconst 1, 1, 1, 0), (947, .iadd, 1, 0, 0), (948, .iaload, 1, 0, 0), (949, .invokevirtual 221, 3, 0, 0), (952, .istore 7, 2, 0, 0), (954, .aload_n 2, 1, 0, 0), (955, .invokevirtual 161, 3, 0, 0), (958, .iload 6, 2, 0, 0), (960, .if_icmp .eq 5, 3, 0, 965), (963, .iconst 0, 1, 0, 0), (964, .ireturn, 1, 0, 0), (965, .iload 6, 2, 0, 0), (967, .ifCond .ne 15, 3, 0, 982), (970, .aload_n 3, 1, 0, 0), (971, .iconst 0, 1, 0, 0), (972, .laload, 1, 0, 0), (973, .iload 7, 2, 0, 0), (975, .i2l, 1, 0, 0), (976, .lcmp, 1, 0, 0), (977, .ifCond .eq 5, 3, 0, 982), (980, .iconst 0, 1, 0, 0), (981, .ireturn, 1, 0, 0), (982, .goto 1672, 3, 0, 2654)]
set_option maxRecDepth 100000 in
theorem tk_lw16 : q_tb code 9 tb_lw16 = true := by decide +kernel
def sim_laneOf (g0 : Int32) (σ : q_M) : Prop := q_SimI (fun σ => (∀ E, (F_X8_laneOf g0 σ) = .inr E → E ∈ nx_laneOf)) (fun σ => P_X9_laneOf g0 σ) (W_laneOf g0) (F_X9_laneOf g0) σ
def to_laneOf (g0 : Int32) (σ : q_M) : q_M := (F_X9_laneOf g0 (W_laneOf g0 σ).2).2
set_option maxRecDepth 100000 in
theorem cw_laneOf : Cond.codeWith yL_laneOf cL_laneOf 4 (some .int) hh_L_laneOf ∈ q_W := q_t3 226 rfl rfl
set_option maxRecDepth 100000 in
theorem sw_laneOf : Cond.static yL_laneOf ∈ q_W := q_t3 225 rfl rfl
set_option maxRecDepth 100000 in
theorem lw_ln_laneOf : Cond.methodLink RL 219 yL_laneOf ∈ q_W := q_t3 224 rfl rfl
set_option maxRecDepth 100000 in
set_option maxHeartbeats 2000000 in
theorem lw_laneOf {α β : Nat → Nat} {D : va_G} {κ : Nat → ClassId} {p : Program} {l : Launch} {e : Env} {s : State} {m : MethodId} {args : Array Value} {below : List Frame} {meth : Method} {c : Code} {A : Nat → Prop} {Q : State → Prop} {n1 n2 : Nat} (C : q_Cx α β D κ p s m args meth c code RL (fun _ => none) (fun _ => none) 9 A) (hfl : l.flags = flags0) {L : Nat} {xs : Nat → Int32} (hX : q_scr α s A L xs) {i : Nat} (hi : i + 4 ≤ L) (hL : L ≤ 2048) (hn : n1 + 12 ≤ 600000) (hn2 : n2 + 2000 ≤ 7000000) (σ : q_M) (hs : sim_laneOf (xs (i + 1)) σ) (kk : q_St α β D κ p l e room_1 s m args below meth c 9 A Q (n1 + 12) (n2 + 2000) (to_laneOf (xs (i + 1)) σ) [(0, .ref 239), (1, .ref 220), (2, .ref 229), (3, .ref 237), (4, .ref 238), (5, .int (nI i))] 2654 []) : q_St α β D κ p l e room_1 s m args below meth c 9 A Q n1 n2 σ [(0, .ref 239), (1, .ref 220), (2, .ref 229), (3, .ref 237), (4, .ref 238), (5, .int (nI i))] 929 [] := by
  obtain ⟨hPW, hPF, ht, ho⟩ := hs
  have hE := hPW
  refine q_go C tk_lw16 [(0, 1)] [] (pc1 := 930) (σ1 := σ) (lv1 := [(0, .ref 239), (1, .ref 220), (2, .ref 229), (3, .ref 237), (4, .ref 238), (5, .int (nI i))]) (st1 := [.ref 220]) rfl trivial ?_
  refine q_go C tk_lw16 [(1, 4)] [] (pc1 := 935) (σ1 := σ) (lv1 := [(0, .ref 239), (1, .ref 220), (2, .ref 229), (3, .ref 237), (4, .ref 238), (5, .int (nI i))]) (st1 := [.int (nI i + 1), .ref 239, .ref 220]) rfl trivial ?_
  refine q_sld C hX (j := i + 1) (nI_add i 1) (by omega) hL (q_dc (z := (935, .iaload, 1, 0, 0)) tk_lw16 5 rfl) ?_
  refine q_nrm 936 [.int (xs (i + 1)), .ref 220] _ _ rfl rfl rfl rfl ?_
  refine q_go C tk_lw16 [(6, 1)] [] (pc1 := 937) (σ1 := σ) (lv1 := [(0, .ref 239), (1, .ref 220), (2, .ref 229), (3, .ref 237), (4, .ref 238), (5, .int (nI i))]) (st1 := [.ref 237, .int (xs (i + 1)), .ref 220]) rfl trivial ?_
  refine q_callW (n := 3) C hfl cw_laneOf (by decide +kernel) q_init_L sw_laneOf lw_ln_laneOf (As := [.ref 220, .int (xs (i + 1)), .ref 237]) (kw_laneOf (xs (i + 1)) σ hE) (rest := []) rfl rfl (q_dc (z := (937, .invokestatic 219, 3, 0, 0)) tk_lw16 7 rfl) (Nat.le_of_ble_eq_true rfl) ⟨(Nat.le_of_ble_eq_true rfl), (Nat.le_of_ble_eq_true rfl)⟩ ⟨(by show n1 + 1 ≤ 603072; omega), (by show n2 + 6 ≤ 7215209; omega)⟩ ?_
  refine q_nrm 940 [.int (W_laneOf (xs (i + 1)) σ).1] (n1 + 1) (n2 + 6) rfl rfl rfl rfl ?_
  generalize hk9 : (W_laneOf (xs (i + 1)) σ).1 = k9 at ht ho ⊢
  refine q_go C tk_lw16 [(8, 2)] [] (pc1 := 943) (σ1 := (W_laneOf (xs (i + 1)) σ).2) (lv1 := (6, .int k9) :: [(0, .ref 239), (1, .ref 220), (2, .ref 229), (3, .ref 237), (4, .ref 238), (5, .int (nI i))]) (st1 := [.ref 229]) rfl trivial ?_
  refine q_go C tk_lw16 [(10, 4)] [] (pc1 := 948) (σ1 := (W_laneOf (xs (i + 1)) σ).2) (lv1 := ((6, .int k9) :: [(0, .ref 239), (1, .ref 220), (2, .ref 229), (3, .ref 237), (4, .ref 238), (5, .int (nI i))])) (st1 := [.int (nI i + 1), .ref 239, .ref 229]) rfl trivial ?_
  refine q_sld C hX (j := i + 1) (nI_add i 1) (by omega) hL (q_dc (z := (948, .iaload, 1, 0, 0)) tk_lw16 14 rfl) ?_
  refine q_nrm 949 [.int (xs (i + 1)), .ref 229] _ _ rfl rfl rfl rfl ?_
  refine q_callV C hfl mw_X9_laneOf mi_X9_laneOf me_X9_laneOf lk_L_221 (k_X9_laneOf (xs (i + 1)) (W_laneOf (xs (i + 1)) σ).2 hPF) (rest := []) rfl rfl rfl (by decide) (by decide) rfl (q_dc (z := (949, .invokevirtual 221, 3, 0, 0)) tk_lw16 15 rfl) (Nat.le_of_ble_eq_true rfl) ⟨(Nat.le_of_ble_eq_true rfl), (Nat.le_of_ble_eq_true rfl)⟩ ⟨(by show n1 + 1 + 0 ≤ 603072; omega), (by show n2 + 6 + 0 ≤ 7215209; omega)⟩ ?_
  refine q_nrm 952 [.int (F_X9_laneOf (xs (i + 1)) (W_laneOf (xs (i + 1)) σ).2).1] (n1 + 1) (n2 + 6) rfl rfl rfl rfl ?_
  generalize hb9 : (F_X9_laneOf (xs (i + 1)) (W_laneOf (xs (i + 1)) σ).2).1 = b9 at ho ⊢
  unfold to_laneOf at kk
  generalize ht9 : (F_X9_laneOf (xs (i + 1)) (W_laneOf (xs (i + 1)) σ).2).2 = τ at ht ho kk ⊢
  refine q_go C tk_lw16 [(16, 2)] [] (pc1 := 955) (σ1 := τ) (lv1 := (7, .int b9) :: ((6, .int k9) :: [(0, .ref 239), (1, .ref 220), (2, .ref 229), (3, .ref 237), (4, .ref 238), (5, .int (nI i))])) (st1 := [.ref 229]) rfl trivial ?_
  refine q_callV C hfl mw_X9_thrown mi_X9_thrown me_X9_thrown lk_L_161 (k_X9_thrown τ) (rest := []) rfl rfl rfl (by decide) (by decide) rfl (q_dc (z := (955, .invokevirtual 161, 3, 0, 0)) tk_lw16 18 rfl) (Nat.le_of_ble_eq_true rfl) ⟨(Nat.le_of_ble_eq_true rfl), (Nat.le_of_ble_eq_true rfl)⟩ ⟨(by show n1 + 1 + 0 ≤ 603072; omega), (by show n2 + 6 + 0 ≤ 7215209; omega)⟩ ?_
  refine q_nrm 958 [.int (F_X9_thrown τ)] (n1 + 1) (n2 + 6) rfl rfl rfl rfl ?_
  refine q_go C tk_lw16 [(19, 2)] [true] (pc1 := 965) (σ1 := τ) (lv1 := ((7, .int b9) :: (6, .int k9) :: [(0, .ref 239), (1, .ref 220), (2, .ref 229), (3, .ref 237), (4, .ref 238), (5, .int (nI i))])) (st1 := []) rfl ⟨(by unfold F_X9_thrown; exact ht), trivial⟩ ?_
  by_cases c0 : k9 = 0
  · have ho := ho c0
    refine q_go C tk_lw16 [(23, 8)] [false] (pc1 := 977) (σ1 := τ) (lv1 := ((7, .int b9) :: (6, .int k9) :: [(0, .ref 239), (1, .ref 220), (2, .ref 229), (3, .ref 237), (4, .ref 238), (5, .int (nI i))])) (st1 := [.int (lg_cmp (τ 237 0).toInt64 b9.toInt64)]) rfl ⟨c0, rfl, (by unfold vp_in; decide), trivial⟩ ?_
    refine q_go C tk_lw16 [(31, 1), (34, 1)] [true] (pc1 := 2654) (σ1 := τ) (lv1 := ((7, .int b9) :: (6, .int k9) :: [(0, .ref 239), (1, .ref 220), (2, .ref 229), (3, .ref 237), (4, .ref 238), (5, .int (nI i))])) (st1 := []) rfl ⟨(by rw [ho]; exact q_cmp0 _), trivial⟩ ?_
    refine q_widen (k := n1 + 12) (n := n2 + 2000) (by omega) (by omega) ?_
    exact q_lvpick [2, 3, 4, 5, 6, 7] rfl kk
  · refine q_go C tk_lw16 [(23, 2), (34, 1)] [true] (pc1 := 2654) (σ1 := τ) (lv1 := ((7, .int b9) :: (6, .int k9) :: [(0, .ref 239), (1, .ref 220), (2, .ref 229), (3, .ref 237), (4, .ref 238), (5, .int (nI i))])) (st1 := []) rfl ⟨c0, trivial⟩ ?_
    refine q_widen (k := n1 + 12) (n := n2 + 2000) (by omega) (by omega) ?_
    exact q_lvpick [2, 3, 4, 5, 6, 7] rfl kk
def tb_lw17 : List q_E := [(985, .aload_n 1, 1, 0, 0), (986, .aload_n 0, 1, 0, 0), (987, .iload 5, 2, 0, 0), (989, .iconst 1, 1, 1, 0), (990, .iadd, 1, 0, 0), (991, .iaload, 1, 0, 0), (992, .aload_n 3, 1, 0, 0), (993, .invokestatic 222, 3, 0, 0), (996, .istore 6, 2, 0, 0), (998, .aload_n 2, 1, 0, 0), (999, .aload_n 0, 1, 0, 0), (1000, .iload 5, 2, 0, 0), (1002, .iconst 1, 1, 1, 0), (1003, .iadd, 1, 0, 0), (1004, .iaload, 1, 0, 0), (1005, .invokevirtual 224, 3, 0, 0), (1008, .istore 7, 2, 0, 0), (1010, .aload_n 2, 1, 0, 0), (1011, .invokevirtual 161, 3, 0, 0), (1014, .iload 6, 2, 0, 0), (1016, .if_icmp .eq 5, 3, 0, 1021), (1019, .iconst 0, 1, 0, 0), (1020, .ireturn, 1, 0, 0), (1021, .iload 6, 2, 0, 0), (1023, .ifCond .ne 15, 3, 0, 1038), (1026, .aload_n 3, 1, 0, 0), (1027, .iconst 0, 1, 0, 0), (1028, .laload, 1, 0, 0), (1029, .iload 7, 2, 0, 0), (1031, .i2l, 1, 0, 0), (1032, .lcmp, 1, 0, 0), (1033, .ifCond .eq 5, 3, 0, 1038), (1036, .iconst 0, 1, 0, 0), (1037, .ireturn, 1, 0, 0), (1038, .goto 1616, 3, 0, 2654)]
set_option maxRecDepth 100000 in
theorem tk_lw17 : q_tb code 9 tb_lw17 = true := by decide +kernel
def sim_teamInLane (g0 : Int32) (σ : q_M) : Prop := q_SimI (fun σ => P_X8_teamInLane g0 σ ∧ (∀ E, (F_X8_teamInLane g0 σ) = .inr E → E ∈ nx_teamInLane)) (fun σ => P_X9_teamInLane g0 σ) (W_teamInLane g0) (F_X9_teamInLane g0) σ
def to_teamInLane (g0 : Int32) (σ : q_M) : q_M := (F_X9_teamInLane g0 (W_teamInLane g0 σ).2).2
set_option maxRecDepth 100000 in
theorem cw_teamInLane : Cond.codeWith yL_teamInLane cL_teamInLane 4 (some .int) hh_L_teamInLane ∈ q_W := q_t3 233 rfl rfl
set_option maxRecDepth 100000 in
theorem sw_teamInLane : Cond.static yL_teamInLane ∈ q_W := q_t3 232 rfl rfl
set_option maxRecDepth 100000 in
theorem lw_ln_teamInLane : Cond.methodLink RL 222 yL_teamInLane ∈ q_W := q_t3 231 rfl rfl
set_option maxRecDepth 100000 in
set_option maxHeartbeats 2000000 in
theorem lw_teamInLane {α β : Nat → Nat} {D : va_G} {κ : Nat → ClassId} {p : Program} {l : Launch} {e : Env} {s : State} {m : MethodId} {args : Array Value} {below : List Frame} {meth : Method} {c : Code} {A : Nat → Prop} {Q : State → Prop} {n1 n2 : Nat} (C : q_Cx α β D κ p s m args meth c code RL (fun _ => none) (fun _ => none) 9 A) (hfl : l.flags = flags0) {L : Nat} {xs : Nat → Int32} (hX : q_scr α s A L xs) {i : Nat} (hi : i + 4 ≤ L) (hL : L ≤ 2048) (hn : n1 + 12 ≤ 600000) (hn2 : n2 + 2000 ≤ 7000000) (σ : q_M) (hs : sim_teamInLane (xs (i + 1)) σ) (kk : q_St α β D κ p l e room_1 s m args below meth c 9 A Q (n1 + 12) (n2 + 2000) (to_teamInLane (xs (i + 1)) σ) [(0, .ref 239), (1, .ref 220), (2, .ref 229), (3, .ref 237), (4, .ref 238), (5, .int (nI i))] 2654 []) : q_St α β D κ p l e room_1 s m args below meth c 9 A Q n1 n2 σ [(0, .ref 239), (1, .ref 220), (2, .ref 229), (3, .ref 237), (4, .ref 238), (5, .int (nI i))] 985 [] := by
  obtain ⟨hPW, hPF, ht, ho⟩ := hs
  obtain ⟨hPW, hE⟩ := hPW
  refine q_go C tk_lw17 [(0, 1)] [] (pc1 := 986) (σ1 := σ) (lv1 := [(0, .ref 239), (1, .ref 220), (2, .ref 229), (3, .ref 237), (4, .ref 238), (5, .int (nI i))]) (st1 := [.ref 220]) rfl trivial ?_
  refine q_go C tk_lw17 [(1, 4)] [] (pc1 := 991) (σ1 := σ) (lv1 := [(0, .ref 239), (1, .ref 220), (2, .ref 229), (3, .ref 237), (4, .ref 238), (5, .int (nI i))]) (st1 := [.int (nI i + 1), .ref 239, .ref 220]) rfl trivial ?_
  refine q_sld C hX (j := i + 1) (nI_add i 1) (by omega) hL (q_dc (z := (991, .iaload, 1, 0, 0)) tk_lw17 5 rfl) ?_
  refine q_nrm 992 [.int (xs (i + 1)), .ref 220] _ _ rfl rfl rfl rfl ?_
  refine q_go C tk_lw17 [(6, 1)] [] (pc1 := 993) (σ1 := σ) (lv1 := [(0, .ref 239), (1, .ref 220), (2, .ref 229), (3, .ref 237), (4, .ref 238), (5, .int (nI i))]) (st1 := [.ref 237, .int (xs (i + 1)), .ref 220]) rfl trivial ?_
  refine q_callW (n := 3) C hfl cw_teamInLane (by decide +kernel) q_init_L sw_teamInLane lw_ln_teamInLane (As := [.ref 220, .int (xs (i + 1)), .ref 237]) (kw_teamInLane (xs (i + 1)) σ hPW hE) (rest := []) rfl rfl (q_dc (z := (993, .invokestatic 222, 3, 0, 0)) tk_lw17 7 rfl) (Nat.le_of_ble_eq_true rfl) ⟨(Nat.le_of_ble_eq_true rfl), (Nat.le_of_ble_eq_true rfl)⟩ ⟨(by show n1 + 1 ≤ 603072; omega), (by show n2 + 6 ≤ 7215209; omega)⟩ ?_
  refine q_nrm 996 [.int (W_teamInLane (xs (i + 1)) σ).1] (n1 + 1) (n2 + 6) rfl rfl rfl rfl ?_
  generalize hk9 : (W_teamInLane (xs (i + 1)) σ).1 = k9 at ht ho ⊢
  refine q_go C tk_lw17 [(8, 2)] [] (pc1 := 999) (σ1 := (W_teamInLane (xs (i + 1)) σ).2) (lv1 := (6, .int k9) :: [(0, .ref 239), (1, .ref 220), (2, .ref 229), (3, .ref 237), (4, .ref 238), (5, .int (nI i))]) (st1 := [.ref 229]) rfl trivial ?_
  refine q_go C tk_lw17 [(10, 4)] [] (pc1 := 1004) (σ1 := (W_teamInLane (xs (i + 1)) σ).2) (lv1 := ((6, .int k9) :: [(0, .ref 239), (1, .ref 220), (2, .ref 229), (3, .ref 237), (4, .ref 238), (5, .int (nI i))])) (st1 := [.int (nI i + 1), .ref 239, .ref 229]) rfl trivial ?_
  refine q_sld C hX (j := i + 1) (nI_add i 1) (by omega) hL (q_dc (z := (1004, .iaload, 1, 0, 0)) tk_lw17 14 rfl) ?_
  refine q_nrm 1005 [.int (xs (i + 1)), .ref 229] _ _ rfl rfl rfl rfl ?_
  refine q_callV C hfl mw_X9_teamInLane mi_X9_teamInLane me_X9_teamInLane lk_L_224 (k_X9_teamInLane (xs (i + 1)) (W_teamInLane (xs (i + 1)) σ).2 hPF) (rest := []) rfl rfl rfl (by decide) (by decide) rfl (q_dc (z := (1005, .invokevirtual 224, 3, 0, 0)) tk_lw17 15 rfl) (Nat.le_of_ble_eq_true rfl) ⟨(Nat.le_of_ble_eq_true rfl), (Nat.le_of_ble_eq_true rfl)⟩ ⟨(by show n1 + 1 + 0 ≤ 603072; omega), (by show n2 + 6 + 0 ≤ 7215209; omega)⟩ ?_
  refine q_nrm 1008 [.int (F_X9_teamInLane (xs (i + 1)) (W_teamInLane (xs (i + 1)) σ).2).1] (n1 + 1) (n2 + 6) rfl rfl rfl rfl ?_
  generalize hb9 : (F_X9_teamInLane (xs (i + 1)) (W_teamInLane (xs (i + 1)) σ).2).1 = b9 at ho ⊢
  unfold to_teamInLane at kk
  generalize ht9 : (F_X9_teamInLane (xs (i + 1)) (W_teamInLane (xs (i + 1)) σ).2).2 = τ at ht ho kk ⊢
  refine q_go C tk_lw17 [(16, 2)] [] (pc1 := 1011) (σ1 := τ) (lv1 := (7, .int b9) :: ((6, .int k9) :: [(0, .ref 239), (1, .ref 220), (2, .ref 229), (3, .ref 237), (4, .ref 238), (5, .int (nI i))])) (st1 := [.ref 229]) rfl trivial ?_
  refine q_callV C hfl mw_X9_thrown mi_X9_thrown me_X9_thrown lk_L_161 (k_X9_thrown τ) (rest := []) rfl rfl rfl (by decide) (by decide) rfl (q_dc (z := (1011, .invokevirtual 161, 3, 0, 0)) tk_lw17 18 rfl) (Nat.le_of_ble_eq_true rfl) ⟨(Nat.le_of_ble_eq_true rfl), (Nat.le_of_ble_eq_true rfl)⟩ ⟨(by show n1 + 1 + 0 ≤ 603072; omega), (by show n2 + 6 + 0 ≤ 7215209; omega)⟩ ?_
  refine q_nrm 1014 [.int (F_X9_thrown τ)] (n1 + 1) (n2 + 6) rfl rfl rfl rfl ?_
  refine q_go C tk_lw17 [(19, 2)] [true] (pc1 := 1021) (σ1 := τ) (lv1 := ((7, .int b9) :: (6, .int k9) :: [(0, .ref 239), (1, .ref 220), (2, .ref 229), (3, .ref 237), (4, .ref 238), (5, .int (nI i))])) (st1 := []) rfl ⟨(by unfold F_X9_thrown; exact ht), trivial⟩ ?_
  by_cases c0 : k9 = 0
  · have ho := ho c0
    refine q_go C tk_lw17 [(23, 8)] [false] (pc1 := 1033) (σ1 := τ) (lv1 := ((7, .int b9) :: (6, .int k9) :: [(0, .ref 239), (1, .ref 220), (2, .ref 229), (3, .ref 237), (4, .ref 238), (5, .int (nI i))])) (st1 := [.int (lg_cmp (τ 237 0).toInt64 b9.toInt64)]) rfl ⟨c0, rfl, (by unfold vp_in; decide), trivial⟩ ?_
    refine q_go C tk_lw17 [(31, 1), (34, 1)] [true] (pc1 := 2654) (σ1 := τ) (lv1 := ((7, .int b9) :: (6, .int k9) :: [(0, .ref 239), (1, .ref 220), (2, .ref 229), (3, .ref 237), (4, .ref 238), (5, .int (nI i))])) (st1 := []) rfl ⟨(by rw [ho]; exact q_cmp0 _), trivial⟩ ?_
    refine q_widen (k := n1 + 12) (n := n2 + 2000) (by omega) (by omega) ?_
    exact q_lvpick [2, 3, 4, 5, 6, 7] rfl kk
  · refine q_go C tk_lw17 [(23, 2), (34, 1)] [true] (pc1 := 2654) (σ1 := τ) (lv1 := ((7, .int b9) :: (6, .int k9) :: [(0, .ref 239), (1, .ref 220), (2, .ref 229), (3, .ref 237), (4, .ref 238), (5, .int (nI i))])) (st1 := []) rfl ⟨c0, trivial⟩ ?_
    refine q_widen (k := n1 + 12) (n := n2 + 2000) (by omega) (by omega) ?_
    exact q_lvpick [2, 3, 4, 5, 6, 7] rfl kk
def tb_lw18 : List q_E := [(1041, .aload_n 1, 1, 0, 0), (1042, .aload_n 0, 1, 0, 0), (1043, .iload 5, 2, 0, 0), (1045, .iconst 1, 1, 1, 0), (1046, .iadd, 1, 0, 0), (1047, .iaload, 1, 0, 0), (1048, .aload_n 0, 1, 0, 0), (1049, .iload 5, 2, 0, 0), (1051, .iconst 2, 1, 2, 0), (1052, .iadd, 1, 0, 0), (1053, .iaload, 1, 0, 0), (1054, .aload_n 3, 1, 0, 0), (1055, .invokestatic 225, 3, 0, 0), (1058, .istore 6, 2, 0, 0), (1060, .aload_n 2, 1, 0, 0), (1061, .aload_n 0, 1, 0, 0), (1062, .iload 5, 2, 0, 0), (1064, .iconst 1, 1, 1, 0), (1065, .iadd, 1, 0, 0), (1066, .iaload, 1, 0, 0), (1067, .aload_n 0, 1, 0, 0), (1068, .iload 5, 2, 0, 0), (1070, .iconst 2, 1, 2, 0), (1071, .iadd, 1, 0, 0), (1072, .iaload, 1, 0, 0), (1073, .invokevirtual 227, 3, 0, 0), (1076, .istore 7, 2, 0, 0), (1078, .aload_n 2, 1, 0, 0), (1079, .invokevirtual 161, 3, 0, 0), (1082, .iload 6, 2, 0, 0), (1084, .if_icmp .eq 5, 3, 0, 1089), (1087, .iconst 0, 1, 0, 0), (1088, .ireturn, 1, 0, 0), (1089, .iload 6, 2, 0, 0), (1091, .ifCond .ne 15, 3, 0, 1106), (1094, .aload_n 3, 1, 0, 0), (1095, .iconst 0, 1, 0, 0), (1096, .laload, 1, 0, 0), (1097, .iload 7, 2, 0, 0), (1099, .i2l, 1, 0, 0), (1100, .lcmp, 1, 0, 0), (1101, .ifCond .eq 5, 3, 0, 1106), (1104, .iconst 0, 1, 0, 0), (1105, .ireturn, 1, 0, 0), (1106, .goto 1548, 3, 0, 2654)]
set_option maxRecDepth 100000 in
theorem tk_lw18 : q_tb code 9 tb_lw18 = true := by decide +kernel
def sim_speedOf (g0 : Int32) (g1 : Int32) (σ : q_M) : Prop := q_SimI (fun σ => P_X8_speedOf g0 g1 σ ∧ (∀ E, (F_X8_speedOf g0 g1 σ) = .inr E → E ∈ nx_speedOf)) (fun σ => P_X9_speedOf g0 g1 σ) (W_speedOf g0 g1) (F_X9_speedOf g0 g1) σ
def to_speedOf (g0 : Int32) (g1 : Int32) (σ : q_M) : q_M := (F_X9_speedOf g0 g1 (W_speedOf g0 g1 σ).2).2
set_option maxRecDepth 100000 in
theorem cw_speedOf : Cond.codeWith yL_speedOf cL_speedOf 5 (some .int) hh_L_speedOf ∈ q_W := q_t4 21 rfl rfl
set_option maxRecDepth 100000 in
theorem sw_speedOf : Cond.static yL_speedOf ∈ q_W := q_t4 20 rfl rfl
set_option maxRecDepth 100000 in
theorem lw_ln_speedOf : Cond.methodLink RL 225 yL_speedOf ∈ q_W := q_t4 19 rfl rfl
set_option maxRecDepth 100000 in
set_option maxHeartbeats 2000000 in
theorem lw_speedOf {α β : Nat → Nat} {D : va_G} {κ : Nat → ClassId} {p : Program} {l : Launch} {e : Env} {s : State} {m : MethodId} {args : Array Value} {below : List Frame} {meth : Method} {c : Code} {A : Nat → Prop} {Q : State → Prop} {n1 n2 : Nat} (C : q_Cx α β D κ p s m args meth c code RL (fun _ => none) (fun _ => none) 9 A) (hfl : l.flags = flags0) {L : Nat} {xs : Nat → Int32} (hX : q_scr α s A L xs) {i : Nat} (hi : i + 4 ≤ L) (hL : L ≤ 2048) (hn : n1 + 12 ≤ 600000) (hn2 : n2 + 2000 ≤ 7000000) (σ : q_M) (hs : sim_speedOf (xs (i + 1)) (xs (i + 2)) σ) (kk : q_St α β D κ p l e room_1 s m args below meth c 9 A Q (n1 + 12) (n2 + 2000) (to_speedOf (xs (i + 1)) (xs (i + 2)) σ) [(0, .ref 239), (1, .ref 220), (2, .ref 229), (3, .ref 237), (4, .ref 238), (5, .int (nI i))] 2654 []) : q_St α β D κ p l e room_1 s m args below meth c 9 A Q n1 n2 σ [(0, .ref 239), (1, .ref 220), (2, .ref 229), (3, .ref 237), (4, .ref 238), (5, .int (nI i))] 1041 [] := by
  obtain ⟨hPW, hPF, ht, ho⟩ := hs
  obtain ⟨hPW, hE⟩ := hPW
  refine q_go C tk_lw18 [(0, 1)] [] (pc1 := 1042) (σ1 := σ) (lv1 := [(0, .ref 239), (1, .ref 220), (2, .ref 229), (3, .ref 237), (4, .ref 238), (5, .int (nI i))]) (st1 := [.ref 220]) rfl trivial ?_
  refine q_go C tk_lw18 [(1, 4)] [] (pc1 := 1047) (σ1 := σ) (lv1 := [(0, .ref 239), (1, .ref 220), (2, .ref 229), (3, .ref 237), (4, .ref 238), (5, .int (nI i))]) (st1 := [.int (nI i + 1), .ref 239, .ref 220]) rfl trivial ?_
  refine q_sld C hX (j := i + 1) (nI_add i 1) (by omega) hL (q_dc (z := (1047, .iaload, 1, 0, 0)) tk_lw18 5 rfl) ?_
  refine q_nrm 1048 [.int (xs (i + 1)), .ref 220] _ _ rfl rfl rfl rfl ?_
  refine q_go C tk_lw18 [(6, 4)] [] (pc1 := 1053) (σ1 := σ) (lv1 := [(0, .ref 239), (1, .ref 220), (2, .ref 229), (3, .ref 237), (4, .ref 238), (5, .int (nI i))]) (st1 := [.int (nI i + 2), .ref 239, .int (xs (i + 1)), .ref 220]) rfl trivial ?_
  refine q_sld C hX (j := i + 2) (nI_add i 2) (by omega) hL (q_dc (z := (1053, .iaload, 1, 0, 0)) tk_lw18 10 rfl) ?_
  refine q_nrm 1054 [.int (xs (i + 2)), .int (xs (i + 1)), .ref 220] _ _ rfl rfl rfl rfl ?_
  refine q_go C tk_lw18 [(11, 1)] [] (pc1 := 1055) (σ1 := σ) (lv1 := [(0, .ref 239), (1, .ref 220), (2, .ref 229), (3, .ref 237), (4, .ref 238), (5, .int (nI i))]) (st1 := [.ref 237, .int (xs (i + 2)), .int (xs (i + 1)), .ref 220]) rfl trivial ?_
  refine q_callW (n := 4) C hfl cw_speedOf (by decide +kernel) q_init_L sw_speedOf lw_ln_speedOf (As := [.ref 220, .int (xs (i + 1)), .int (xs (i + 2)), .ref 237]) (kw_speedOf (xs (i + 1)) (xs (i + 2)) σ hPW hE) (rest := []) rfl rfl (q_dc (z := (1055, .invokestatic 225, 3, 0, 0)) tk_lw18 12 rfl) (Nat.le_of_ble_eq_true rfl) ⟨(Nat.le_of_ble_eq_true rfl), (Nat.le_of_ble_eq_true rfl)⟩ ⟨(by show n1 + 2 ≤ 603072; omega), (by show n2 + 12 ≤ 7215209; omega)⟩ ?_
  refine q_nrm 1058 [.int (W_speedOf (xs (i + 1)) (xs (i + 2)) σ).1] (n1 + 2) (n2 + 12) rfl rfl rfl rfl ?_
  generalize hk9 : (W_speedOf (xs (i + 1)) (xs (i + 2)) σ).1 = k9 at ht ho ⊢
  refine q_go C tk_lw18 [(13, 2)] [] (pc1 := 1061) (σ1 := (W_speedOf (xs (i + 1)) (xs (i + 2)) σ).2) (lv1 := (6, .int k9) :: [(0, .ref 239), (1, .ref 220), (2, .ref 229), (3, .ref 237), (4, .ref 238), (5, .int (nI i))]) (st1 := [.ref 229]) rfl trivial ?_
  refine q_go C tk_lw18 [(15, 4)] [] (pc1 := 1066) (σ1 := (W_speedOf (xs (i + 1)) (xs (i + 2)) σ).2) (lv1 := ((6, .int k9) :: [(0, .ref 239), (1, .ref 220), (2, .ref 229), (3, .ref 237), (4, .ref 238), (5, .int (nI i))])) (st1 := [.int (nI i + 1), .ref 239, .ref 229]) rfl trivial ?_
  refine q_sld C hX (j := i + 1) (nI_add i 1) (by omega) hL (q_dc (z := (1066, .iaload, 1, 0, 0)) tk_lw18 19 rfl) ?_
  refine q_nrm 1067 [.int (xs (i + 1)), .ref 229] _ _ rfl rfl rfl rfl ?_
  refine q_go C tk_lw18 [(20, 4)] [] (pc1 := 1072) (σ1 := (W_speedOf (xs (i + 1)) (xs (i + 2)) σ).2) (lv1 := ((6, .int k9) :: [(0, .ref 239), (1, .ref 220), (2, .ref 229), (3, .ref 237), (4, .ref 238), (5, .int (nI i))])) (st1 := [.int (nI i + 2), .ref 239, .int (xs (i + 1)), .ref 229]) rfl trivial ?_
  refine q_sld C hX (j := i + 2) (nI_add i 2) (by omega) hL (q_dc (z := (1072, .iaload, 1, 0, 0)) tk_lw18 24 rfl) ?_
  refine q_nrm 1073 [.int (xs (i + 2)), .int (xs (i + 1)), .ref 229] _ _ rfl rfl rfl rfl ?_
  refine q_callV C hfl mw_X9_speedOf mi_X9_speedOf me_X9_speedOf lk_L_227 (k_X9_speedOf (xs (i + 1)) (xs (i + 2)) (W_speedOf (xs (i + 1)) (xs (i + 2)) σ).2 hPF) (rest := []) rfl rfl rfl (by decide) (by decide) rfl (q_dc (z := (1073, .invokevirtual 227, 3, 0, 0)) tk_lw18 25 rfl) (Nat.le_of_ble_eq_true rfl) ⟨(Nat.le_of_ble_eq_true rfl), (Nat.le_of_ble_eq_true rfl)⟩ ⟨(by show n1 + 2 + 0 ≤ 603072; omega), (by show n2 + 12 + 0 ≤ 7215209; omega)⟩ ?_
  refine q_nrm 1076 [.int (F_X9_speedOf (xs (i + 1)) (xs (i + 2)) (W_speedOf (xs (i + 1)) (xs (i + 2)) σ).2).1] (n1 + 2) (n2 + 12) rfl rfl rfl rfl ?_
  generalize hb9 : (F_X9_speedOf (xs (i + 1)) (xs (i + 2)) (W_speedOf (xs (i + 1)) (xs (i + 2)) σ).2).1 = b9 at ho ⊢
  unfold to_speedOf at kk
  generalize ht9 : (F_X9_speedOf (xs (i + 1)) (xs (i + 2)) (W_speedOf (xs (i + 1)) (xs (i + 2)) σ).2).2 = τ at ht ho kk ⊢
  refine q_go C tk_lw18 [(26, 2)] [] (pc1 := 1079) (σ1 := τ) (lv1 := (7, .int b9) :: ((6, .int k9) :: [(0, .ref 239), (1, .ref 220), (2, .ref 229), (3, .ref 237), (4, .ref 238), (5, .int (nI i))])) (st1 := [.ref 229]) rfl trivial ?_
  refine q_callV C hfl mw_X9_thrown mi_X9_thrown me_X9_thrown lk_L_161 (k_X9_thrown τ) (rest := []) rfl rfl rfl (by decide) (by decide) rfl (q_dc (z := (1079, .invokevirtual 161, 3, 0, 0)) tk_lw18 28 rfl) (Nat.le_of_ble_eq_true rfl) ⟨(Nat.le_of_ble_eq_true rfl), (Nat.le_of_ble_eq_true rfl)⟩ ⟨(by show n1 + 2 + 0 ≤ 603072; omega), (by show n2 + 12 + 0 ≤ 7215209; omega)⟩ ?_
  refine q_nrm 1082 [.int (F_X9_thrown τ)] (n1 + 2) (n2 + 12) rfl rfl rfl rfl ?_
  refine q_go C tk_lw18 [(29, 2)] [true] (pc1 := 1089) (σ1 := τ) (lv1 := ((7, .int b9) :: (6, .int k9) :: [(0, .ref 239), (1, .ref 220), (2, .ref 229), (3, .ref 237), (4, .ref 238), (5, .int (nI i))])) (st1 := []) rfl ⟨(by unfold F_X9_thrown; exact ht), trivial⟩ ?_
  by_cases c0 : k9 = 0
  · have ho := ho c0
    refine q_go C tk_lw18 [(33, 8)] [false] (pc1 := 1101) (σ1 := τ) (lv1 := ((7, .int b9) :: (6, .int k9) :: [(0, .ref 239), (1, .ref 220), (2, .ref 229), (3, .ref 237), (4, .ref 238), (5, .int (nI i))])) (st1 := [.int (lg_cmp (τ 237 0).toInt64 b9.toInt64)]) rfl ⟨c0, rfl, (by unfold vp_in; decide), trivial⟩ ?_
    refine q_go C tk_lw18 [(41, 1), (44, 1)] [true] (pc1 := 2654) (σ1 := τ) (lv1 := ((7, .int b9) :: (6, .int k9) :: [(0, .ref 239), (1, .ref 220), (2, .ref 229), (3, .ref 237), (4, .ref 238), (5, .int (nI i))])) (st1 := []) rfl ⟨(by rw [ho]; exact q_cmp0 _), trivial⟩ ?_
    refine q_widen (k := n1 + 12) (n := n2 + 2000) (by omega) (by omega) ?_
    exact q_lvpick [2, 3, 4, 5, 6, 7] rfl kk
  · refine q_go C tk_lw18 [(33, 2), (44, 1)] [true] (pc1 := 2654) (σ1 := τ) (lv1 := ((7, .int b9) :: (6, .int k9) :: [(0, .ref 239), (1, .ref 220), (2, .ref 229), (3, .ref 237), (4, .ref 238), (5, .int (nI i))])) (st1 := []) rfl ⟨c0, trivial⟩ ?_
    refine q_widen (k := n1 + 12) (n := n2 + 2000) (by omega) (by omega) ?_
    exact q_lvpick [2, 3, 4, 5, 6, 7] rfl kk
def tb_lw19 : List q_E := [(1109, .aload_n 1, 1, 0, 0), (1110, .aload_n 0, 1, 0, 0), (1111, .iload 5, 2, 0, 0), (1113, .iconst 1, 1, 1, 0), (1114, .iadd, 1, 0, 0), (1115, .iaload, 1, 0, 0), (1116, .aload_n 3, 1, 0, 0), (1117, .invokestatic 228, 3, 0, 0), (1120, .istore 6, 2, 0, 0), (1122, .aload_n 2, 1, 0, 0), (1123, .aload_n 0, 1, 0, 0), (1124, .iload 5, 2, 0, 0), (1126, .iconst 1, 1, 1, 0), (1127, .iadd, 1, 0, 0), (1128, .iaload, 1, 0, 0), (1129, .invokevirtual 230, 3, 0, 0), (1132, .istore 7, 2, 0, 0), (1134, .aload_n 2, 1, 0, 0), (1135, .invokevirtual 161, 3, 0, 0), (1138, .iload 6, 2, 0, 0), (1140, .if_icmp .eq 5, 3, 0, 1145), (1143, .iconst 0, 1, 0, 0), (1144, .ireturn, 1, 0, 0), (1145, .iload 6, 2, 0, 0), (1147, .ifCond .ne 15, 3, 0, 1162), (1150, .aload_n 3, 1, 0, 0), (1151, .iconst 0, 1, 0, 0), (1152, .laload, 1, 0, 0), (1153, .iload 7, 2, 0, 0), (1155, .i2l, 1, 0, 0), (1156, .lcmp, 1, 0, 0), (1157, .ifCond .eq 5, 3, 0, 1162), (1160, .iconst 0, 1, 0, 0), (1161, .ireturn, 1, 0, 0), (1162, .goto 1492, 3, 0, 2654)]
set_option maxRecDepth 100000 in
theorem tk_lw19 : q_tb code 9 tb_lw19 = true := by decide +kernel
def sim_positionOf (g0 : Int32) (σ : q_M) : Prop := q_SimI (fun σ => (∀ E, (F_X8_positionOf g0 σ) = .inr E → E ∈ nx_positionOf)) (fun σ => P_X9_positionOf g0 σ) (W_positionOf g0) (F_X9_positionOf g0) σ
def to_positionOf (g0 : Int32) (σ : q_M) : q_M := (F_X9_positionOf g0 (W_positionOf g0 σ).2).2
set_option maxRecDepth 100000 in
theorem cw_positionOf : Cond.codeWith yL_positionOf cL_positionOf 4 (some .int) hh_L_positionOf ∈ q_W := q_t4 38 rfl rfl
set_option maxRecDepth 100000 in
theorem sw_positionOf : Cond.static yL_positionOf ∈ q_W := q_t4 37 rfl rfl
set_option maxRecDepth 100000 in
theorem lw_ln_positionOf : Cond.methodLink RL 228 yL_positionOf ∈ q_W := q_t4 36 rfl rfl
set_option maxRecDepth 100000 in
set_option maxHeartbeats 2000000 in
theorem lw_positionOf {α β : Nat → Nat} {D : va_G} {κ : Nat → ClassId} {p : Program} {l : Launch} {e : Env} {s : State} {m : MethodId} {args : Array Value} {below : List Frame} {meth : Method} {c : Code} {A : Nat → Prop} {Q : State → Prop} {n1 n2 : Nat} (C : q_Cx α β D κ p s m args meth c code RL (fun _ => none) (fun _ => none) 9 A) (hfl : l.flags = flags0) {L : Nat} {xs : Nat → Int32} (hX : q_scr α s A L xs) {i : Nat} (hi : i + 4 ≤ L) (hL : L ≤ 2048) (hn : n1 + 12 ≤ 600000) (hn2 : n2 + 2000 ≤ 7000000) (σ : q_M) (hs : sim_positionOf (xs (i + 1)) σ) (kk : q_St α β D κ p l e room_1 s m args below meth c 9 A Q (n1 + 12) (n2 + 2000) (to_positionOf (xs (i + 1)) σ) [(0, .ref 239), (1, .ref 220), (2, .ref 229), (3, .ref 237), (4, .ref 238), (5, .int (nI i))] 2654 []) : q_St α β D κ p l e room_1 s m args below meth c 9 A Q n1 n2 σ [(0, .ref 239), (1, .ref 220), (2, .ref 229), (3, .ref 237), (4, .ref 238), (5, .int (nI i))] 1109 [] := by
  obtain ⟨hPW, hPF, ht, ho⟩ := hs
  have hE := hPW
  refine q_go C tk_lw19 [(0, 1)] [] (pc1 := 1110) (σ1 := σ) (lv1 := [(0, .ref 239), (1, .ref 220), (2, .ref 229), (3, .ref 237), (4, .ref 238), (5, .int (nI i))]) (st1 := [.ref 220]) rfl trivial ?_
  refine q_go C tk_lw19 [(1, 4)] [] (pc1 := 1115) (σ1 := σ) (lv1 := [(0, .ref 239), (1, .ref 220), (2, .ref 229), (3, .ref 237), (4, .ref 238), (5, .int (nI i))]) (st1 := [.int (nI i + 1), .ref 239, .ref 220]) rfl trivial ?_
  refine q_sld C hX (j := i + 1) (nI_add i 1) (by omega) hL (q_dc (z := (1115, .iaload, 1, 0, 0)) tk_lw19 5 rfl) ?_
  refine q_nrm 1116 [.int (xs (i + 1)), .ref 220] _ _ rfl rfl rfl rfl ?_
  refine q_go C tk_lw19 [(6, 1)] [] (pc1 := 1117) (σ1 := σ) (lv1 := [(0, .ref 239), (1, .ref 220), (2, .ref 229), (3, .ref 237), (4, .ref 238), (5, .int (nI i))]) (st1 := [.ref 237, .int (xs (i + 1)), .ref 220]) rfl trivial ?_
  refine q_callW (n := 3) C hfl cw_positionOf (by decide +kernel) q_init_L sw_positionOf lw_ln_positionOf (As := [.ref 220, .int (xs (i + 1)), .ref 237]) (kw_positionOf (xs (i + 1)) σ hE) (rest := []) rfl rfl (q_dc (z := (1117, .invokestatic 228, 3, 0, 0)) tk_lw19 7 rfl) (Nat.le_of_ble_eq_true rfl) ⟨(Nat.le_of_ble_eq_true rfl), (Nat.le_of_ble_eq_true rfl)⟩ ⟨(by show n1 + 1 ≤ 603072; omega), (by show n2 + 6 ≤ 7215209; omega)⟩ ?_
  refine q_nrm 1120 [.int (W_positionOf (xs (i + 1)) σ).1] (n1 + 1) (n2 + 6) rfl rfl rfl rfl ?_
  generalize hk9 : (W_positionOf (xs (i + 1)) σ).1 = k9 at ht ho ⊢
  refine q_go C tk_lw19 [(8, 2)] [] (pc1 := 1123) (σ1 := (W_positionOf (xs (i + 1)) σ).2) (lv1 := (6, .int k9) :: [(0, .ref 239), (1, .ref 220), (2, .ref 229), (3, .ref 237), (4, .ref 238), (5, .int (nI i))]) (st1 := [.ref 229]) rfl trivial ?_
  refine q_go C tk_lw19 [(10, 4)] [] (pc1 := 1128) (σ1 := (W_positionOf (xs (i + 1)) σ).2) (lv1 := ((6, .int k9) :: [(0, .ref 239), (1, .ref 220), (2, .ref 229), (3, .ref 237), (4, .ref 238), (5, .int (nI i))])) (st1 := [.int (nI i + 1), .ref 239, .ref 229]) rfl trivial ?_
  refine q_sld C hX (j := i + 1) (nI_add i 1) (by omega) hL (q_dc (z := (1128, .iaload, 1, 0, 0)) tk_lw19 14 rfl) ?_
  refine q_nrm 1129 [.int (xs (i + 1)), .ref 229] _ _ rfl rfl rfl rfl ?_
  refine q_callV C hfl mw_X9_positionOf mi_X9_positionOf me_X9_positionOf lk_L_230 (k_X9_positionOf (xs (i + 1)) (W_positionOf (xs (i + 1)) σ).2 hPF) (rest := []) rfl rfl rfl (by decide) (by decide) rfl (q_dc (z := (1129, .invokevirtual 230, 3, 0, 0)) tk_lw19 15 rfl) (Nat.le_of_ble_eq_true rfl) ⟨(Nat.le_of_ble_eq_true rfl), (Nat.le_of_ble_eq_true rfl)⟩ ⟨(by show n1 + 1 + 0 ≤ 603072; omega), (by show n2 + 6 + 0 ≤ 7215209; omega)⟩ ?_
  refine q_nrm 1132 [.int (F_X9_positionOf (xs (i + 1)) (W_positionOf (xs (i + 1)) σ).2).1] (n1 + 1) (n2 + 6) rfl rfl rfl rfl ?_
  generalize hb9 : (F_X9_positionOf (xs (i + 1)) (W_positionOf (xs (i + 1)) σ).2).1 = b9 at ho ⊢
  unfold to_positionOf at kk
  generalize ht9 : (F_X9_positionOf (xs (i + 1)) (W_positionOf (xs (i + 1)) σ).2).2 = τ at ht ho kk ⊢
  refine q_go C tk_lw19 [(16, 2)] [] (pc1 := 1135) (σ1 := τ) (lv1 := (7, .int b9) :: ((6, .int k9) :: [(0, .ref 239), (1, .ref 220), (2, .ref 229), (3, .ref 237), (4, .ref 238), (5, .int (nI i))])) (st1 := [.ref 229]) rfl trivial ?_
  refine q_callV C hfl mw_X9_thrown mi_X9_thrown me_X9_thrown lk_L_161 (k_X9_thrown τ) (rest := []) rfl rfl rfl (by decide) (by decide) rfl (q_dc (z := (1135, .invokevirtual 161, 3, 0, 0)) tk_lw19 18 rfl) (Nat.le_of_ble_eq_true rfl) ⟨(Nat.le_of_ble_eq_true rfl), (Nat.le_of_ble_eq_true rfl)⟩ ⟨(by show n1 + 1 + 0 ≤ 603072; omega), (by show n2 + 6 + 0 ≤ 7215209; omega)⟩ ?_
  refine q_nrm 1138 [.int (F_X9_thrown τ)] (n1 + 1) (n2 + 6) rfl rfl rfl rfl ?_
  refine q_go C tk_lw19 [(19, 2)] [true] (pc1 := 1145) (σ1 := τ) (lv1 := ((7, .int b9) :: (6, .int k9) :: [(0, .ref 239), (1, .ref 220), (2, .ref 229), (3, .ref 237), (4, .ref 238), (5, .int (nI i))])) (st1 := []) rfl ⟨(by unfold F_X9_thrown; exact ht), trivial⟩ ?_
  by_cases c0 : k9 = 0
  · have ho := ho c0
    refine q_go C tk_lw19 [(23, 8)] [false] (pc1 := 1157) (σ1 := τ) (lv1 := ((7, .int b9) :: (6, .int k9) :: [(0, .ref 239), (1, .ref 220), (2, .ref 229), (3, .ref 237), (4, .ref 238), (5, .int (nI i))])) (st1 := [.int (lg_cmp (τ 237 0).toInt64 b9.toInt64)]) rfl ⟨c0, rfl, (by unfold vp_in; decide), trivial⟩ ?_
    refine q_go C tk_lw19 [(31, 1), (34, 1)] [true] (pc1 := 2654) (σ1 := τ) (lv1 := ((7, .int b9) :: (6, .int k9) :: [(0, .ref 239), (1, .ref 220), (2, .ref 229), (3, .ref 237), (4, .ref 238), (5, .int (nI i))])) (st1 := []) rfl ⟨(by rw [ho]; exact q_cmp0 _), trivial⟩ ?_
    refine q_widen (k := n1 + 12) (n := n2 + 2000) (by omega) (by omega) ?_
    exact q_lvpick [2, 3, 4, 5, 6, 7] rfl kk
  · refine q_go C tk_lw19 [(23, 2), (34, 1)] [true] (pc1 := 2654) (σ1 := τ) (lv1 := ((7, .int b9) :: (6, .int k9) :: [(0, .ref 239), (1, .ref 220), (2, .ref 229), (3, .ref 237), (4, .ref 238), (5, .int (nI i))])) (st1 := []) rfl ⟨c0, trivial⟩ ?_
    refine q_widen (k := n1 + 12) (n := n2 + 2000) (by omega) (by omega) ?_
    exact q_lvpick [2, 3, 4, 5, 6, 7] rfl kk
def tb_lw20 : List q_E := [(1165, .aload_n 1, 1, 0, 0), (1166, .aload_n 0, 1, 0, 0), (1167, .iload 5, 2, 0, 0), (1169, .iconst 1, 1, 1, 0), (1170, .iadd, 1, 0, 0), (1171, .iaload, 1, 0, 0), (1172, .aload_n 3, 1, 0, 0), (1173, .invokestatic 231, 3, 0, 0), (1176, .istore 6, 2, 0, 0), (1178, .aload_n 2, 1, 0, 0), (1179, .aload_n 0, 1, 0, 0), (1180, .iload 5, 2, 0, 0), (1182, .iconst 1, 1, 1, 0), (1183, .iadd, 1, 0, 0), (1184, .iaload, 1, 0, 0), (1185, .invokevirtual 233, 3, 0, 0), (1188, .istore 7, 2, 0, 0), (1190, .aload_n 2, 1, 0, 0), (1191, .invokevirtual 161, 3, 0, 0), (1194, .iload 6, 2, 0, 0), (1196, .if_icmp .eq 5, 3, 0, 1201), (1199, .iconst 0, 1, 0, 0), (1200, .ireturn, 1, 0, 0), (1201, .iload 6, 2, 0, 0), (1203, .ifCond .ne 15, 3, 0, 1218), (1206, .aload_n 3, 1, 0, 0), (1207, .iconst 0, 1, 0, 0), (1208, .laload, 1, 0, 0), (1209, .iload 7, 2, 0, 0), (1211, .i2l, 1, 0, 0), (1212, .lcmp, 1, 0, 0), (1213, .ifCond .eq 5, 3, 0, 1218), (1216, .iconst 0, 1, 0, 0), (1217, .ireturn, 1, 0, 0), (1218, .goto 1436, 3, 0, 2654)]
set_option maxRecDepth 100000 in
theorem tk_lw20 : q_tb code 9 tb_lw20 = true := by decide +kernel
def sim_legOf (g0 : Int32) (σ : q_M) : Prop := q_SimI (fun σ => (∀ E, (F_X8_legOf g0 σ) = .inr E → E ∈ nx_legOf)) (fun σ => P_X9_legOf g0 σ) (W_legOf g0) (F_X9_legOf g0) σ
def to_legOf (g0 : Int32) (σ : q_M) : q_M := (F_X9_legOf g0 (W_legOf g0 σ).2).2
set_option maxRecDepth 100000 in
theorem cw_legOf : Cond.codeWith yL_legOf cL_legOf 4 (some .int) hh_L_legOf ∈ q_W := q_t4 45 rfl rfl
set_option maxRecDepth 100000 in
theorem sw_legOf : Cond.static yL_legOf ∈ q_W := q_t4 44 rfl rfl
set_option maxRecDepth 100000 in
theorem lw_ln_legOf : Cond.methodLink RL 231 yL_legOf ∈ q_W := q_t4 43 rfl rfl
set_option maxRecDepth 100000 in
set_option maxHeartbeats 2000000 in
theorem lw_legOf {α β : Nat → Nat} {D : va_G} {κ : Nat → ClassId} {p : Program} {l : Launch} {e : Env} {s : State} {m : MethodId} {args : Array Value} {below : List Frame} {meth : Method} {c : Code} {A : Nat → Prop} {Q : State → Prop} {n1 n2 : Nat} (C : q_Cx α β D κ p s m args meth c code RL (fun _ => none) (fun _ => none) 9 A) (hfl : l.flags = flags0) {L : Nat} {xs : Nat → Int32} (hX : q_scr α s A L xs) {i : Nat} (hi : i + 4 ≤ L) (hL : L ≤ 2048) (hn : n1 + 12 ≤ 600000) (hn2 : n2 + 2000 ≤ 7000000) (σ : q_M) (hs : sim_legOf (xs (i + 1)) σ) (kk : q_St α β D κ p l e room_1 s m args below meth c 9 A Q (n1 + 12) (n2 + 2000) (to_legOf (xs (i + 1)) σ) [(0, .ref 239), (1, .ref 220), (2, .ref 229), (3, .ref 237), (4, .ref 238), (5, .int (nI i))] 2654 []) : q_St α β D κ p l e room_1 s m args below meth c 9 A Q n1 n2 σ [(0, .ref 239), (1, .ref 220), (2, .ref 229), (3, .ref 237), (4, .ref 238), (5, .int (nI i))] 1165 [] := by
  obtain ⟨hPW, hPF, ht, ho⟩ := hs
  have hE := hPW
  refine q_go C tk_lw20 [(0, 1)] [] (pc1 := 1166) (σ1 := σ) (lv1 := [(0, .ref 239), (1, .ref 220), (2, .ref 229), (3, .ref 237), (4, .ref 238), (5, .int (nI i))]) (st1 := [.ref 220]) rfl trivial ?_
  refine q_go C tk_lw20 [(1, 4)] [] (pc1 := 1171) (σ1 := σ) (lv1 := [(0, .ref 239), (1, .ref 220), (2, .ref 229), (3, .ref 237), (4, .ref 238), (5, .int (nI i))]) (st1 := [.int (nI i + 1), .ref 239, .ref 220]) rfl trivial ?_
  refine q_sld C hX (j := i + 1) (nI_add i 1) (by omega) hL (q_dc (z := (1171, .iaload, 1, 0, 0)) tk_lw20 5 rfl) ?_
  refine q_nrm 1172 [.int (xs (i + 1)), .ref 220] _ _ rfl rfl rfl rfl ?_
  refine q_go C tk_lw20 [(6, 1)] [] (pc1 := 1173) (σ1 := σ) (lv1 := [(0, .ref 239), (1, .ref 220), (2, .ref 229), (3, .ref 237), (4, .ref 238), (5, .int (nI i))]) (st1 := [.ref 237, .int (xs (i + 1)), .ref 220]) rfl trivial ?_
  refine q_callW (n := 3) C hfl cw_legOf (by decide +kernel) q_init_L sw_legOf lw_ln_legOf (As := [.ref 220, .int (xs (i + 1)), .ref 237]) (kw_legOf (xs (i + 1)) σ hE) (rest := []) rfl rfl (q_dc (z := (1173, .invokestatic 231, 3, 0, 0)) tk_lw20 7 rfl) (Nat.le_of_ble_eq_true rfl) ⟨(Nat.le_of_ble_eq_true rfl), (Nat.le_of_ble_eq_true rfl)⟩ ⟨(by show n1 + 1 ≤ 603072; omega), (by show n2 + 6 ≤ 7215209; omega)⟩ ?_
  refine q_nrm 1176 [.int (W_legOf (xs (i + 1)) σ).1] (n1 + 1) (n2 + 6) rfl rfl rfl rfl ?_
  generalize hk9 : (W_legOf (xs (i + 1)) σ).1 = k9 at ht ho ⊢
  refine q_go C tk_lw20 [(8, 2)] [] (pc1 := 1179) (σ1 := (W_legOf (xs (i + 1)) σ).2) (lv1 := (6, .int k9) :: [(0, .ref 239), (1, .ref 220), (2, .ref 229), (3, .ref 237), (4, .ref 238), (5, .int (nI i))]) (st1 := [.ref 229]) rfl trivial ?_
  refine q_go C tk_lw20 [(10, 4)] [] (pc1 := 1184) (σ1 := (W_legOf (xs (i + 1)) σ).2) (lv1 := ((6, .int k9) :: [(0, .ref 239), (1, .ref 220), (2, .ref 229), (3, .ref 237), (4, .ref 238), (5, .int (nI i))])) (st1 := [.int (nI i + 1), .ref 239, .ref 229]) rfl trivial ?_
  refine q_sld C hX (j := i + 1) (nI_add i 1) (by omega) hL (q_dc (z := (1184, .iaload, 1, 0, 0)) tk_lw20 14 rfl) ?_
  refine q_nrm 1185 [.int (xs (i + 1)), .ref 229] _ _ rfl rfl rfl rfl ?_
  refine q_callV C hfl mw_X9_legOf mi_X9_legOf me_X9_legOf lk_L_233 (k_X9_legOf (xs (i + 1)) (W_legOf (xs (i + 1)) σ).2 hPF) (rest := []) rfl rfl rfl (by decide) (by decide) rfl (q_dc (z := (1185, .invokevirtual 233, 3, 0, 0)) tk_lw20 15 rfl) (Nat.le_of_ble_eq_true rfl) ⟨(Nat.le_of_ble_eq_true rfl), (Nat.le_of_ble_eq_true rfl)⟩ ⟨(by show n1 + 1 + 0 ≤ 603072; omega), (by show n2 + 6 + 0 ≤ 7215209; omega)⟩ ?_
  refine q_nrm 1188 [.int (F_X9_legOf (xs (i + 1)) (W_legOf (xs (i + 1)) σ).2).1] (n1 + 1) (n2 + 6) rfl rfl rfl rfl ?_
  generalize hb9 : (F_X9_legOf (xs (i + 1)) (W_legOf (xs (i + 1)) σ).2).1 = b9 at ho ⊢
  unfold to_legOf at kk
  generalize ht9 : (F_X9_legOf (xs (i + 1)) (W_legOf (xs (i + 1)) σ).2).2 = τ at ht ho kk ⊢
  refine q_go C tk_lw20 [(16, 2)] [] (pc1 := 1191) (σ1 := τ) (lv1 := (7, .int b9) :: ((6, .int k9) :: [(0, .ref 239), (1, .ref 220), (2, .ref 229), (3, .ref 237), (4, .ref 238), (5, .int (nI i))])) (st1 := [.ref 229]) rfl trivial ?_
  refine q_callV C hfl mw_X9_thrown mi_X9_thrown me_X9_thrown lk_L_161 (k_X9_thrown τ) (rest := []) rfl rfl rfl (by decide) (by decide) rfl (q_dc (z := (1191, .invokevirtual 161, 3, 0, 0)) tk_lw20 18 rfl) (Nat.le_of_ble_eq_true rfl) ⟨(Nat.le_of_ble_eq_true rfl), (Nat.le_of_ble_eq_true rfl)⟩ ⟨(by show n1 + 1 + 0 ≤ 603072; omega), (by show n2 + 6 + 0 ≤ 7215209; omega)⟩ ?_
  refine q_nrm 1194 [.int (F_X9_thrown τ)] (n1 + 1) (n2 + 6) rfl rfl rfl rfl ?_
  refine q_go C tk_lw20 [(19, 2)] [true] (pc1 := 1201) (σ1 := τ) (lv1 := ((7, .int b9) :: (6, .int k9) :: [(0, .ref 239), (1, .ref 220), (2, .ref 229), (3, .ref 237), (4, .ref 238), (5, .int (nI i))])) (st1 := []) rfl ⟨(by unfold F_X9_thrown; exact ht), trivial⟩ ?_
  by_cases c0 : k9 = 0
  · have ho := ho c0
    refine q_go C tk_lw20 [(23, 8)] [false] (pc1 := 1213) (σ1 := τ) (lv1 := ((7, .int b9) :: (6, .int k9) :: [(0, .ref 239), (1, .ref 220), (2, .ref 229), (3, .ref 237), (4, .ref 238), (5, .int (nI i))])) (st1 := [.int (lg_cmp (τ 237 0).toInt64 b9.toInt64)]) rfl ⟨c0, rfl, (by unfold vp_in; decide), trivial⟩ ?_
    refine q_go C tk_lw20 [(31, 1), (34, 1)] [true] (pc1 := 2654) (σ1 := τ) (lv1 := ((7, .int b9) :: (6, .int k9) :: [(0, .ref 239), (1, .ref 220), (2, .ref 229), (3, .ref 237), (4, .ref 238), (5, .int (nI i))])) (st1 := []) rfl ⟨(by rw [ho]; exact q_cmp0 _), trivial⟩ ?_
    refine q_widen (k := n1 + 12) (n := n2 + 2000) (by omega) (by omega) ?_
    exact q_lvpick [2, 3, 4, 5, 6, 7] rfl kk
  · refine q_go C tk_lw20 [(23, 2), (34, 1)] [true] (pc1 := 2654) (σ1 := τ) (lv1 := ((7, .int b9) :: (6, .int k9) :: [(0, .ref 239), (1, .ref 220), (2, .ref 229), (3, .ref 237), (4, .ref 238), (5, .int (nI i))])) (st1 := []) rfl ⟨c0, trivial⟩ ?_
    refine q_widen (k := n1 + 12) (n := n2 + 2000) (by omega) (by omega) ?_
    exact q_lvpick [2, 3, 4, 5, 6, 7] rfl kk
def tb_lw21 : List q_E := [(1221, .aload_n 1, 1, 0, 0), (1222, .aload_n 0, 1, 0, 0), (1223, .iload 5, 2, 0, 0), (1225, .iconst 1, 1, 1, 0), (1226, .iadd, 1, 0, 0), (1227, .iaload, 1, 0, 0), (1228, .aload_n 3, 1, 0, 0), (1229, .invokestatic 234, 3, 0, 0), (1232, .istore 6, 2, 0, 0), (1234, .aload_n 2, 1, 0, 0), (1235, .aload_n 0, 1, 0, 0), (1236, .iload 5, 2, 0, 0), (1238, .iconst 1, 1, 1, 0), (1239, .iadd, 1, 0, 0), (1240, .iaload, 1, 0, 0), (1241, .invokevirtual 236, 3, 0, 0), (1244, .istore 7, 2, 0, 0), (1246, .aload_n 2, 1, 0, 0), (1247, .invokevirtual 161, 3, 0, 0), (1250, .iload 6, 2, 0, 0), (1252, .if_icmp .eq 5, 3, 0, 1257), (1255, .iconst 0, 1, 0, 0), (1256, .ireturn, 1, 0, 0), (1257, .iload 6, 2, 0, 0), (1259, .ifCond .ne 22, 3, 0, 1281), (1262, .aload_n 3, 1, 0, 0), (1263, .iconst 0, 1, 0, 0), (1264, .laload, 1, 0, 0), (1265, .iload 7, 2, 0, 0), (1267, .ifCond .eq 7, 3, 0, 1274), (1270, .lconst 1, 1, 1, 0), (1271, .goto 4, 3, 0, 1275), (1274, .lconst 0, 1, 0, 0), (1275, .lcmp, 1, 0, 0), (1276, .ifCond .eq 5, 3, 0, 1281), (1279, .iconst 0, 1, 0, 0), (1280, .ireturn, 1, 0, 0), (1281, .goto 1373, 3, 0, 2654)]
set_option maxRecDepth 100000 in
theorem tk_lw21 : q_tb code 9 tb_lw21 = true := by decide +kernel
def sim_isRunning (g0 : Int32) (σ : q_M) : Prop := q_SimB (fun σ => (∀ E, (F_X8_isRunning g0 σ) = .inr E → E ∈ nx_isRunning)) (fun σ => P_X9_isRunning g0 σ) (W_isRunning g0) (F_X9_isRunning g0) σ
def to_isRunning (g0 : Int32) (σ : q_M) : q_M := (F_X9_isRunning g0 (W_isRunning g0 σ).2).2
set_option maxRecDepth 100000 in
theorem cw_isRunning : Cond.codeWith yL_isRunning cL_isRunning 4 (some .int) hh_L_isRunning ∈ q_W := q_t4 52 rfl rfl
set_option maxRecDepth 100000 in
theorem sw_isRunning : Cond.static yL_isRunning ∈ q_W := q_t4 51 rfl rfl
set_option maxRecDepth 100000 in
theorem lw_ln_isRunning : Cond.methodLink RL 234 yL_isRunning ∈ q_W := q_t4 50 rfl rfl
set_option maxRecDepth 100000 in
set_option maxHeartbeats 2000000 in
theorem lw_isRunning {α β : Nat → Nat} {D : va_G} {κ : Nat → ClassId} {p : Program} {l : Launch} {e : Env} {s : State} {m : MethodId} {args : Array Value} {below : List Frame} {meth : Method} {c : Code} {A : Nat → Prop} {Q : State → Prop} {n1 n2 : Nat} (C : q_Cx α β D κ p s m args meth c code RL (fun _ => none) (fun _ => none) 9 A) (hfl : l.flags = flags0) {L : Nat} {xs : Nat → Int32} (hX : q_scr α s A L xs) {i : Nat} (hi : i + 4 ≤ L) (hL : L ≤ 2048) (hn : n1 + 12 ≤ 600000) (hn2 : n2 + 2000 ≤ 7000000) (σ : q_M) (hs : sim_isRunning (xs (i + 1)) σ) (kk : q_St α β D κ p l e room_1 s m args below meth c 9 A Q (n1 + 12) (n2 + 2000) (to_isRunning (xs (i + 1)) σ) [(0, .ref 239), (1, .ref 220), (2, .ref 229), (3, .ref 237), (4, .ref 238), (5, .int (nI i))] 2654 []) : q_St α β D κ p l e room_1 s m args below meth c 9 A Q n1 n2 σ [(0, .ref 239), (1, .ref 220), (2, .ref 229), (3, .ref 237), (4, .ref 238), (5, .int (nI i))] 1221 [] := by
  obtain ⟨⟨hPW, hPF, ht, ho⟩, hz⟩ := hs
  have hE := hPW
  refine q_go C tk_lw21 [(0, 1)] [] (pc1 := 1222) (σ1 := σ) (lv1 := [(0, .ref 239), (1, .ref 220), (2, .ref 229), (3, .ref 237), (4, .ref 238), (5, .int (nI i))]) (st1 := [.ref 220]) rfl trivial ?_
  refine q_go C tk_lw21 [(1, 4)] [] (pc1 := 1227) (σ1 := σ) (lv1 := [(0, .ref 239), (1, .ref 220), (2, .ref 229), (3, .ref 237), (4, .ref 238), (5, .int (nI i))]) (st1 := [.int (nI i + 1), .ref 239, .ref 220]) rfl trivial ?_
  refine q_sld C hX (j := i + 1) (nI_add i 1) (by omega) hL (q_dc (z := (1227, .iaload, 1, 0, 0)) tk_lw21 5 rfl) ?_
  refine q_nrm 1228 [.int (xs (i + 1)), .ref 220] _ _ rfl rfl rfl rfl ?_
  refine q_go C tk_lw21 [(6, 1)] [] (pc1 := 1229) (σ1 := σ) (lv1 := [(0, .ref 239), (1, .ref 220), (2, .ref 229), (3, .ref 237), (4, .ref 238), (5, .int (nI i))]) (st1 := [.ref 237, .int (xs (i + 1)), .ref 220]) rfl trivial ?_
  refine q_callW (n := 3) C hfl cw_isRunning (by decide +kernel) q_init_L sw_isRunning lw_ln_isRunning (As := [.ref 220, .int (xs (i + 1)), .ref 237]) (kw_isRunning (xs (i + 1)) σ hE) (rest := []) rfl rfl (q_dc (z := (1229, .invokestatic 234, 3, 0, 0)) tk_lw21 7 rfl) (Nat.le_of_ble_eq_true rfl) ⟨(Nat.le_of_ble_eq_true rfl), (Nat.le_of_ble_eq_true rfl)⟩ ⟨(by show n1 + 1 ≤ 603072; omega), (by show n2 + 6 ≤ 7215209; omega)⟩ ?_
  refine q_nrm 1232 [.int (W_isRunning (xs (i + 1)) σ).1] (n1 + 1) (n2 + 6) rfl rfl rfl rfl ?_
  generalize hk9 : (W_isRunning (xs (i + 1)) σ).1 = k9 at ht ho ⊢
  refine q_go C tk_lw21 [(8, 2)] [] (pc1 := 1235) (σ1 := (W_isRunning (xs (i + 1)) σ).2) (lv1 := (6, .int k9) :: [(0, .ref 239), (1, .ref 220), (2, .ref 229), (3, .ref 237), (4, .ref 238), (5, .int (nI i))]) (st1 := [.ref 229]) rfl trivial ?_
  refine q_go C tk_lw21 [(10, 4)] [] (pc1 := 1240) (σ1 := (W_isRunning (xs (i + 1)) σ).2) (lv1 := ((6, .int k9) :: [(0, .ref 239), (1, .ref 220), (2, .ref 229), (3, .ref 237), (4, .ref 238), (5, .int (nI i))])) (st1 := [.int (nI i + 1), .ref 239, .ref 229]) rfl trivial ?_
  refine q_sld C hX (j := i + 1) (nI_add i 1) (by omega) hL (q_dc (z := (1240, .iaload, 1, 0, 0)) tk_lw21 14 rfl) ?_
  refine q_nrm 1241 [.int (xs (i + 1)), .ref 229] _ _ rfl rfl rfl rfl ?_
  refine q_callV C hfl mw_X9_isRunning mi_X9_isRunning me_X9_isRunning lk_L_236 (k_X9_isRunning (xs (i + 1)) (W_isRunning (xs (i + 1)) σ).2 hPF) (rest := []) rfl rfl rfl (by decide) (by decide) rfl (q_dc (z := (1241, .invokevirtual 236, 3, 0, 0)) tk_lw21 15 rfl) (Nat.le_of_ble_eq_true rfl) ⟨(Nat.le_of_ble_eq_true rfl), (Nat.le_of_ble_eq_true rfl)⟩ ⟨(by show n1 + 1 + 0 ≤ 603072; omega), (by show n2 + 6 + 0 ≤ 7215209; omega)⟩ ?_
  refine q_nrm 1244 [.int (F_X9_isRunning (xs (i + 1)) (W_isRunning (xs (i + 1)) σ).2).1] (n1 + 1) (n2 + 6) rfl rfl rfl rfl ?_
  generalize hb9 : (F_X9_isRunning (xs (i + 1)) (W_isRunning (xs (i + 1)) σ).2).1 = b9 at ho hz ⊢
  unfold to_isRunning at kk
  generalize ht9 : (F_X9_isRunning (xs (i + 1)) (W_isRunning (xs (i + 1)) σ).2).2 = τ at ht ho kk ⊢
  refine q_go C tk_lw21 [(16, 2)] [] (pc1 := 1247) (σ1 := τ) (lv1 := (7, .int b9) :: ((6, .int k9) :: [(0, .ref 239), (1, .ref 220), (2, .ref 229), (3, .ref 237), (4, .ref 238), (5, .int (nI i))])) (st1 := [.ref 229]) rfl trivial ?_
  refine q_callV C hfl mw_X9_thrown mi_X9_thrown me_X9_thrown lk_L_161 (k_X9_thrown τ) (rest := []) rfl rfl rfl (by decide) (by decide) rfl (q_dc (z := (1247, .invokevirtual 161, 3, 0, 0)) tk_lw21 18 rfl) (Nat.le_of_ble_eq_true rfl) ⟨(Nat.le_of_ble_eq_true rfl), (Nat.le_of_ble_eq_true rfl)⟩ ⟨(by show n1 + 1 + 0 ≤ 603072; omega), (by show n2 + 6 + 0 ≤ 7215209; omega)⟩ ?_
  refine q_nrm 1250 [.int (F_X9_thrown τ)] (n1 + 1) (n2 + 6) rfl rfl rfl rfl ?_
  refine q_go C tk_lw21 [(19, 2)] [true] (pc1 := 1257) (σ1 := τ) (lv1 := ((7, .int b9) :: (6, .int k9) :: [(0, .ref 239), (1, .ref 220), (2, .ref 229), (3, .ref 237), (4, .ref 238), (5, .int (nI i))])) (st1 := []) rfl ⟨(by unfold F_X9_thrown; exact ht), trivial⟩ ?_
  by_cases c0 : k9 = 0
  · have ho := ho c0
    refine q_go C tk_lw21 [(23, 5)] [false] (pc1 := 1265) (σ1 := τ) (lv1 := ((7, .int b9) :: (6, .int k9) :: [(0, .ref 239), (1, .ref 220), (2, .ref 229), (3, .ref 237), (4, .ref 238), (5, .int (nI i))])) (st1 := [.long (τ 237 0).toInt64]) rfl ⟨c0, rfl, (by unfold vp_in; decide), trivial⟩ ?_
    rcases hz with hz | hz
    · have e1 : τ 237 0 = 0 := ho.trans hz
      refine q_go C tk_lw21 [(28, 2), (32, 2)] [true] (pc1 := 1276) (σ1 := τ) (lv1 := ((7, .int b9) :: (6, .int k9) :: [(0, .ref 239), (1, .ref 220), (2, .ref 229), (3, .ref 237), (4, .ref 238), (5, .int (nI i))])) (st1 := [.int (lg_cmp (τ 237 0).toInt64 (0 : Int32).toInt64)]) rfl ⟨hz, trivial⟩ ?_
      refine q_go C tk_lw21 [(34, 1), (37, 1)] [true] (pc1 := 2654) (σ1 := τ) (lv1 := ((7, .int b9) :: (6, .int k9) :: [(0, .ref 239), (1, .ref 220), (2, .ref 229), (3, .ref 237), (4, .ref 238), (5, .int (nI i))])) (st1 := []) rfl ⟨(by rw [e1]; exact q_cmp0 _), trivial⟩ ?_
      refine q_widen (k := n1 + 12) (n := n2 + 2000) (by omega) (by omega) ?_
      exact q_lvpick [2, 3, 4, 5, 6, 7] rfl kk
    · have e1 : τ 237 0 = 1 := ho.trans hz
      refine q_go C tk_lw21 [(28, 4), (33, 1)] [false] (pc1 := 1276) (σ1 := τ) (lv1 := ((7, .int b9) :: (6, .int k9) :: [(0, .ref 239), (1, .ref 220), (2, .ref 229), (3, .ref 237), (4, .ref 238), (5, .int (nI i))])) (st1 := [.int (lg_cmp (τ 237 0).toInt64 (1 : Int32).toInt64)]) rfl ⟨(fun z => absurd (hz.symm.trans z) (by decide)), trivial⟩ ?_
      refine q_go C tk_lw21 [(34, 1), (37, 1)] [true] (pc1 := 2654) (σ1 := τ) (lv1 := ((7, .int b9) :: (6, .int k9) :: [(0, .ref 239), (1, .ref 220), (2, .ref 229), (3, .ref 237), (4, .ref 238), (5, .int (nI i))])) (st1 := []) rfl ⟨(by rw [e1]; exact q_cmp0 _), trivial⟩ ?_
      refine q_widen (k := n1 + 12) (n := n2 + 2000) (by omega) (by omega) ?_
      exact q_lvpick [2, 3, 4, 5, 6, 7] rfl kk
  · refine q_go C tk_lw21 [(23, 2), (37, 1)] [true] (pc1 := 2654) (σ1 := τ) (lv1 := ((7, .int b9) :: (6, .int k9) :: [(0, .ref 239), (1, .ref 220), (2, .ref 229), (3, .ref 237), (4, .ref 238), (5, .int (nI i))])) (st1 := []) rfl ⟨c0, trivial⟩ ?_
    refine q_widen (k := n1 + 12) (n := n2 + 2000) (by omega) (by omega) ?_
    exact q_lvpick [2, 3, 4, 5, 6, 7] rfl kk
def tb_lw22 : List q_E := [(1284, .aload_n 1, 1, 0, 0), (1285, .aload_n 0, 1, 0, 0), (1286, .iload 5, 2, 0, 0), (1288, .iconst 1, 1, 1, 0), (1289, .iadd, 1, 0, 0), (1290, .iaload, 1, 0, 0), (1291, .aload_n 3, 1, 0, 0), (1292, .invokestatic 237, 3, 0, 0), (1295, .istore 6, 2, 0, 0), (1297, .aload_n 2, 1, 0, 0), (1298, .aload_n 0, 1, 0, 0), (1299, .iload 5, 2, 0, 0), (1301, .iconst 1, 1, 1, 0), (1302, .iadd, 1, 0, 0), (1303, .iaload, 1, 0, 0), (1304, .invokevirtual 239, 3, 0, 0), (1307, .istore 7, 2, 0, 0), (1309, .aload_n 2, 1, 0, 0), (1310, .invokevirtual 161, 3, 0, 0), (1313, .iload 6, 2, 0, 0), (1315, .if_icmp .eq 5, 3, 0, 1320), (1318, .iconst 0, 1, 0, 0), (1319, .ireturn, 1, 0, 0), (1320, .iload 6, 2, 0, 0), (1322, .ifCond .ne 22, 3, 0, 1344), (1325, .aload_n 3, 1, 0, 0), (1326, .iconst 0, 1, 0, 0), (1327, .laload, 1, 0, 0), (1328, .iload 7, 2, 0, 0), (1330, .ifCond .eq 7, 3, 0, 1337), (1333, .lconst 1, 1, 1, 0), (1334, .goto 4, 3, 0, 1338), (1337, .lconst 0, 1, 0, 0), (1338, .lcmp, 1, 0, 0), (1339, .ifCond .eq 5, 3, 0, 1344), (1342, .iconst 0, 1, 0, 0), (1343, .ireturn, 1, 0, 0), (1344, .goto 1310, 3, 0, 2654)]
set_option maxRecDepth 100000 in
theorem tk_lw22 : q_tb code 9 tb_lw22 = true := by decide +kernel
def sim_isInZone (g0 : Int32) (σ : q_M) : Prop := q_SimB (fun σ => (∀ E, (F_X8_isInZone g0 σ) = .inr E → E ∈ nx_isInZone)) (fun σ => P_X9_isInZone g0 σ) (W_isInZone g0) (F_X9_isInZone g0) σ
def to_isInZone (g0 : Int32) (σ : q_M) : q_M := (F_X9_isInZone g0 (W_isInZone g0 σ).2).2
set_option maxRecDepth 100000 in
theorem cw_isInZone : Cond.codeWith yL_isInZone cL_isInZone 4 (some .int) hh_L_isInZone ∈ q_W := q_t4 59 rfl rfl
set_option maxRecDepth 100000 in
theorem sw_isInZone : Cond.static yL_isInZone ∈ q_W := q_t4 58 rfl rfl
set_option maxRecDepth 100000 in
theorem lw_ln_isInZone : Cond.methodLink RL 237 yL_isInZone ∈ q_W := q_t4 57 rfl rfl
set_option maxRecDepth 100000 in
set_option maxHeartbeats 2000000 in
theorem lw_isInZone {α β : Nat → Nat} {D : va_G} {κ : Nat → ClassId} {p : Program} {l : Launch} {e : Env} {s : State} {m : MethodId} {args : Array Value} {below : List Frame} {meth : Method} {c : Code} {A : Nat → Prop} {Q : State → Prop} {n1 n2 : Nat} (C : q_Cx α β D κ p s m args meth c code RL (fun _ => none) (fun _ => none) 9 A) (hfl : l.flags = flags0) {L : Nat} {xs : Nat → Int32} (hX : q_scr α s A L xs) {i : Nat} (hi : i + 4 ≤ L) (hL : L ≤ 2048) (hn : n1 + 12 ≤ 600000) (hn2 : n2 + 2000 ≤ 7000000) (σ : q_M) (hs : sim_isInZone (xs (i + 1)) σ) (kk : q_St α β D κ p l e room_1 s m args below meth c 9 A Q (n1 + 12) (n2 + 2000) (to_isInZone (xs (i + 1)) σ) [(0, .ref 239), (1, .ref 220), (2, .ref 229), (3, .ref 237), (4, .ref 238), (5, .int (nI i))] 2654 []) : q_St α β D κ p l e room_1 s m args below meth c 9 A Q n1 n2 σ [(0, .ref 239), (1, .ref 220), (2, .ref 229), (3, .ref 237), (4, .ref 238), (5, .int (nI i))] 1284 [] := by
  obtain ⟨⟨hPW, hPF, ht, ho⟩, hz⟩ := hs
  have hE := hPW
  refine q_go C tk_lw22 [(0, 1)] [] (pc1 := 1285) (σ1 := σ) (lv1 := [(0, .ref 239), (1, .ref 220), (2, .ref 229), (3, .ref 237), (4, .ref 238), (5, .int (nI i))]) (st1 := [.ref 220]) rfl trivial ?_
  refine q_go C tk_lw22 [(1, 4)] [] (pc1 := 1290) (σ1 := σ) (lv1 := [(0, .ref 239), (1, .ref 220), (2, .ref 229), (3, .ref 237), (4, .ref 238), (5, .int (nI i))]) (st1 := [.int (nI i + 1), .ref 239, .ref 220]) rfl trivial ?_
  refine q_sld C hX (j := i + 1) (nI_add i 1) (by omega) hL (q_dc (z := (1290, .iaload, 1, 0, 0)) tk_lw22 5 rfl) ?_
  refine q_nrm 1291 [.int (xs (i + 1)), .ref 220] _ _ rfl rfl rfl rfl ?_
  refine q_go C tk_lw22 [(6, 1)] [] (pc1 := 1292) (σ1 := σ) (lv1 := [(0, .ref 239), (1, .ref 220), (2, .ref 229), (3, .ref 237), (4, .ref 238), (5, .int (nI i))]) (st1 := [.ref 237, .int (xs (i + 1)), .ref 220]) rfl trivial ?_
  refine q_callW (n := 3) C hfl cw_isInZone (by decide +kernel) q_init_L sw_isInZone lw_ln_isInZone (As := [.ref 220, .int (xs (i + 1)), .ref 237]) (kw_isInZone (xs (i + 1)) σ hE) (rest := []) rfl rfl (q_dc (z := (1292, .invokestatic 237, 3, 0, 0)) tk_lw22 7 rfl) (Nat.le_of_ble_eq_true rfl) ⟨(Nat.le_of_ble_eq_true rfl), (Nat.le_of_ble_eq_true rfl)⟩ ⟨(by show n1 + 1 ≤ 603072; omega), (by show n2 + 6 ≤ 7215209; omega)⟩ ?_
  refine q_nrm 1295 [.int (W_isInZone (xs (i + 1)) σ).1] (n1 + 1) (n2 + 6) rfl rfl rfl rfl ?_
  generalize hk9 : (W_isInZone (xs (i + 1)) σ).1 = k9 at ht ho ⊢
  refine q_go C tk_lw22 [(8, 2)] [] (pc1 := 1298) (σ1 := (W_isInZone (xs (i + 1)) σ).2) (lv1 := (6, .int k9) :: [(0, .ref 239), (1, .ref 220), (2, .ref 229), (3, .ref 237), (4, .ref 238), (5, .int (nI i))]) (st1 := [.ref 229]) rfl trivial ?_
  refine q_go C tk_lw22 [(10, 4)] [] (pc1 := 1303) (σ1 := (W_isInZone (xs (i + 1)) σ).2) (lv1 := ((6, .int k9) :: [(0, .ref 239), (1, .ref 220), (2, .ref 229), (3, .ref 237), (4, .ref 238), (5, .int (nI i))])) (st1 := [.int (nI i + 1), .ref 239, .ref 229]) rfl trivial ?_
  refine q_sld C hX (j := i + 1) (nI_add i 1) (by omega) hL (q_dc (z := (1303, .iaload, 1, 0, 0)) tk_lw22 14 rfl) ?_
  refine q_nrm 1304 [.int (xs (i + 1)), .ref 229] _ _ rfl rfl rfl rfl ?_
  refine q_callV C hfl mw_X9_isInZone mi_X9_isInZone me_X9_isInZone lk_L_239 (k_X9_isInZone (xs (i + 1)) (W_isInZone (xs (i + 1)) σ).2 hPF) (rest := []) rfl rfl rfl (by decide) (by decide) rfl (q_dc (z := (1304, .invokevirtual 239, 3, 0, 0)) tk_lw22 15 rfl) (Nat.le_of_ble_eq_true rfl) ⟨(Nat.le_of_ble_eq_true rfl), (Nat.le_of_ble_eq_true rfl)⟩ ⟨(by show n1 + 1 + 0 ≤ 603072; omega), (by show n2 + 6 + 0 ≤ 7215209; omega)⟩ ?_
  refine q_nrm 1307 [.int (F_X9_isInZone (xs (i + 1)) (W_isInZone (xs (i + 1)) σ).2).1] (n1 + 1) (n2 + 6) rfl rfl rfl rfl ?_
  generalize hb9 : (F_X9_isInZone (xs (i + 1)) (W_isInZone (xs (i + 1)) σ).2).1 = b9 at ho hz ⊢
  unfold to_isInZone at kk
  generalize ht9 : (F_X9_isInZone (xs (i + 1)) (W_isInZone (xs (i + 1)) σ).2).2 = τ at ht ho kk ⊢
  refine q_go C tk_lw22 [(16, 2)] [] (pc1 := 1310) (σ1 := τ) (lv1 := (7, .int b9) :: ((6, .int k9) :: [(0, .ref 239), (1, .ref 220), (2, .ref 229), (3, .ref 237), (4, .ref 238), (5, .int (nI i))])) (st1 := [.ref 229]) rfl trivial ?_
  refine q_callV C hfl mw_X9_thrown mi_X9_thrown me_X9_thrown lk_L_161 (k_X9_thrown τ) (rest := []) rfl rfl rfl (by decide) (by decide) rfl (q_dc (z := (1310, .invokevirtual 161, 3, 0, 0)) tk_lw22 18 rfl) (Nat.le_of_ble_eq_true rfl) ⟨(Nat.le_of_ble_eq_true rfl), (Nat.le_of_ble_eq_true rfl)⟩ ⟨(by show n1 + 1 + 0 ≤ 603072; omega), (by show n2 + 6 + 0 ≤ 7215209; omega)⟩ ?_
  refine q_nrm 1313 [.int (F_X9_thrown τ)] (n1 + 1) (n2 + 6) rfl rfl rfl rfl ?_
  refine q_go C tk_lw22 [(19, 2)] [true] (pc1 := 1320) (σ1 := τ) (lv1 := ((7, .int b9) :: (6, .int k9) :: [(0, .ref 239), (1, .ref 220), (2, .ref 229), (3, .ref 237), (4, .ref 238), (5, .int (nI i))])) (st1 := []) rfl ⟨(by unfold F_X9_thrown; exact ht), trivial⟩ ?_
  by_cases c0 : k9 = 0
  · have ho := ho c0
    refine q_go C tk_lw22 [(23, 5)] [false] (pc1 := 1328) (σ1 := τ) (lv1 := ((7, .int b9) :: (6, .int k9) :: [(0, .ref 239), (1, .ref 220), (2, .ref 229), (3, .ref 237), (4, .ref 238), (5, .int (nI i))])) (st1 := [.long (τ 237 0).toInt64]) rfl ⟨c0, rfl, (by unfold vp_in; decide), trivial⟩ ?_
    rcases hz with hz | hz
    · have e1 : τ 237 0 = 0 := ho.trans hz
      refine q_go C tk_lw22 [(28, 2), (32, 2)] [true] (pc1 := 1339) (σ1 := τ) (lv1 := ((7, .int b9) :: (6, .int k9) :: [(0, .ref 239), (1, .ref 220), (2, .ref 229), (3, .ref 237), (4, .ref 238), (5, .int (nI i))])) (st1 := [.int (lg_cmp (τ 237 0).toInt64 (0 : Int32).toInt64)]) rfl ⟨hz, trivial⟩ ?_
      refine q_go C tk_lw22 [(34, 1), (37, 1)] [true] (pc1 := 2654) (σ1 := τ) (lv1 := ((7, .int b9) :: (6, .int k9) :: [(0, .ref 239), (1, .ref 220), (2, .ref 229), (3, .ref 237), (4, .ref 238), (5, .int (nI i))])) (st1 := []) rfl ⟨(by rw [e1]; exact q_cmp0 _), trivial⟩ ?_
      refine q_widen (k := n1 + 12) (n := n2 + 2000) (by omega) (by omega) ?_
      exact q_lvpick [2, 3, 4, 5, 6, 7] rfl kk
    · have e1 : τ 237 0 = 1 := ho.trans hz
      refine q_go C tk_lw22 [(28, 4), (33, 1)] [false] (pc1 := 1339) (σ1 := τ) (lv1 := ((7, .int b9) :: (6, .int k9) :: [(0, .ref 239), (1, .ref 220), (2, .ref 229), (3, .ref 237), (4, .ref 238), (5, .int (nI i))])) (st1 := [.int (lg_cmp (τ 237 0).toInt64 (1 : Int32).toInt64)]) rfl ⟨(fun z => absurd (hz.symm.trans z) (by decide)), trivial⟩ ?_
      refine q_go C tk_lw22 [(34, 1), (37, 1)] [true] (pc1 := 2654) (σ1 := τ) (lv1 := ((7, .int b9) :: (6, .int k9) :: [(0, .ref 239), (1, .ref 220), (2, .ref 229), (3, .ref 237), (4, .ref 238), (5, .int (nI i))])) (st1 := []) rfl ⟨(by rw [e1]; exact q_cmp0 _), trivial⟩ ?_
      refine q_widen (k := n1 + 12) (n := n2 + 2000) (by omega) (by omega) ?_
      exact q_lvpick [2, 3, 4, 5, 6, 7] rfl kk
  · refine q_go C tk_lw22 [(23, 2), (37, 1)] [true] (pc1 := 2654) (σ1 := τ) (lv1 := ((7, .int b9) :: (6, .int k9) :: [(0, .ref 239), (1, .ref 220), (2, .ref 229), (3, .ref 237), (4, .ref 238), (5, .int (nI i))])) (st1 := []) rfl ⟨c0, trivial⟩ ?_
    refine q_widen (k := n1 + 12) (n := n2 + 2000) (by omega) (by omega) ?_
    exact q_lvpick [2, 3, 4, 5, 6, 7] rfl kk
def tb_lw23 : List q_E := [(1347, .aload_n 1, 1, 0, 0), (1348, .aload_n 0, 1, 0, 0), (1349, .iload 5, 2, 0, 0), (1351, .iconst 1, 1, 1, 0), (1352, .iadd, 1, 0, 0), (1353, .iaload, 1, 0, 0), (1354, .aload_n 3, 1, 0, 0), (1355, .invokestatic 240, 3, 0, 0), (1358, .istore 6, 2, 0, 0), (1360, .aload_n 2, 1, 0, 0), (1361, .aload_n 0, 1, 0, 0), (1362, .iload 5, 2, 0, 0), (1364, .iconst 1, 1, 1, 0), (1365, .iadd, 1, 0, 0), (1366, .iaload, 1, 0, 0), (1367, .invokevirtual 242, 3, 0, 0), (1370, .istore 7, 2, 0, 0), (1372, .aload_n 2, 1, 0, 0), (1373, .invokevirtual 161, 3, 0, 0), (1376, .iload 6, 2, 0, 0), (1378, .if_icmp .eq 5, 3, 0, 1383), (1381, .iconst 0, 1, 0, 0), (1382, .ireturn, 1, 0, 0), (1383, .iload 6, 2, 0, 0), (1385, .ifCond .ne 15, 3, 0, 1400), (1388, .aload_n 3, 1, 0, 0), (1389, .iconst 0, 1, 0, 0), (1390, .laload, 1, 0, 0), (1391, .iload 7, 2, 0, 0), (1393, .i2l, 1, 0, 0), (1394, .lcmp, 1, 0, 0), (1395, .ifCond .eq 5, 3, 0, 1400), (1398, .iconst 0, 1, 0, 0), (1399, .ireturn, 1, 0, 0), (1400, .goto 1254, 3, 0, 2654)]
set_option maxRecDepth 100000 in
theorem tk_lw23 : q_tb code 9 tb_lw23 = true := by decide +kernel
def sim_standingOf (g0 : Int32) (σ : q_M) : Prop := q_SimI (fun σ => (∀ E, (F_X8_standingOf g0 σ) = .inr E → E ∈ nx_standingOf)) (fun σ => P_X9_standingOf g0 σ) (W_standingOf g0) (F_X9_standingOf g0) σ
def to_standingOf (g0 : Int32) (σ : q_M) : q_M := (F_X9_standingOf g0 (W_standingOf g0 σ).2).2
set_option maxRecDepth 100000 in
theorem cw_standingOf : Cond.codeWith yL_standingOf cL_standingOf 4 (some .int) hh_L_standingOf ∈ q_W := q_t4 67 rfl rfl
set_option maxRecDepth 100000 in
theorem sw_standingOf : Cond.static yL_standingOf ∈ q_W := q_t4 66 rfl rfl
set_option maxRecDepth 100000 in
theorem lw_ln_standingOf : Cond.methodLink RL 240 yL_standingOf ∈ q_W := q_t4 65 rfl rfl
set_option maxRecDepth 100000 in
set_option maxHeartbeats 2000000 in
theorem lw_standingOf {α β : Nat → Nat} {D : va_G} {κ : Nat → ClassId} {p : Program} {l : Launch} {e : Env} {s : State} {m : MethodId} {args : Array Value} {below : List Frame} {meth : Method} {c : Code} {A : Nat → Prop} {Q : State → Prop} {n1 n2 : Nat} (C : q_Cx α β D κ p s m args meth c code RL (fun _ => none) (fun _ => none) 9 A) (hfl : l.flags = flags0) {L : Nat} {xs : Nat → Int32} (hX : q_scr α s A L xs) {i : Nat} (hi : i + 4 ≤ L) (hL : L ≤ 2048) (hn : n1 + 12 ≤ 600000) (hn2 : n2 + 2000 ≤ 7000000) (σ : q_M) (hs : sim_standingOf (xs (i + 1)) σ) (kk : q_St α β D κ p l e room_1 s m args below meth c 9 A Q (n1 + 12) (n2 + 2000) (to_standingOf (xs (i + 1)) σ) [(0, .ref 239), (1, .ref 220), (2, .ref 229), (3, .ref 237), (4, .ref 238), (5, .int (nI i))] 2654 []) : q_St α β D κ p l e room_1 s m args below meth c 9 A Q n1 n2 σ [(0, .ref 239), (1, .ref 220), (2, .ref 229), (3, .ref 237), (4, .ref 238), (5, .int (nI i))] 1347 [] := by
  obtain ⟨hPW, hPF, ht, ho⟩ := hs
  have hE := hPW
  refine q_go C tk_lw23 [(0, 1)] [] (pc1 := 1348) (σ1 := σ) (lv1 := [(0, .ref 239), (1, .ref 220), (2, .ref 229), (3, .ref 237), (4, .ref 238), (5, .int (nI i))]) (st1 := [.ref 220]) rfl trivial ?_
  refine q_go C tk_lw23 [(1, 4)] [] (pc1 := 1353) (σ1 := σ) (lv1 := [(0, .ref 239), (1, .ref 220), (2, .ref 229), (3, .ref 237), (4, .ref 238), (5, .int (nI i))]) (st1 := [.int (nI i + 1), .ref 239, .ref 220]) rfl trivial ?_
  refine q_sld C hX (j := i + 1) (nI_add i 1) (by omega) hL (q_dc (z := (1353, .iaload, 1, 0, 0)) tk_lw23 5 rfl) ?_
  refine q_nrm 1354 [.int (xs (i + 1)), .ref 220] _ _ rfl rfl rfl rfl ?_
  refine q_go C tk_lw23 [(6, 1)] [] (pc1 := 1355) (σ1 := σ) (lv1 := [(0, .ref 239), (1, .ref 220), (2, .ref 229), (3, .ref 237), (4, .ref 238), (5, .int (nI i))]) (st1 := [.ref 237, .int (xs (i + 1)), .ref 220]) rfl trivial ?_
  refine q_callW (n := 3) C hfl cw_standingOf (by decide +kernel) q_init_L sw_standingOf lw_ln_standingOf (As := [.ref 220, .int (xs (i + 1)), .ref 237]) (kw_standingOf (xs (i + 1)) σ hE) (rest := []) rfl rfl (q_dc (z := (1355, .invokestatic 240, 3, 0, 0)) tk_lw23 7 rfl) (Nat.le_of_ble_eq_true rfl) ⟨(Nat.le_of_ble_eq_true rfl), (Nat.le_of_ble_eq_true rfl)⟩ ⟨(by show n1 + 1 ≤ 603072; omega), (by show n2 + 6 ≤ 7215209; omega)⟩ ?_
  refine q_nrm 1358 [.int (W_standingOf (xs (i + 1)) σ).1] (n1 + 1) (n2 + 6) rfl rfl rfl rfl ?_
  generalize hk9 : (W_standingOf (xs (i + 1)) σ).1 = k9 at ht ho ⊢
  refine q_go C tk_lw23 [(8, 2)] [] (pc1 := 1361) (σ1 := (W_standingOf (xs (i + 1)) σ).2) (lv1 := (6, .int k9) :: [(0, .ref 239), (1, .ref 220), (2, .ref 229), (3, .ref 237), (4, .ref 238), (5, .int (nI i))]) (st1 := [.ref 229]) rfl trivial ?_
  refine q_go C tk_lw23 [(10, 4)] [] (pc1 := 1366) (σ1 := (W_standingOf (xs (i + 1)) σ).2) (lv1 := ((6, .int k9) :: [(0, .ref 239), (1, .ref 220), (2, .ref 229), (3, .ref 237), (4, .ref 238), (5, .int (nI i))])) (st1 := [.int (nI i + 1), .ref 239, .ref 229]) rfl trivial ?_
  refine q_sld C hX (j := i + 1) (nI_add i 1) (by omega) hL (q_dc (z := (1366, .iaload, 1, 0, 0)) tk_lw23 14 rfl) ?_
  refine q_nrm 1367 [.int (xs (i + 1)), .ref 229] _ _ rfl rfl rfl rfl ?_
  refine q_callV C hfl mw_X9_standingOf mi_X9_standingOf me_X9_standingOf lk_L_242 (k_X9_standingOf (xs (i + 1)) (W_standingOf (xs (i + 1)) σ).2 hPF) (rest := []) rfl rfl rfl (by decide) (by decide) rfl (q_dc (z := (1367, .invokevirtual 242, 3, 0, 0)) tk_lw23 15 rfl) (Nat.le_of_ble_eq_true rfl) ⟨(Nat.le_of_ble_eq_true rfl), (Nat.le_of_ble_eq_true rfl)⟩ ⟨(by show n1 + 1 + 0 ≤ 603072; omega), (by show n2 + 6 + 0 ≤ 7215209; omega)⟩ ?_
  refine q_nrm 1370 [.int (F_X9_standingOf (xs (i + 1)) (W_standingOf (xs (i + 1)) σ).2).1] (n1 + 1) (n2 + 6) rfl rfl rfl rfl ?_
  generalize hb9 : (F_X9_standingOf (xs (i + 1)) (W_standingOf (xs (i + 1)) σ).2).1 = b9 at ho ⊢
  unfold to_standingOf at kk
  generalize ht9 : (F_X9_standingOf (xs (i + 1)) (W_standingOf (xs (i + 1)) σ).2).2 = τ at ht ho kk ⊢
  refine q_go C tk_lw23 [(16, 2)] [] (pc1 := 1373) (σ1 := τ) (lv1 := (7, .int b9) :: ((6, .int k9) :: [(0, .ref 239), (1, .ref 220), (2, .ref 229), (3, .ref 237), (4, .ref 238), (5, .int (nI i))])) (st1 := [.ref 229]) rfl trivial ?_
  refine q_callV C hfl mw_X9_thrown mi_X9_thrown me_X9_thrown lk_L_161 (k_X9_thrown τ) (rest := []) rfl rfl rfl (by decide) (by decide) rfl (q_dc (z := (1373, .invokevirtual 161, 3, 0, 0)) tk_lw23 18 rfl) (Nat.le_of_ble_eq_true rfl) ⟨(Nat.le_of_ble_eq_true rfl), (Nat.le_of_ble_eq_true rfl)⟩ ⟨(by show n1 + 1 + 0 ≤ 603072; omega), (by show n2 + 6 + 0 ≤ 7215209; omega)⟩ ?_
  refine q_nrm 1376 [.int (F_X9_thrown τ)] (n1 + 1) (n2 + 6) rfl rfl rfl rfl ?_
  refine q_go C tk_lw23 [(19, 2)] [true] (pc1 := 1383) (σ1 := τ) (lv1 := ((7, .int b9) :: (6, .int k9) :: [(0, .ref 239), (1, .ref 220), (2, .ref 229), (3, .ref 237), (4, .ref 238), (5, .int (nI i))])) (st1 := []) rfl ⟨(by unfold F_X9_thrown; exact ht), trivial⟩ ?_
  by_cases c0 : k9 = 0
  · have ho := ho c0
    refine q_go C tk_lw23 [(23, 8)] [false] (pc1 := 1395) (σ1 := τ) (lv1 := ((7, .int b9) :: (6, .int k9) :: [(0, .ref 239), (1, .ref 220), (2, .ref 229), (3, .ref 237), (4, .ref 238), (5, .int (nI i))])) (st1 := [.int (lg_cmp (τ 237 0).toInt64 b9.toInt64)]) rfl ⟨c0, rfl, (by unfold vp_in; decide), trivial⟩ ?_
    refine q_go C tk_lw23 [(31, 1), (34, 1)] [true] (pc1 := 2654) (σ1 := τ) (lv1 := ((7, .int b9) :: (6, .int k9) :: [(0, .ref 239), (1, .ref 220), (2, .ref 229), (3, .ref 237), (4, .ref 238), (5, .int (nI i))])) (st1 := []) rfl ⟨(by rw [ho]; exact q_cmp0 _), trivial⟩ ?_
    refine q_widen (k := n1 + 12) (n := n2 + 2000) (by omega) (by omega) ?_
    exact q_lvpick [2, 3, 4, 5, 6, 7] rfl kk
  · refine q_go C tk_lw23 [(23, 2), (34, 1)] [true] (pc1 := 2654) (σ1 := τ) (lv1 := ((7, .int b9) :: (6, .int k9) :: [(0, .ref 239), (1, .ref 220), (2, .ref 229), (3, .ref 237), (4, .ref 238), (5, .int (nI i))])) (st1 := []) rfl ⟨c0, trivial⟩ ?_
    refine q_widen (k := n1 + 12) (n := n2 + 2000) (by omega) (by omega) ?_
    exact q_lvpick [2, 3, 4, 5, 6, 7] rfl kk
def tb_lw24 : List q_E := [(1403, .aload_n 1, 1, 0, 0), (1404, .aload_n 0, 1, 0, 0), (1405, .iload 5, 2, 0, 0), (1407, .iconst 1, 1, 1, 0), (1408, .iadd, 1, 0, 0), (1409, .iaload, 1, 0, 0), (1410, .aload_n 3, 1, 0, 0), (1411, .invokestatic 243, 3, 0, 0), (1414, .istore 6, 2, 0, 0), (1416, .aload_n 2, 1, 0, 0), (1417, .aload_n 0, 1, 0, 0), (1418, .iload 5, 2, 0, 0), (1420, .iconst 1, 1, 1, 0), (1421, .iadd, 1, 0, 0), (1422, .iaload, 1, 0, 0), (1423, .invokevirtual 245, 3, 0, 0), (1426, .istore 7, 2, 0, 0), (1428, .aload_n 2, 1, 0, 0), (1429, .invokevirtual 161, 3, 0, 0), (1432, .iload 6, 2, 0, 0), (1434, .if_icmp .eq 5, 3, 0, 1439), (1437, .iconst 0, 1, 0, 0), (1438, .ireturn, 1, 0, 0), (1439, .iload 6, 2, 0, 0), (1441, .ifCond .ne 15, 3, 0, 1456), (1444, .aload_n 3, 1, 0, 0), (1445, .iconst 0, 1, 0, 0), (1446, .laload, 1, 0, 0), (1447, .iload 7, 2, 0, 0), (1449, .i2l, 1, 0, 0), (1450, .lcmp, 1, 0, 0), (1451, .ifCond .eq 5, 3, 0, 1456), (1454, .iconst 0, 1, 0, 0), (1455, .ireturn, 1, 0, 0), (1456, .goto 1198, 3, 0, 2654)]
set_option maxRecDepth 100000 in
theorem tk_lw24 : q_tb code 9 tb_lw24 = true := by decide +kernel
def sim_penaltyOf (g0 : Int32) (σ : q_M) : Prop := q_SimI (fun σ => (∀ E, (F_X8_penaltyOf g0 σ) = .inr E → E ∈ nx_penaltyOf)) (fun σ => P_X9_penaltyOf g0 σ) (W_penaltyOf g0) (F_X9_penaltyOf g0) σ
def to_penaltyOf (g0 : Int32) (σ : q_M) : q_M := (F_X9_penaltyOf g0 (W_penaltyOf g0 σ).2).2
set_option maxRecDepth 100000 in
theorem cw_penaltyOf : Cond.codeWith yL_penaltyOf cL_penaltyOf 4 (some .int) hh_L_penaltyOf ∈ q_W := q_t4 74 rfl rfl
set_option maxRecDepth 100000 in
theorem sw_penaltyOf : Cond.static yL_penaltyOf ∈ q_W := q_t4 73 rfl rfl
set_option maxRecDepth 100000 in
theorem lw_ln_penaltyOf : Cond.methodLink RL 243 yL_penaltyOf ∈ q_W := q_t4 72 rfl rfl
set_option maxRecDepth 100000 in
set_option maxHeartbeats 2000000 in
theorem lw_penaltyOf {α β : Nat → Nat} {D : va_G} {κ : Nat → ClassId} {p : Program} {l : Launch} {e : Env} {s : State} {m : MethodId} {args : Array Value} {below : List Frame} {meth : Method} {c : Code} {A : Nat → Prop} {Q : State → Prop} {n1 n2 : Nat} (C : q_Cx α β D κ p s m args meth c code RL (fun _ => none) (fun _ => none) 9 A) (hfl : l.flags = flags0) {L : Nat} {xs : Nat → Int32} (hX : q_scr α s A L xs) {i : Nat} (hi : i + 4 ≤ L) (hL : L ≤ 2048) (hn : n1 + 12 ≤ 600000) (hn2 : n2 + 2000 ≤ 7000000) (σ : q_M) (hs : sim_penaltyOf (xs (i + 1)) σ) (kk : q_St α β D κ p l e room_1 s m args below meth c 9 A Q (n1 + 12) (n2 + 2000) (to_penaltyOf (xs (i + 1)) σ) [(0, .ref 239), (1, .ref 220), (2, .ref 229), (3, .ref 237), (4, .ref 238), (5, .int (nI i))] 2654 []) : q_St α β D κ p l e room_1 s m args below meth c 9 A Q n1 n2 σ [(0, .ref 239), (1, .ref 220), (2, .ref 229), (3, .ref 237), (4, .ref 238), (5, .int (nI i))] 1403 [] := by
  obtain ⟨hPW, hPF, ht, ho⟩ := hs
  have hE := hPW
  refine q_go C tk_lw24 [(0, 1)] [] (pc1 := 1404) (σ1 := σ) (lv1 := [(0, .ref 239), (1, .ref 220), (2, .ref 229), (3, .ref 237), (4, .ref 238), (5, .int (nI i))]) (st1 := [.ref 220]) rfl trivial ?_
  refine q_go C tk_lw24 [(1, 4)] [] (pc1 := 1409) (σ1 := σ) (lv1 := [(0, .ref 239), (1, .ref 220), (2, .ref 229), (3, .ref 237), (4, .ref 238), (5, .int (nI i))]) (st1 := [.int (nI i + 1), .ref 239, .ref 220]) rfl trivial ?_
  refine q_sld C hX (j := i + 1) (nI_add i 1) (by omega) hL (q_dc (z := (1409, .iaload, 1, 0, 0)) tk_lw24 5 rfl) ?_
  refine q_nrm 1410 [.int (xs (i + 1)), .ref 220] _ _ rfl rfl rfl rfl ?_
  refine q_go C tk_lw24 [(6, 1)] [] (pc1 := 1411) (σ1 := σ) (lv1 := [(0, .ref 239), (1, .ref 220), (2, .ref 229), (3, .ref 237), (4, .ref 238), (5, .int (nI i))]) (st1 := [.ref 237, .int (xs (i + 1)), .ref 220]) rfl trivial ?_
  refine q_callW (n := 3) C hfl cw_penaltyOf (by decide +kernel) q_init_L sw_penaltyOf lw_ln_penaltyOf (As := [.ref 220, .int (xs (i + 1)), .ref 237]) (kw_penaltyOf (xs (i + 1)) σ hE) (rest := []) rfl rfl (q_dc (z := (1411, .invokestatic 243, 3, 0, 0)) tk_lw24 7 rfl) (Nat.le_of_ble_eq_true rfl) ⟨(Nat.le_of_ble_eq_true rfl), (Nat.le_of_ble_eq_true rfl)⟩ ⟨(by show n1 + 1 ≤ 603072; omega), (by show n2 + 6 ≤ 7215209; omega)⟩ ?_
  refine q_nrm 1414 [.int (W_penaltyOf (xs (i + 1)) σ).1] (n1 + 1) (n2 + 6) rfl rfl rfl rfl ?_
  generalize hk9 : (W_penaltyOf (xs (i + 1)) σ).1 = k9 at ht ho ⊢
  refine q_go C tk_lw24 [(8, 2)] [] (pc1 := 1417) (σ1 := (W_penaltyOf (xs (i + 1)) σ).2) (lv1 := (6, .int k9) :: [(0, .ref 239), (1, .ref 220), (2, .ref 229), (3, .ref 237), (4, .ref 238), (5, .int (nI i))]) (st1 := [.ref 229]) rfl trivial ?_
  refine q_go C tk_lw24 [(10, 4)] [] (pc1 := 1422) (σ1 := (W_penaltyOf (xs (i + 1)) σ).2) (lv1 := ((6, .int k9) :: [(0, .ref 239), (1, .ref 220), (2, .ref 229), (3, .ref 237), (4, .ref 238), (5, .int (nI i))])) (st1 := [.int (nI i + 1), .ref 239, .ref 229]) rfl trivial ?_
  refine q_sld C hX (j := i + 1) (nI_add i 1) (by omega) hL (q_dc (z := (1422, .iaload, 1, 0, 0)) tk_lw24 14 rfl) ?_
  refine q_nrm 1423 [.int (xs (i + 1)), .ref 229] _ _ rfl rfl rfl rfl ?_
  refine q_callV C hfl mw_X9_penaltyOf mi_X9_penaltyOf me_X9_penaltyOf lk_L_245 (k_X9_penaltyOf (xs (i + 1)) (W_penaltyOf (xs (i + 1)) σ).2 hPF) (rest := []) rfl rfl rfl (by decide) (by decide) rfl (q_dc (z := (1423, .invokevirtual 245, 3, 0, 0)) tk_lw24 15 rfl) (Nat.le_of_ble_eq_true rfl) ⟨(Nat.le_of_ble_eq_true rfl), (Nat.le_of_ble_eq_true rfl)⟩ ⟨(by show n1 + 1 + 0 ≤ 603072; omega), (by show n2 + 6 + 0 ≤ 7215209; omega)⟩ ?_
  refine q_nrm 1426 [.int (F_X9_penaltyOf (xs (i + 1)) (W_penaltyOf (xs (i + 1)) σ).2).1] (n1 + 1) (n2 + 6) rfl rfl rfl rfl ?_
  generalize hb9 : (F_X9_penaltyOf (xs (i + 1)) (W_penaltyOf (xs (i + 1)) σ).2).1 = b9 at ho ⊢
  unfold to_penaltyOf at kk
  generalize ht9 : (F_X9_penaltyOf (xs (i + 1)) (W_penaltyOf (xs (i + 1)) σ).2).2 = τ at ht ho kk ⊢
  refine q_go C tk_lw24 [(16, 2)] [] (pc1 := 1429) (σ1 := τ) (lv1 := (7, .int b9) :: ((6, .int k9) :: [(0, .ref 239), (1, .ref 220), (2, .ref 229), (3, .ref 237), (4, .ref 238), (5, .int (nI i))])) (st1 := [.ref 229]) rfl trivial ?_
  refine q_callV C hfl mw_X9_thrown mi_X9_thrown me_X9_thrown lk_L_161 (k_X9_thrown τ) (rest := []) rfl rfl rfl (by decide) (by decide) rfl (q_dc (z := (1429, .invokevirtual 161, 3, 0, 0)) tk_lw24 18 rfl) (Nat.le_of_ble_eq_true rfl) ⟨(Nat.le_of_ble_eq_true rfl), (Nat.le_of_ble_eq_true rfl)⟩ ⟨(by show n1 + 1 + 0 ≤ 603072; omega), (by show n2 + 6 + 0 ≤ 7215209; omega)⟩ ?_
  refine q_nrm 1432 [.int (F_X9_thrown τ)] (n1 + 1) (n2 + 6) rfl rfl rfl rfl ?_
  refine q_go C tk_lw24 [(19, 2)] [true] (pc1 := 1439) (σ1 := τ) (lv1 := ((7, .int b9) :: (6, .int k9) :: [(0, .ref 239), (1, .ref 220), (2, .ref 229), (3, .ref 237), (4, .ref 238), (5, .int (nI i))])) (st1 := []) rfl ⟨(by unfold F_X9_thrown; exact ht), trivial⟩ ?_
  by_cases c0 : k9 = 0
  · have ho := ho c0
    refine q_go C tk_lw24 [(23, 8)] [false] (pc1 := 1451) (σ1 := τ) (lv1 := ((7, .int b9) :: (6, .int k9) :: [(0, .ref 239), (1, .ref 220), (2, .ref 229), (3, .ref 237), (4, .ref 238), (5, .int (nI i))])) (st1 := [.int (lg_cmp (τ 237 0).toInt64 b9.toInt64)]) rfl ⟨c0, rfl, (by unfold vp_in; decide), trivial⟩ ?_
    refine q_go C tk_lw24 [(31, 1), (34, 1)] [true] (pc1 := 2654) (σ1 := τ) (lv1 := ((7, .int b9) :: (6, .int k9) :: [(0, .ref 239), (1, .ref 220), (2, .ref 229), (3, .ref 237), (4, .ref 238), (5, .int (nI i))])) (st1 := []) rfl ⟨(by rw [ho]; exact q_cmp0 _), trivial⟩ ?_
    refine q_widen (k := n1 + 12) (n := n2 + 2000) (by omega) (by omega) ?_
    exact q_lvpick [2, 3, 4, 5, 6, 7] rfl kk
  · refine q_go C tk_lw24 [(23, 2), (34, 1)] [true] (pc1 := 2654) (σ1 := τ) (lv1 := ((7, .int b9) :: (6, .int k9) :: [(0, .ref 239), (1, .ref 220), (2, .ref 229), (3, .ref 237), (4, .ref 238), (5, .int (nI i))])) (st1 := []) rfl ⟨c0, trivial⟩ ?_
    refine q_widen (k := n1 + 12) (n := n2 + 2000) (by omega) (by omega) ?_
    exact q_lvpick [2, 3, 4, 5, 6, 7] rfl kk
