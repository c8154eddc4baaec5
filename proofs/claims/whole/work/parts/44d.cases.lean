/-! The law's loop: more cases (d). -/
def tb_lw37 : List q_E := [(2207, .aload_n 1, 1, 0, 0), (2208, .aload_n 3, 1, 0, 0), (2209, .invokestatic 283, 3, 0, 0), (2212, .istore 6, 2, 0, 0), (2214, .aload_n 2, 1, 0, 0), (2215, .invokevirtual 285, 3, 0, 0), (2218, .istore 7, 2, 0, 0), (2220, .aload_n 2, 1, 0, 0), (2221, .invokevirtual 161, 3, 0, 0), (2224, .iload 6, 2, 0, 0), (2226, .if_icmp .eq 5, 3, 0, 2231), (2229, .iconst 0, 1, 0, 0), (2230, .ireturn, 1, 0, 0), (2231, .iload 6, 2, 0, 0), (2233, .ifCond .ne 15, 3, 0, 2248), (2236, .aload_n 3, 1, 0, 0), (2237, .iconst 0, 1, 0, 0), (2238, .laload, 1, 0, 0), (2239, .iload 7, 2, 0, 0), (2241, .i2l, 1, 0, 0), (2242, .lcmp, 1, 0, 0), (2243, .ifCond .eq 5, 3, 0, 2248), (2246, .iconst 0, 1, 0, 0), (2247, .ireturn, 1, 0, 0), (2248, .goto 406, 3, 0, 2654)]
set_option maxRecDepth 100000 in
theorem tk_lw37 : q_tb code 9 tb_lw37 = true := by decide +kernel
def sim_refusedTeam (σ : q_M) : Prop := q_SimI (fun σ => (∀ E, (F_X8_refusedTeam σ) = .inr E → E ∈ nx_refusedTeam)) (fun σ => True) (W_refusedTeam) (F_X9_refusedTeam) σ
def to_refusedTeam (σ : q_M) : q_M := (F_X9_refusedTeam (W_refusedTeam σ).2).2
set_option maxRecDepth 100000 in
theorem cw_refusedTeam : Cond.codeWith yL_refusedTeam cL_refusedTeam 3 (some .int) hh_L_refusedTeam ∈ q_W := q_t4 238 rfl rfl
set_option maxRecDepth 100000 in
theorem sw_refusedTeam : Cond.static yL_refusedTeam ∈ q_W := q_t4 237 rfl rfl
set_option maxRecDepth 100000 in
theorem lw_ln_refusedTeam : Cond.methodLink RL 283 yL_refusedTeam ∈ q_W := q_t4 236 rfl rfl
set_option maxRecDepth 100000 in
set_option maxHeartbeats 2000000 in
theorem lw_refusedTeam {α β : Nat → Nat} {D : va_G} {κ : Nat → ClassId} {p : Program} {l : Launch} {e : Env} {s : State} {m : MethodId} {args : Array Value} {below : List Frame} {meth : Method} {c : Code} {A : Nat → Prop} {Q : State → Prop} {n1 n2 : Nat} (C : q_Cx α β D κ p s m args meth c code RL (fun _ => none) (fun _ => none) 9 A) (hfl : l.flags = flags0) {L : Nat} {xs : Nat → Int32} (hX : q_scr α s A L xs) {i : Nat} (hi : i + 4 ≤ L) (hL : L ≤ 2048) (hn : n1 + 12 ≤ 600000) (hn2 : n2 + 2000 ≤ 7000000) (σ : q_M) (hs : sim_refusedTeam σ) (kk : q_St α β D κ p l e room_1 s m args below meth c 9 A Q (n1 + 12) (n2 + 2000) (to_refusedTeam σ) [(0, .ref 239), (1, .ref 220), (2, .ref 229), (3, .ref 237), (4, .ref 238), (5, .int (nI i))] 2654 []) : q_St α β D κ p l e room_1 s m args below meth c 9 A Q n1 n2 σ [(0, .ref 239), (1, .ref 220), (2, .ref 229), (3, .ref 237), (4, .ref 238), (5, .int (nI i))] 2207 [] := by
  obtain ⟨hPW, hPF, ht, ho⟩ := hs
  have hE := hPW
  refine q_go C tk_lw37 [(0, 1)] [] (pc1 := 2208) (σ1 := σ) (lv1 := [(0, .ref 239), (1, .ref 220), (2, .ref 229), (3, .ref 237), (4, .ref 238), (5, .int (nI i))]) (st1 := [.ref 220]) rfl trivial ?_
  refine q_go C tk_lw37 [(1, 1)] [] (pc1 := 2209) (σ1 := σ) (lv1 := [(0, .ref 239), (1, .ref 220), (2, .ref 229), (3, .ref 237), (4, .ref 238), (5, .int (nI i))]) (st1 := [.ref 237, .ref 220]) rfl trivial ?_
  refine q_callW (n := 2) C hfl cw_refusedTeam (by decide +kernel) q_init_L sw_refusedTeam lw_ln_refusedTeam (As := [.ref 220, .ref 237]) (kw_refusedTeam σ hE) (rest := []) rfl rfl (q_dc (z := (2209, .invokestatic 283, 3, 0, 0)) tk_lw37 2 rfl) (Nat.le_of_ble_eq_true rfl) ⟨(Nat.le_of_ble_eq_true rfl), (Nat.le_of_ble_eq_true rfl)⟩ ⟨(by show n1 + 1 ≤ 603072; omega), (by show n2 + 6 ≤ 7215209; omega)⟩ ?_
  refine q_nrm 2212 [.int (W_refusedTeam σ).1] (n1 + 1) (n2 + 6) rfl rfl rfl rfl ?_
  generalize hk9 : (W_refusedTeam σ).1 = k9 at ht ho ⊢
  refine q_go C tk_lw37 [(3, 2)] [] (pc1 := 2215) (σ1 := (W_refusedTeam σ).2) (lv1 := (6, .int k9) :: [(0, .ref 239), (1, .ref 220), (2, .ref 229), (3, .ref 237), (4, .ref 238), (5, .int (nI i))]) (st1 := [.ref 229]) rfl trivial ?_
  refine q_callV C hfl mw_X9_refusedTeam mi_X9_refusedTeam me_X9_refusedTeam lk_L_285 (k_X9_refusedTeam (W_refusedTeam σ).2) (rest := []) rfl rfl rfl (by decide) (by decide) rfl (q_dc (z := (2215, .invokevirtual 285, 3, 0, 0)) tk_lw37 5 rfl) (Nat.le_of_ble_eq_true rfl) ⟨(Nat.le_of_ble_eq_true rfl), (Nat.le_of_ble_eq_true rfl)⟩ ⟨(by show n1 + 1 + 0 ≤ 603072; omega), (by show n2 + 6 + 0 ≤ 7215209; omega)⟩ ?_
  refine q_nrm 2218 [.int (F_X9_refusedTeam (W_refusedTeam σ).2).1] (n1 + 1) (n2 + 6) rfl rfl rfl rfl ?_
  generalize hb9 : (F_X9_refusedTeam (W_refusedTeam σ).2).1 = b9 at ho ⊢
  unfold to_refusedTeam at kk
  generalize ht9 : (F_X9_refusedTeam (W_refusedTeam σ).2).2 = τ at ht ho kk ⊢
  refine q_go C tk_lw37 [(6, 2)] [] (pc1 := 2221) (σ1 := τ) (lv1 := (7, .int b9) :: ((6, .int k9) :: [(0, .ref 239), (1, .ref 220), (2, .ref 229), (3, .ref 237), (4, .ref 238), (5, .int (nI i))])) (st1 := [.ref 229]) rfl trivial ?_
  refine q_callV C hfl mw_X9_thrown mi_X9_thrown me_X9_thrown lk_L_161 (k_X9_thrown τ) (rest := []) rfl rfl rfl (by decide) (by decide) rfl (q_dc (z := (2221, .invokevirtual 161, 3, 0, 0)) tk_lw37 8 rfl) (Nat.le_of_ble_eq_true rfl) ⟨(Nat.le_of_ble_eq_true rfl), (Nat.le_of_ble_eq_true rfl)⟩ ⟨(by show n1 + 1 + 0 ≤ 603072; omega), (by show n2 + 6 + 0 ≤ 7215209; omega)⟩ ?_
  refine q_nrm 2224 [.int (F_X9_thrown τ)] (n1 + 1) (n2 + 6) rfl rfl rfl rfl ?_
  refine q_go C tk_lw37 [(9, 2)] [true] (pc1 := 2231) (σ1 := τ) (lv1 := ((7, .int b9) :: (6, .int k9) :: [(0, .ref 239), (1, .ref 220), (2, .ref 229), (3, .ref 237), (4, .ref 238), (5, .int (nI i))])) (st1 := []) rfl ⟨(by unfold F_X9_thrown; exact ht), trivial⟩ ?_
  by_cases c0 : k9 = 0
  · have ho := ho c0
    refine q_go C tk_lw37 [(13, 8)] [false] (pc1 := 2243) (σ1 := τ) (lv1 := ((7, .int b9) :: (6, .int k9) :: [(0, .ref 239), (1, .ref 220), (2, .ref 229), (3, .ref 237), (4, .ref 238), (5, .int (nI i))])) (st1 := [.int (lg_cmp (τ 237 0).toInt64 b9.toInt64)]) rfl ⟨c0, rfl, (by unfold vp_in; decide), trivial⟩ ?_
    refine q_go C tk_lw37 [(21, 1), (24, 1)] [true] (pc1 := 2654) (σ1 := τ) (lv1 := ((7, .int b9) :: (6, .int k9) :: [(0, .ref 239), (1, .ref 220), (2, .ref 229), (3, .ref 237), (4, .ref 238), (5, .int (nI i))])) (st1 := []) rfl ⟨(by rw [ho]; exact q_cmp0 _), trivial⟩ ?_
    refine q_widen (k := n1 + 12) (n := n2 + 2000) (by omega) (by omega) ?_
    exact q_lvpick [2, 3, 4, 5, 6, 7] rfl kk
  · refine q_go C tk_lw37 [(13, 2), (24, 1)] [true] (pc1 := 2654) (σ1 := τ) (lv1 := ((7, .int b9) :: (6, .int k9) :: [(0, .ref 239), (1, .ref 220), (2, .ref 229), (3, .ref 237), (4, .ref 238), (5, .int (nI i))])) (st1 := []) rfl ⟨c0, trivial⟩ ?_
    refine q_widen (k := n1 + 12) (n := n2 + 2000) (by omega) (by omega) ?_
    exact q_lvpick [2, 3, 4, 5, 6, 7] rfl kk
def tb_lw38 : List q_E := [(2251, .aload_n 1, 1, 0, 0), (2252, .aload_n 0, 1, 0, 0), (2253, .iload 5, 2, 0, 0), (2255, .iconst 1, 1, 1, 0), (2256, .iadd, 1, 0, 0), (2257, .iaload, 1, 0, 0), (2258, .aload_n 3, 1, 0, 0), (2259, .invokestatic 286, 3, 0, 0), (2262, .istore 6, 2, 0, 0), (2264, .aload_n 2, 1, 0, 0), (2265, .aload_n 0, 1, 0, 0), (2266, .iload 5, 2, 0, 0), (2268, .iconst 1, 1, 1, 0), (2269, .iadd, 1, 0, 0), (2270, .iaload, 1, 0, 0), (2271, .invokevirtual 288, 3, 0, 0), (2274, .istore 7, 2, 0, 0), (2276, .aload_n 2, 1, 0, 0), (2277, .invokevirtual 161, 3, 0, 0), (2280, .iload 6, 2, 0, 0), (2282, .if_icmp .eq 5, 3, 0, 2287), (2285, .iconst 0, 1, 0, 0), (2286, .ireturn, 1, 0, 0), (2287, .iload 6, 2, 0, 0), (2289, .ifCond .ne 15, 3, 0, 2304), (2292, .aload_n 3, 1, 0, 0), (2293, .iconst 0, 1, 0, 0), (2294, .laload, 1, 0, 0), (2295, .iload 7, 2, 0, 0), (2297, .i2l, 1, 0, 0), (2298, .lcmp, 1, 0, 0), (2299, .ifCond .eq 5, 3, 0, 2304), (2302, .iconst 0, 1, 0, 0), (2303, .ireturn, 1, 0, 0), (2304, .goto 350, 3, 0, 2654)]
set_option maxRecDepth 100000 in
theorem tk_lw38 : q_tb code 9 tb_lw38 = true := by decide +kernel
def sim_writeBanner (g0 : Int32) (σ : q_M) : Prop := q_SimI (fun σ => P_X8_writeBanner g0 σ ∧ (∀ E, (F_X8_writeBanner g0 σ).1 = .inr E → E ∈ nx_writeBanner)) (fun σ => P_X9_writeBanner g0 σ) (W_writeBanner g0) (F_X9_writeBanner g0) σ
def to_writeBanner (g0 : Int32) (σ : q_M) : q_M := (F_X9_writeBanner g0 (W_writeBanner g0 σ).2).2
set_option maxRecDepth 100000 in
theorem cw_writeBanner : Cond.codeWith yL_writeBanner cL_writeBanner 4 (some .int) hh_L_writeBanner ∈ q_W := q_t5 5 rfl rfl
set_option maxRecDepth 100000 in
theorem sw_writeBanner : Cond.static yL_writeBanner ∈ q_W := q_t5 4 rfl rfl
set_option maxRecDepth 100000 in
theorem lw_ln_writeBanner : Cond.methodLink RL 286 yL_writeBanner ∈ q_W := q_t5 3 rfl rfl
set_option maxRecDepth 100000 in
set_option maxHeartbeats 2000000 in
theorem lw_writeBanner {α β : Nat → Nat} {D : va_G} {κ : Nat → ClassId} {p : Program} {l : Launch} {e : Env} {s : State} {m : MethodId} {args : Array Value} {below : List Frame} {meth : Method} {c : Code} {A : Nat → Prop} {Q : State → Prop} {n1 n2 : Nat} (C : q_Cx α β D κ p s m args meth c code RL (fun _ => none) (fun _ => none) 9 A) (hfl : l.flags = flags0) {L : Nat} {xs : Nat → Int32} (hX : q_scr α s A L xs) {i : Nat} (hi : i + 4 ≤ L) (hL : L ≤ 2048) (hn : n1 + 12 ≤ 600000) (hn2 : n2 + 2000 ≤ 7000000) (σ : q_M) (hs : sim_writeBanner (xs (i + 1)) σ) (kk : q_St α β D κ p l e room_1 s m args below meth c 9 A Q (n1 + 12) (n2 + 2000) (to_writeBanner (xs (i + 1)) σ) [(0, .ref 239), (1, .ref 220), (2, .ref 229), (3, .ref 237), (4, .ref 238), (5, .int (nI i))] 2654 []) : q_St α β D κ p l e room_1 s m args below meth c 9 A Q n1 n2 σ [(0, .ref 239), (1, .ref 220), (2, .ref 229), (3, .ref 237), (4, .ref 238), (5, .int (nI i))] 2251 [] := by
  obtain ⟨hPW, hPF, ht, ho⟩ := hs
  obtain ⟨hPW, hE⟩ := hPW
  refine q_go C tk_lw38 [(0, 1)] [] (pc1 := 2252) (σ1 := σ) (lv1 := [(0, .ref 239), (1, .ref 220), (2, .ref 229), (3, .ref 237), (4, .ref 238), (5, .int (nI i))]) (st1 := [.ref 220]) rfl trivial ?_
  refine q_go C tk_lw38 [(1, 4)] [] (pc1 := 2257) (σ1 := σ) (lv1 := [(0, .ref 239), (1, .ref 220), (2, .ref 229), (3, .ref 237), (4, .ref 238), (5, .int (nI i))]) (st1 := [.int (nI i + 1), .ref 239, .ref 220]) rfl trivial ?_
  refine q_sld C hX (j := i + 1) (nI_add i 1) (by omega) hL (q_dc (z := (2257, .iaload, 1, 0, 0)) tk_lw38 5 rfl) ?_
  refine q_nrm 2258 [.int (xs (i + 1)), .ref 220] _ _ rfl rfl rfl rfl ?_
  refine q_go C tk_lw38 [(6, 1)] [] (pc1 := 2259) (σ1 := σ) (lv1 := [(0, .ref 239), (1, .ref 220), (2, .ref 229), (3, .ref 237), (4, .ref 238), (5, .int (nI i))]) (st1 := [.ref 237, .int (xs (i + 1)), .ref 220]) rfl trivial ?_
  refine q_callW (n := 3) C hfl cw_writeBanner (by decide +kernel) q_init_L sw_writeBanner lw_ln_writeBanner (As := [.ref 220, .int (xs (i + 1)), .ref 237]) (kw_writeBanner (xs (i + 1)) σ hPW hE) (rest := []) rfl rfl (q_dc (z := (2259, .invokestatic 286, 3, 0, 0)) tk_lw38 7 rfl) (Nat.le_of_ble_eq_true rfl) ⟨(Nat.le_of_ble_eq_true rfl), (Nat.le_of_ble_eq_true rfl)⟩ ⟨(by show n1 + 10 ≤ 603072; omega), (by show n2 + 1922 ≤ 7215209; omega)⟩ ?_
  refine q_nrm 2262 [.int (W_writeBanner (xs (i + 1)) σ).1] (n1 + 10) (n2 + 1922) rfl rfl rfl rfl ?_
  generalize hk9 : (W_writeBanner (xs (i + 1)) σ).1 = k9 at ht ho ⊢
  refine q_go C tk_lw38 [(8, 2)] [] (pc1 := 2265) (σ1 := (W_writeBanner (xs (i + 1)) σ).2) (lv1 := (6, .int k9) :: [(0, .ref 239), (1, .ref 220), (2, .ref 229), (3, .ref 237), (4, .ref 238), (5, .int (nI i))]) (st1 := [.ref 229]) rfl trivial ?_
  refine q_go C tk_lw38 [(10, 4)] [] (pc1 := 2270) (σ1 := (W_writeBanner (xs (i + 1)) σ).2) (lv1 := ((6, .int k9) :: [(0, .ref 239), (1, .ref 220), (2, .ref 229), (3, .ref 237), (4, .ref 238), (5, .int (nI i))])) (st1 := [.int (nI i + 1), .ref 239, .ref 229]) rfl trivial ?_
  refine q_sld C hX (j := i + 1) (nI_add i 1) (by omega) hL (q_dc (z := (2270, .iaload, 1, 0, 0)) tk_lw38 14 rfl) ?_
  refine q_nrm 2271 [.int (xs (i + 1)), .ref 229] _ _ rfl rfl rfl rfl ?_
  refine q_callV C hfl mw_X9_writeBanner mi_X9_writeBanner me_X9_writeBanner lk_L_288 (k_X9_writeBanner (xs (i + 1)) (W_writeBanner (xs (i + 1)) σ).2 hPF) (rest := []) rfl rfl rfl (by decide) (by decide) rfl (q_dc (z := (2271, .invokevirtual 288, 3, 0, 0)) tk_lw38 15 rfl) (Nat.le_of_ble_eq_true rfl) ⟨(Nat.le_of_ble_eq_true rfl), (Nat.le_of_ble_eq_true rfl)⟩ ⟨(by show n1 + 10 + 0 ≤ 603072; omega), (by show n2 + 1922 + 0 ≤ 7215209; omega)⟩ ?_
  refine q_nrm 2274 [.int (F_X9_writeBanner (xs (i + 1)) (W_writeBanner (xs (i + 1)) σ).2).1] (n1 + 10) (n2 + 1922) rfl rfl rfl rfl ?_
  generalize hb9 : (F_X9_writeBanner (xs (i + 1)) (W_writeBanner (xs (i + 1)) σ).2).1 = b9 at ho ⊢
  unfold to_writeBanner at kk
  generalize ht9 : (F_X9_writeBanner (xs (i + 1)) (W_writeBanner (xs (i + 1)) σ).2).2 = τ at ht ho kk ⊢
  refine q_go C tk_lw38 [(16, 2)] [] (pc1 := 2277) (σ1 := τ) (lv1 := (7, .int b9) :: ((6, .int k9) :: [(0, .ref 239), (1, .ref 220), (2, .ref 229), (3, .ref 237), (4, .ref 238), (5, .int (nI i))])) (st1 := [.ref 229]) rfl trivial ?_
  refine q_callV C hfl mw_X9_thrown mi_X9_thrown me_X9_thrown lk_L_161 (k_X9_thrown τ) (rest := []) rfl rfl rfl (by decide) (by decide) rfl (q_dc (z := (2277, .invokevirtual 161, 3, 0, 0)) tk_lw38 18 rfl) (Nat.le_of_ble_eq_true rfl) ⟨(Nat.le_of_ble_eq_true rfl), (Nat.le_of_ble_eq_true rfl)⟩ ⟨(by show n1 + 10 + 0 ≤ 603072; omega), (by show n2 + 1922 + 0 ≤ 7215209; omega)⟩ ?_
  refine q_nrm 2280 [.int (F_X9_thrown τ)] (n1 + 10) (n2 + 1922) rfl rfl rfl rfl ?_
  refine q_go C tk_lw38 [(19, 2)] [true] (pc1 := 2287) (σ1 := τ) (lv1 := ((7, .int b9) :: (6, .int k9) :: [(0, .ref 239), (1, .ref 220), (2, .ref 229), (3, .ref 237), (4, .ref 238), (5, .int (nI i))])) (st1 := []) rfl ⟨(by unfold F_X9_thrown; exact ht), trivial⟩ ?_
  by_cases c0 : k9 = 0
  · have ho := ho c0
    refine q_go C tk_lw38 [(23, 8)] [false] (pc1 := 2299) (σ1 := τ) (lv1 := ((7, .int b9) :: (6, .int k9) :: [(0, .ref 239), (1, .ref 220), (2, .ref 229), (3, .ref 237), (4, .ref 238), (5, .int (nI i))])) (st1 := [.int (lg_cmp (τ 237 0).toInt64 b9.toInt64)]) rfl ⟨c0, rfl, (by unfold vp_in; decide), trivial⟩ ?_
    refine q_go C tk_lw38 [(31, 1), (34, 1)] [true] (pc1 := 2654) (σ1 := τ) (lv1 := ((7, .int b9) :: (6, .int k9) :: [(0, .ref 239), (1, .ref 220), (2, .ref 229), (3, .ref 237), (4, .ref 238), (5, .int (nI i))])) (st1 := []) rfl ⟨(by rw [ho]; exact q_cmp0 _), trivial⟩ ?_
    refine q_widen (k := n1 + 12) (n := n2 + 2000) (by omega) (by omega) ?_
    exact q_lvpick [2, 3, 4, 5, 6, 7] rfl kk
  · refine q_go C tk_lw38 [(23, 2), (34, 1)] [true] (pc1 := 2654) (σ1 := τ) (lv1 := ((7, .int b9) :: (6, .int k9) :: [(0, .ref 239), (1, .ref 220), (2, .ref 229), (3, .ref 237), (4, .ref 238), (5, .int (nI i))])) (st1 := []) rfl ⟨c0, trivial⟩ ?_
    refine q_widen (k := n1 + 12) (n := n2 + 2000) (by omega) (by omega) ?_
    exact q_lvpick [2, 3, 4, 5, 6, 7] rfl kk
def tb_lw39 : List q_E := [(2307, .aload_n 1, 1, 0, 0), (2308, .aload_n 0, 1, 0, 0), (2309, .iload 5, 2, 0, 0), (2311, .iconst 1, 1, 1, 0), (2312, .iadd, 1, 0, 0), (2313, .iaload, 1, 0, 0), (2314, .aload_n 3, 1, 0, 0), (2315, .invokestatic 289, 3, 0, 0), (2318, .istore 6, 2, 0, 0), (2320, .aload_n 2, 1, 0, 0), (2321, .aload_n 0, 1, 0, 0), (2322, .iload 5, 2, 0, 0), (2324, .iconst 1, 1, 1, 0), (2325, .iadd, 1, 0, 0), (2326, .iaload, 1, 0, 0), (2327, .invokevirtual 291, 3, 0, 0), (2330, .istore 7, 2, 0, 0), (2332, .aload_n 2, 1, 0, 0), (2333, .invokevirtual 161, 3, 0, 0), (2336, .iload 6, 2, 0, 0), (2338, .if_icmp .eq 5, 3, 0, 2343), (2341, .iconst 0, 1, 0, 0), (2342, .ireturn, 1, 0, 0), (2343, .iload 6, 2, 0, 0), (2345, .ifCond .ne 15, 3, 0, 2360), (2348, .aload_n 3, 1, 0, 0), (2349, .iconst 0, 1, 0, 0), (2350, .laload, 1, 0, 0), (2351, .iload 7, 2, 0, 0), (2353, .i2l, 1, 0, 0), (2354, .lcmp, 1, 0, 0), (2355, .ifCond .eq 5, 3, 0, 2360), (2358, .iconst 0, 1, 0, 0), (2359, .ireturn, 1, 0, 0), (2360, .goto 294, 3, 0, 2654)]
set_option maxRecDepth 100000 in
theorem tk_lw39 : q_tb code 9 tb_lw39 = true := by decide +kernel
def sim_bannerAt (g0 : Int32) (σ : q_M) : Prop := q_SimI (fun σ => P_X8_bannerAt g0 σ ∧ (∀ E, (F_X8_bannerAt g0 σ) = .inr E → E ∈ nx_bannerAt)) (fun σ => P_X9_bannerAt g0 σ) (W_bannerAt g0) (F_X9_bannerAt g0) σ
def to_bannerAt (g0 : Int32) (σ : q_M) : q_M := (F_X9_bannerAt g0 (W_bannerAt g0 σ).2).2
set_option maxRecDepth 100000 in
theorem cw_bannerAt : Cond.codeWith yL_bannerAt cL_bannerAt 4 (some .int) hh_L_bannerAt ∈ q_W := q_t6 53 rfl rfl
set_option maxRecDepth 100000 in
theorem sw_bannerAt : Cond.static yL_bannerAt ∈ q_W := q_t6 52 rfl rfl
set_option maxRecDepth 100000 in
theorem lw_ln_bannerAt : Cond.methodLink RL 289 yL_bannerAt ∈ q_W := q_t6 51 rfl rfl
set_option maxRecDepth 100000 in
set_option maxHeartbeats 2000000 in
theorem lw_bannerAt {α β : Nat → Nat} {D : va_G} {κ : Nat → ClassId} {p : Program} {l : Launch} {e : Env} {s : State} {m : MethodId} {args : Array Value} {below : List Frame} {meth : Method} {c : Code} {A : Nat → Prop} {Q : State → Prop} {n1 n2 : Nat} (C : q_Cx α β D κ p s m args meth c code RL (fun _ => none) (fun _ => none) 9 A) (hfl : l.flags = flags0) {L : Nat} {xs : Nat → Int32} (hX : q_scr α s A L xs) {i : Nat} (hi : i + 4 ≤ L) (hL : L ≤ 2048) (hn : n1 + 12 ≤ 600000) (hn2 : n2 + 2000 ≤ 7000000) (σ : q_M) (hs : sim_bannerAt (xs (i + 1)) σ) (kk : q_St α β D κ p l e room_1 s m args below meth c 9 A Q (n1 + 12) (n2 + 2000) (to_bannerAt (xs (i + 1)) σ) [(0, .ref 239), (1, .ref 220), (2, .ref 229), (3, .ref 237), (4, .ref 238), (5, .int (nI i))] 2654 []) : q_St α β D κ p l e room_1 s m args below meth c 9 A Q n1 n2 σ [(0, .ref 239), (1, .ref 220), (2, .ref 229), (3, .ref 237), (4, .ref 238), (5, .int (nI i))] 2307 [] := by
  obtain ⟨hPW, hPF, ht, ho⟩ := hs
  obtain ⟨hPW, hE⟩ := hPW
  refine q_go C tk_lw39 [(0, 1)] [] (pc1 := 2308) (σ1 := σ) (lv1 := [(0, .ref 239), (1, .ref 220), (2, .ref 229), (3, .ref 237), (4, .ref 238), (5, .int (nI i))]) (st1 := [.ref 220]) rfl trivial ?_
  refine q_go C tk_lw39 [(1, 4)] [] (pc1 := 2313) (σ1 := σ) (lv1 := [(0, .ref 239), (1, .ref 220), (2, .ref 229), (3, .ref 237), (4, .ref 238), (5, .int (nI i))]) (st1 := [.int (nI i + 1), .ref 239, .ref 220]) rfl trivial ?_
  refine q_sld C hX (j := i + 1) (nI_add i 1) (by omega) hL (q_dc (z := (2313, .iaload, 1, 0, 0)) tk_lw39 5 rfl) ?_
  refine q_nrm 2314 [.int (xs (i + 1)), .ref 220] _ _ rfl rfl rfl rfl ?_
  refine q_go C tk_lw39 [(6, 1)] [] (pc1 := 2315) (σ1 := σ) (lv1 := [(0, .ref 239), (1, .ref 220), (2, .ref 229), (3, .ref 237), (4, .ref 238), (5, .int (nI i))]) (st1 := [.ref 237, .int (xs (i + 1)), .ref 220]) rfl trivial ?_
  refine q_callW (n := 3) C hfl cw_bannerAt (by decide +kernel) q_init_L sw_bannerAt lw_ln_bannerAt (As := [.ref 220, .int (xs (i + 1)), .ref 237]) (kw_bannerAt (xs (i + 1)) σ hPW hE) (rest := []) rfl rfl (q_dc (z := (2315, .invokestatic 289, 3, 0, 0)) tk_lw39 7 rfl) (Nat.le_of_ble_eq_true rfl) ⟨(Nat.le_of_ble_eq_true rfl), (Nat.le_of_ble_eq_true rfl)⟩ ⟨(by show n1 + 1 ≤ 603072; omega), (by show n2 + 6 ≤ 7215209; omega)⟩ ?_
  refine q_nrm 2318 [.int (W_bannerAt (xs (i + 1)) σ).1] (n1 + 1) (n2 + 6) rfl rfl rfl rfl ?_
  generalize hk9 : (W_bannerAt (xs (i + 1)) σ).1 = k9 at ht ho ⊢
  refine q_go C tk_lw39 [(8, 2)] [] (pc1 := 2321) (σ1 := (W_bannerAt (xs (i + 1)) σ).2) (lv1 := (6, .int k9) :: [(0, .ref 239), (1, .ref 220), (2, .ref 229), (3, .ref 237), (4, .ref 238), (5, .int (nI i))]) (st1 := [.ref 229]) rfl trivial ?_
  refine q_go C tk_lw39 [(10, 4)] [] (pc1 := 2326) (σ1 := (W_bannerAt (xs (i + 1)) σ).2) (lv1 := ((6, .int k9) :: [(0, .ref 239), (1, .ref 220), (2, .ref 229), (3, .ref 237), (4, .ref 238), (5, .int (nI i))])) (st1 := [.int (nI i + 1), .ref 239, .ref 229]) rfl trivial ?_
  refine q_sld C hX (j := i + 1) (nI_add i 1) (by omega) hL (q_dc (z := (2326, .iaload, 1, 0, 0)) tk_lw39 14 rfl) ?_
  refine q_nrm 2327 [.int (xs (i + 1)), .ref 229] _ _ rfl rfl rfl rfl ?_
  refine q_callV C hfl mw_X9_bannerAt mi_X9_bannerAt me_X9_bannerAt lk_L_291 (k_X9_bannerAt (xs (i + 1)) (W_bannerAt (xs (i + 1)) σ).2 hPF) (rest := []) rfl rfl rfl (by decide) (by decide) rfl (q_dc (z := (2327, .invokevirtual 291, 3, 0, 0)) tk_lw39 15 rfl) (Nat.le_of_ble_eq_true rfl) ⟨(Nat.le_of_ble_eq_true rfl), (Nat.le_of_ble_eq_true rfl)⟩ ⟨(by show n1 + 1 + 0 ≤ 603072; omega), (by show n2 + 6 + 0 ≤ 7215209; omega)⟩ ?_
  refine q_nrm 2330 [.int (F_X9_bannerAt (xs (i + 1)) (W_bannerAt (xs (i + 1)) σ).2).1] (n1 + 1) (n2 + 6) rfl rfl rfl rfl ?_
  generalize hb9 : (F_X9_bannerAt (xs (i + 1)) (W_bannerAt (xs (i + 1)) σ).2).1 = b9 at ho ⊢
  unfold to_bannerAt at kk
  generalize ht9 : (F_X9_bannerAt (xs (i + 1)) (W_bannerAt (xs (i + 1)) σ).2).2 = τ at ht ho kk ⊢
  refine q_go C tk_lw39 [(16, 2)] [] (pc1 := 2333) (σ1 := τ) (lv1 := (7, .int b9) :: ((6, .int k9) :: [(0, .ref 239), (1, .ref 220), (2, .ref 229), (3, .ref 237), (4, .ref 238), (5, .int (nI i))])) (st1 := [.ref 229]) rfl trivial ?_
  refine q_callV C hfl mw_X9_thrown mi_X9_thrown me_X9_thrown lk_L_161 (k_X9_thrown τ) (rest := []) rfl rfl rfl (by decide) (by decide) rfl (q_dc (z := (2333, .invokevirtual 161, 3, 0, 0)) tk_lw39 18 rfl) (Nat.le_of_ble_eq_true rfl) ⟨(Nat.le_of_ble_eq_true rfl), (Nat.le_of_ble_eq_true rfl)⟩ ⟨(by show n1 + 1 + 0 ≤ 603072; omega), (by show n2 + 6 + 0 ≤ 7215209; omega)⟩ ?_
  refine q_nrm 2336 [.int (F_X9_thrown τ)] (n1 + 1) (n2 + 6) rfl rfl rfl rfl ?_
  refine q_go C tk_lw39 [(19, 2)] [true] (pc1 := 2343) (σ1 := τ) (lv1 := ((7, .int b9) :: (6, .int k9) :: [(0, .ref 239), (1, .ref 220), (2, .ref 229), (3, .ref 237), (4, .ref 238), (5, .int (nI i))])) (st1 := []) rfl ⟨(by unfold F_X9_thrown; exact ht), trivial⟩ ?_
  by_cases c0 : k9 = 0
  · have ho := ho c0
    refine q_go C tk_lw39 [(23, 8)] [false] (pc1 := 2355) (σ1 := τ) (lv1 := ((7, .int b9) :: (6, .int k9) :: [(0, .ref 239), (1, .ref 220), (2, .ref 229), (3, .ref 237), (4, .ref 238), (5, .int (nI i))])) (st1 := [.int (lg_cmp (τ 237 0).toInt64 b9.toInt64)]) rfl ⟨c0, rfl, (by unfold vp_in; decide), trivial⟩ ?_
    refine q_go C tk_lw39 [(31, 1), (34, 1)] [true] (pc1 := 2654) (σ1 := τ) (lv1 := ((7, .int b9) :: (6, .int k9) :: [(0, .ref 239), (1, .ref 220), (2, .ref 229), (3, .ref 237), (4, .ref 238), (5, .int (nI i))])) (st1 := []) rfl ⟨(by rw [ho]; exact q_cmp0 _), trivial⟩ ?_
    refine q_widen (k := n1 + 12) (n := n2 + 2000) (by omega) (by omega) ?_
    exact q_lvpick [2, 3, 4, 5, 6, 7] rfl kk
  · refine q_go C tk_lw39 [(23, 2), (34, 1)] [true] (pc1 := 2654) (σ1 := τ) (lv1 := ((7, .int b9) :: (6, .int k9) :: [(0, .ref 239), (1, .ref 220), (2, .ref 229), (3, .ref 237), (4, .ref 238), (5, .int (nI i))])) (st1 := []) rfl ⟨c0, trivial⟩ ?_
    refine q_widen (k := n1 + 12) (n := n2 + 2000) (by omega) (by omega) ?_
    exact q_lvpick [2, 3, 4, 5, 6, 7] rfl kk
def tb_lw40 : List q_E := [(2363, .aload_n 1, 1, 0, 0), (2364, .aload_n 0, 1, 0, 0), (2365, .iload 5, 2, 0, 0), (2367, .iconst 1, 1, 1, 0), (2368, .iadd, 1, 0, 0), (2369, .iaload, 1, 0, 0), (2370, .i2c, 1, 0, 0), (2371, .aload_n 3, 1, 0, 0), (2372, .invokestatic 292, 3, 0, 0), (2375, .istore 6, 2, 0, 0), (2377, .aload_n 2, 1, 0, 0), (2378, .aload_n 0, 1, 0, 0), (2379, .iload 5, 2, 0, 0), (2381, .iconst 1, 1, 1, 0), (2382, .iadd, 1, 0, 0), (2383, .iaload, 1, 0, 0), (2384, .i2c, 1, 0, 0), (2385, .invokevirtual 295, 3, 0, 0), (2388, .istore 7, 2, 0, 0), (2390, .aload_n 2, 1, 0, 0), (2391, .invokevirtual 161, 3, 0, 0), (2394, .iload 6, 2, 0, 0), (2396, .if_icmp .eq 5, 3, 0, 2401), (2399, .iconst 0, 1, 0, 0), (2400, .ireturn, 1, 0, 0), (2401, .iload 6, 2, 0, 0), (2403, .ifCond .ne 15, 3, 0, 2418), (2406, .aload_n 3, 1, 0, 0), (2407, .iconst 0, 1, 0, 0), (2408, .laload, 1, 0, 0), (2409, .iload 7, 2, 0, 0), (2411, .i2l, 1, 0, 0), (2412, .lcmp, 1, 0, 0), (2413, .ifCond .eq 5, 3, 0, 2418), (2416, .iconst 0, 1, 0, 0), (2417, .ireturn, 1, 0, 0), (2418, .goto 236, 3, 0, 2654)]
set_option maxRecDepth 100000 in
theorem tk_lw40 : q_tb code 9 tb_lw40 = true := by decide +kernel
def sim_type (g0 : Int32) (σ : q_M) : Prop := q_SimI (fun σ => P_X8_type g0 σ ∧ (∀ E, (F_X8_type g0 σ).1 = .inr E → E ∈ nx_type)) (fun σ => P_X9_type g0 σ) (W_type g0) (F_X9_type g0) σ
def to_type (g0 : Int32) (σ : q_M) : q_M := (F_X9_type g0 (W_type g0 σ).2).2
set_option maxRecDepth 100000 in
theorem cw_type : Cond.codeWith yL_type cL_type 4 (some .int) hh_L_type ∈ q_W := q_t6 71 rfl rfl
set_option maxRecDepth 100000 in
theorem sw_type : Cond.static yL_type ∈ q_W := q_t6 70 rfl rfl
set_option maxRecDepth 100000 in
theorem lw_ln_type : Cond.methodLink RL 292 yL_type ∈ q_W := q_t6 69 rfl rfl
set_option maxRecDepth 100000 in
set_option maxHeartbeats 2000000 in
theorem lw_type {α β : Nat → Nat} {D : va_G} {κ : Nat → ClassId} {p : Program} {l : Launch} {e : Env} {s : State} {m : MethodId} {args : Array Value} {below : List Frame} {meth : Method} {c : Code} {A : Nat → Prop} {Q : State → Prop} {n1 n2 : Nat} (C : q_Cx α β D κ p s m args meth c code RL (fun _ => none) (fun _ => none) 9 A) (hfl : l.flags = flags0) {L : Nat} {xs : Nat → Int32} (hX : q_scr α s A L xs) {i : Nat} (hi : i + 4 ≤ L) (hL : L ≤ 2048) (hn : n1 + 12 ≤ 600000) (hn2 : n2 + 2000 ≤ 7000000) (σ : q_M) (hs : sim_type ((xs (i + 1)).toUInt32 % 65536).toInt32 σ) (kk : q_St α β D κ p l e room_1 s m args below meth c 9 A Q (n1 + 12) (n2 + 2000) (to_type ((xs (i + 1)).toUInt32 % 65536).toInt32 σ) [(0, .ref 239), (1, .ref 220), (2, .ref 229), (3, .ref 237), (4, .ref 238), (5, .int (nI i))] 2654 []) : q_St α β D κ p l e room_1 s m args below meth c 9 A Q n1 n2 σ [(0, .ref 239), (1, .ref 220), (2, .ref 229), (3, .ref 237), (4, .ref 238), (5, .int (nI i))] 2363 [] := by
  obtain ⟨hPW, hPF, ht, ho⟩ := hs
  obtain ⟨hPW, hE⟩ := hPW
  refine q_go C tk_lw40 [(0, 1)] [] (pc1 := 2364) (σ1 := σ) (lv1 := [(0, .ref 239), (1, .ref 220), (2, .ref 229), (3, .ref 237), (4, .ref 238), (5, .int (nI i))]) (st1 := [.ref 220]) rfl trivial ?_
  refine q_go C tk_lw40 [(1, 4)] [] (pc1 := 2369) (σ1 := σ) (lv1 := [(0, .ref 239), (1, .ref 220), (2, .ref 229), (3, .ref 237), (4, .ref 238), (5, .int (nI i))]) (st1 := [.int (nI i + 1), .ref 239, .ref 220]) rfl trivial ?_
  refine q_sld C hX (j := i + 1) (nI_add i 1) (by omega) hL (q_dc (z := (2369, .iaload, 1, 0, 0)) tk_lw40 5 rfl) ?_
  refine q_nrm 2370 [.int (xs (i + 1)), .ref 220] _ _ rfl rfl rfl rfl ?_
  refine q_go C tk_lw40 [(6, 1)] [] (pc1 := 2371) (σ1 := σ) (lv1 := [(0, .ref 239), (1, .ref 220), (2, .ref 229), (3, .ref 237), (4, .ref 238), (5, .int (nI i))]) (st1 := [.int ((xs (i + 1)).toUInt32 % 65536).toInt32, .ref 220]) rfl trivial ?_
  refine q_go C tk_lw40 [(7, 1)] [] (pc1 := 2372) (σ1 := σ) (lv1 := [(0, .ref 239), (1, .ref 220), (2, .ref 229), (3, .ref 237), (4, .ref 238), (5, .int (nI i))]) (st1 := [.ref 237, .int ((xs (i + 1)).toUInt32 % 65536).toInt32, .ref 220]) rfl trivial ?_
  refine q_callW (n := 3) C hfl cw_type (by decide +kernel) q_init_L sw_type lw_ln_type (As := [.ref 220, .int ((xs (i + 1)).toUInt32 % 65536).toInt32, .ref 237]) (kw_type ((xs (i + 1)).toUInt32 % 65536).toInt32 σ hPW hE) (rest := []) rfl rfl (q_dc (z := (2372, .invokestatic 292, 3, 0, 0)) tk_lw40 8 rfl) (Nat.le_of_ble_eq_true rfl) ⟨(Nat.le_of_ble_eq_true rfl), (Nat.le_of_ble_eq_true rfl)⟩ ⟨(by show n1 + 1 ≤ 603072; omega), (by show n2 + 204 ≤ 7215209; omega)⟩ ?_
  refine q_nrm 2375 [.int (W_type ((xs (i + 1)).toUInt32 % 65536).toInt32 σ).1] (n1 + 1) (n2 + 204) rfl rfl rfl rfl ?_
  generalize hk9 : (W_type ((xs (i + 1)).toUInt32 % 65536).toInt32 σ).1 = k9 at ht ho ⊢
  refine q_go C tk_lw40 [(9, 2)] [] (pc1 := 2378) (σ1 := (W_type ((xs (i + 1)).toUInt32 % 65536).toInt32 σ).2) (lv1 := (6, .int k9) :: [(0, .ref 239), (1, .ref 220), (2, .ref 229), (3, .ref 237), (4, .ref 238), (5, .int (nI i))]) (st1 := [.ref 229]) rfl trivial ?_
  refine q_go C tk_lw40 [(11, 4)] [] (pc1 := 2383) (σ1 := (W_type ((xs (i + 1)).toUInt32 % 65536).toInt32 σ).2) (lv1 := ((6, .int k9) :: [(0, .ref 239), (1, .ref 220), (2, .ref 229), (3, .ref 237), (4, .ref 238), (5, .int (nI i))])) (st1 := [.int (nI i + 1), .ref 239, .ref 229]) rfl trivial ?_
  refine q_sld C hX (j := i + 1) (nI_add i 1) (by omega) hL (q_dc (z := (2383, .iaload, 1, 0, 0)) tk_lw40 15 rfl) ?_
  refine q_nrm 2384 [.int (xs (i + 1)), .ref 229] _ _ rfl rfl rfl rfl ?_
  refine q_go C tk_lw40 [(16, 1)] [] (pc1 := 2385) (σ1 := (W_type ((xs (i + 1)).toUInt32 % 65536).toInt32 σ).2) (lv1 := ((6, .int k9) :: [(0, .ref 239), (1, .ref 220), (2, .ref 229), (3, .ref 237), (4, .ref 238), (5, .int (nI i))])) (st1 := [.int ((xs (i + 1)).toUInt32 % 65536).toInt32, .ref 229]) rfl trivial ?_
  refine q_callV C hfl mw_X9_type mi_X9_type me_X9_type lk_L_295 (k_X9_type ((xs (i + 1)).toUInt32 % 65536).toInt32 (W_type ((xs (i + 1)).toUInt32 % 65536).toInt32 σ).2 hPF) (rest := []) rfl rfl rfl (by decide) (by decide) rfl (q_dc (z := (2385, .invokevirtual 295, 3, 0, 0)) tk_lw40 17 rfl) (Nat.le_of_ble_eq_true rfl) ⟨(Nat.le_of_ble_eq_true rfl), (Nat.le_of_ble_eq_true rfl)⟩ ⟨(by show n1 + 1 + 0 ≤ 603072; omega), (by show n2 + 204 + 0 ≤ 7215209; omega)⟩ ?_
  refine q_nrm 2388 [.int (F_X9_type ((xs (i + 1)).toUInt32 % 65536).toInt32 (W_type ((xs (i + 1)).toUInt32 % 65536).toInt32 σ).2).1] (n1 + 1) (n2 + 204) rfl rfl rfl rfl ?_
  generalize hb9 : (F_X9_type ((xs (i + 1)).toUInt32 % 65536).toInt32 (W_type ((xs (i + 1)).toUInt32 % 65536).toInt32 σ).2).1 = b9 at ho ⊢
  unfold to_type at kk
  generalize ht9 : (F_X9_type ((xs (i + 1)).toUInt32 % 65536).toInt32 (W_type ((xs (i + 1)).toUInt32 % 65536).toInt32 σ).2).2 = τ at ht ho kk ⊢
  refine q_go C tk_lw40 [(18, 2)] [] (pc1 := 2391) (σ1 := τ) (lv1 := (7, .int b9) :: ((6, .int k9) :: [(0, .ref 239), (1, .ref 220), (2, .ref 229), (3, .ref 237), (4, .ref 238), (5, .int (nI i))])) (st1 := [.ref 229]) rfl trivial ?_
  refine q_callV C hfl mw_X9_thrown mi_X9_thrown me_X9_thrown lk_L_161 (k_X9_thrown τ) (rest := []) rfl rfl rfl (by decide) (by decide) rfl (q_dc (z := (2391, .invokevirtual 161, 3, 0, 0)) tk_lw40 20 rfl) (Nat.le_of_ble_eq_true rfl) ⟨(Nat.le_of_ble_eq_true rfl), (Nat.le_of_ble_eq_true rfl)⟩ ⟨(by show n1 + 1 + 0 ≤ 603072; omega), (by show n2 + 204 + 0 ≤ 7215209; omega)⟩ ?_
  refine q_nrm 2394 [.int (F_X9_thrown τ)] (n1 + 1) (n2 + 204) rfl rfl rfl rfl ?_
  refine q_go C tk_lw40 [(21, 2)] [true] (pc1 := 2401) (σ1 := τ) (lv1 := ((7, .int b9) :: (6, .int k9) :: [(0, .ref 239), (1, .ref 220), (2, .ref 229), (3, .ref 237), (4, .ref 238), (5, .int (nI i))])) (st1 := []) rfl ⟨(by unfold F_X9_thrown; exact ht), trivial⟩ ?_
  by_cases c0 : k9 = 0
  · have ho := ho c0
    refine q_go C tk_lw40 [(25, 8)] [false] (pc1 := 2413) (σ1 := τ) (lv1 := ((7, .int b9) :: (6, .int k9) :: [(0, .ref 239), (1, .ref 220), (2, .ref 229), (3, .ref 237), (4, .ref 238), (5, .int (nI i))])) (st1 := [.int (lg_cmp (τ 237 0).toInt64 b9.toInt64)]) rfl ⟨c0, rfl, (by unfold vp_in; decide), trivial⟩ ?_
    refine q_go C tk_lw40 [(33, 1), (36, 1)] [true] (pc1 := 2654) (σ1 := τ) (lv1 := ((7, .int b9) :: (6, .int k9) :: [(0, .ref 239), (1, .ref 220), (2, .ref 229), (3, .ref 237), (4, .ref 238), (5, .int (nI i))])) (st1 := []) rfl ⟨(by rw [ho]; exact q_cmp0 _), trivial⟩ ?_
    refine q_widen (k := n1 + 12) (n := n2 + 2000) (by omega) (by omega) ?_
    exact q_lvpick [2, 3, 4, 5, 6, 7] rfl kk
  · refine q_go C tk_lw40 [(25, 2), (36, 1)] [true] (pc1 := 2654) (σ1 := τ) (lv1 := ((7, .int b9) :: (6, .int k9) :: [(0, .ref 239), (1, .ref 220), (2, .ref 229), (3, .ref 237), (4, .ref 238), (5, .int (nI i))])) (st1 := []) rfl ⟨c0, trivial⟩ ?_
    refine q_widen (k := n1 + 12) (n := n2 + 2000) (by omega) (by omega) ?_
    exact q_lvpick [2, 3, 4, 5, 6, 7] rfl kk
def tb_lw41 : List q_E := [(2421, .aload_n 1, 1, 0, 0), (2422, .aload_n 3, 1, 0, 0), (2423, .invokestatic 296, 3, 0, 0), (2426, .istore 6, 2, 0, 0), (2428, .aload_n 2, 1, 0, 0), (2429, .invokevirtual 298, 3, 0, 0), (2432, .istore 7, 2, 0, 0), (2434, .aload_n 2, 1, 0, 0), (2435, .invokevirtual 161, 3, 0, 0), (2438, .iload 6, 2, 0, 0), (2440, .if_icmp .eq 5, 3, 0, 2445), (2443, .iconst 0, 1, 0, 0), (2444, .ireturn, 1, 0, 0), (2445, .iload 6, 2, 0, 0), (2447, .ifCond .ne 15, 3, 0, 2462), (2450, .aload_n 3, 1, 0, 0), (2451, .iconst 0, 1, 0, 0), (2452, .laload, 1, 0, 0), (2453, .iload 7, 2, 0, 0), (2455, .i2l, 1, 0, 0), (2456, .lcmp, 1, 0, 0), (2457, .ifCond .eq 5, 3, 0, 2462), (2460, .iconst 0, 1, 0, 0), (2461, .ireturn, 1, 0, 0), (2462, .goto 192, 3, 0, 2654)]
set_option maxRecDepth 100000 in
theorem tk_lw41 : q_tb code 9 tb_lw41 = true := by decide +kernel
def sim_execute (σ : q_M) : Prop := q_SimI (fun σ => P_X8_execute σ ∧ (∀ E, (F_X8_execute σ).1 = .inr E → E ∈ nx_execute)) (fun σ => P_X9_execute σ) (W_execute) (F_X9_execute) σ
def to_execute (σ : q_M) : q_M := (F_X9_execute (W_execute σ).2).2
set_option maxRecDepth 100000 in
theorem cw_execute : Cond.codeWith yL_execute cL_execute 3 (some .int) hh_L_execute ∈ q_W := q_t6 80 rfl rfl
set_option maxRecDepth 100000 in
theorem sw_execute : Cond.static yL_execute ∈ q_W := q_t6 79 rfl rfl
set_option maxRecDepth 100000 in
theorem lw_ln_execute : Cond.methodLink RL 296 yL_execute ∈ q_W := q_t6 78 rfl rfl
set_option maxRecDepth 100000 in
set_option maxHeartbeats 2000000 in
theorem lw_execute {α β : Nat → Nat} {D : va_G} {κ : Nat → ClassId} {p : Program} {l : Launch} {e : Env} {s : State} {m : MethodId} {args : Array Value} {below : List Frame} {meth : Method} {c : Code} {A : Nat → Prop} {Q : State → Prop} {n1 n2 : Nat} (C : q_Cx α β D κ p s m args meth c code RL (fun _ => none) (fun _ => none) 9 A) (hfl : l.flags = flags0) {L : Nat} {xs : Nat → Int32} (hX : q_scr α s A L xs) {i : Nat} (hi : i + 4 ≤ L) (hL : L ≤ 2048) (hn : n1 + 12 ≤ 600000) (hn2 : n2 + 2000 ≤ 7000000) (σ : q_M) (hs : sim_execute σ) (kk : q_St α β D κ p l e room_1 s m args below meth c 9 A Q (n1 + 12) (n2 + 2000) (to_execute σ) [(0, .ref 239), (1, .ref 220), (2, .ref 229), (3, .ref 237), (4, .ref 238), (5, .int (nI i))] 2654 []) : q_St α β D κ p l e room_1 s m args below meth c 9 A Q n1 n2 σ [(0, .ref 239), (1, .ref 220), (2, .ref 229), (3, .ref 237), (4, .ref 238), (5, .int (nI i))] 2421 [] := by
  obtain ⟨hPW, hPF, ht, ho⟩ := hs
  obtain ⟨hPW, hE⟩ := hPW
  refine q_go C tk_lw41 [(0, 1)] [] (pc1 := 2422) (σ1 := σ) (lv1 := [(0, .ref 239), (1, .ref 220), (2, .ref 229), (3, .ref 237), (4, .ref 238), (5, .int (nI i))]) (st1 := [.ref 220]) rfl trivial ?_
  refine q_go C tk_lw41 [(1, 1)] [] (pc1 := 2423) (σ1 := σ) (lv1 := [(0, .ref 239), (1, .ref 220), (2, .ref 229), (3, .ref 237), (4, .ref 238), (5, .int (nI i))]) (st1 := [.ref 237, .ref 220]) rfl trivial ?_
  refine q_callW (n := 2) C hfl cw_execute (by decide +kernel) q_init_L sw_execute lw_ln_execute (As := [.ref 220, .ref 237]) (kw_execute σ hPW hE) (rest := []) rfl rfl (q_dc (z := (2423, .invokestatic 296, 3, 0, 0)) tk_lw41 2 rfl) (Nat.le_of_ble_eq_true rfl) ⟨(Nat.le_of_ble_eq_true rfl), (Nat.le_of_ble_eq_true rfl)⟩ ⟨(by show n1 + 1 ≤ 603072; omega), (by show n2 + 6 ≤ 7215209; omega)⟩ ?_
  refine q_nrm 2426 [.int (W_execute σ).1] (n1 + 1) (n2 + 6) rfl rfl rfl rfl ?_
  generalize hk9 : (W_execute σ).1 = k9 at ht ho ⊢
  refine q_go C tk_lw41 [(3, 2)] [] (pc1 := 2429) (σ1 := (W_execute σ).2) (lv1 := (6, .int k9) :: [(0, .ref 239), (1, .ref 220), (2, .ref 229), (3, .ref 237), (4, .ref 238), (5, .int (nI i))]) (st1 := [.ref 229]) rfl trivial ?_
  refine q_callV C hfl mw_X9_execute mi_X9_execute me_X9_execute lk_L_298 (k_X9_execute (W_execute σ).2 hPF) (rest := []) rfl rfl rfl (by decide) (by decide) rfl (q_dc (z := (2429, .invokevirtual 298, 3, 0, 0)) tk_lw41 5 rfl) (Nat.le_of_ble_eq_true rfl) ⟨(Nat.le_of_ble_eq_true rfl), (Nat.le_of_ble_eq_true rfl)⟩ ⟨(by show n1 + 1 + 0 ≤ 603072; omega), (by show n2 + 6 + 0 ≤ 7215209; omega)⟩ ?_
  refine q_nrm 2432 [.int (F_X9_execute (W_execute σ).2).1] (n1 + 1) (n2 + 6) rfl rfl rfl rfl ?_
  generalize hb9 : (F_X9_execute (W_execute σ).2).1 = b9 at ho ⊢
  unfold to_execute at kk
  generalize ht9 : (F_X9_execute (W_execute σ).2).2 = τ at ht ho kk ⊢
  refine q_go C tk_lw41 [(6, 2)] [] (pc1 := 2435) (σ1 := τ) (lv1 := (7, .int b9) :: ((6, .int k9) :: [(0, .ref 239), (1, .ref 220), (2, .ref 229), (3, .ref 237), (4, .ref 238), (5, .int (nI i))])) (st1 := [.ref 229]) rfl trivial ?_
  refine q_callV C hfl mw_X9_thrown mi_X9_thrown me_X9_thrown lk_L_161 (k_X9_thrown τ) (rest := []) rfl rfl rfl (by decide) (by decide) rfl (q_dc (z := (2435, .invokevirtual 161, 3, 0, 0)) tk_lw41 8 rfl) (Nat.le_of_ble_eq_true rfl) ⟨(Nat.le_of_ble_eq_true rfl), (Nat.le_of_ble_eq_true rfl)⟩ ⟨(by show n1 + 1 + 0 ≤ 603072; omega), (by show n2 + 6 + 0 ≤ 7215209; omega)⟩ ?_
  refine q_nrm 2438 [.int (F_X9_thrown τ)] (n1 + 1) (n2 + 6) rfl rfl rfl rfl ?_
  refine q_go C tk_lw41 [(9, 2)] [true] (pc1 := 2445) (σ1 := τ) (lv1 := ((7, .int b9) :: (6, .int k9) :: [(0, .ref 239), (1, .ref 220), (2, .ref 229), (3, .ref 237), (4, .ref 238), (5, .int (nI i))])) (st1 := []) rfl ⟨(by unfold F_X9_thrown; exact ht), trivial⟩ ?_
  by_cases c0 : k9 = 0
  · have ho := ho c0
    refine q_go C tk_lw41 [(13, 8)] [false] (pc1 := 2457) (σ1 := τ) (lv1 := ((7, .int b9) :: (6, .int k9) :: [(0, .ref 239), (1, .ref 220), (2, .ref 229), (3, .ref 237), (4, .ref 238), (5, .int (nI i))])) (st1 := [.int (lg_cmp (τ 237 0).toInt64 b9.toInt64)]) rfl ⟨c0, rfl, (by unfold vp_in; decide), trivial⟩ ?_
    refine q_go C tk_lw41 [(21, 1), (24, 1)] [true] (pc1 := 2654) (σ1 := τ) (lv1 := ((7, .int b9) :: (6, .int k9) :: [(0, .ref 239), (1, .ref 220), (2, .ref 229), (3, .ref 237), (4, .ref 238), (5, .int (nI i))])) (st1 := []) rfl ⟨(by rw [ho]; exact q_cmp0 _), trivial⟩ ?_
    refine q_widen (k := n1 + 12) (n := n2 + 2000) (by omega) (by omega) ?_
    exact q_lvpick [2, 3, 4, 5, 6, 7] rfl kk
  · refine q_go C tk_lw41 [(13, 2), (24, 1)] [true] (pc1 := 2654) (σ1 := τ) (lv1 := ((7, .int b9) :: (6, .int k9) :: [(0, .ref 239), (1, .ref 220), (2, .ref 229), (3, .ref 237), (4, .ref 238), (5, .int (nI i))])) (st1 := []) rfl ⟨c0, trivial⟩ ?_
    refine q_widen (k := n1 + 12) (n := n2 + 2000) (by omega) (by omega) ?_
    exact q_lvpick [2, 3, 4, 5, 6, 7] rfl kk
def tb_lw42 : List q_E := [(2465, .aload_n 1, 1, 0, 0), (2466, .aload_n 3, 1, 0, 0), (2467, .invokestatic 299, 3, 0, 0), (2470, .istore 6, 2, 0, 0), (2472, .aload_n 2, 1, 0, 0), (2473, .invokevirtual 301, 3, 0, 0), (2476, .istore 7, 2, 0, 0), (2478, .aload_n 2, 1, 0, 0), (2479, .invokevirtual 161, 3, 0, 0), (2482, .iload 6, 2, 0, 0), (2484, .if_icmp .eq 5, 3, 0, 2489), (2487, .iconst 0, 1, 0, 0), (2488, .ireturn, 1, 0, 0), (2489, .iload 6, 2, 0, 0), (2491, .ifCond .ne 15, 3, 0, 2506), (2494, .aload_n 3, 1, 0, 0), (2495, .iconst 0, 1, 0, 0), (2496, .laload, 1, 0, 0), (2497, .iload 7, 2, 0, 0), (2499, .i2l, 1, 0, 0), (2500, .lcmp, 1, 0, 0), (2501, .ifCond .eq 5, 3, 0, 2506), (2504, .iconst 0, 1, 0, 0), (2505, .ireturn, 1, 0, 0), (2506, .goto 148, 3, 0, 2654)]
set_option maxRecDepth 100000 in
theorem tk_lw42 : q_tb code 9 tb_lw42 = true := by decide +kernel
def sim_errorPosition (σ : q_M) : Prop := q_SimI (fun σ => (∀ E, (F_X8_errorPosition σ) = .inr E → E ∈ nx_errorPosition)) (fun σ => True) (W_errorPosition) (F_X9_errorPosition) σ
def to_errorPosition (σ : q_M) : q_M := (F_X9_errorPosition (W_errorPosition σ).2).2
set_option maxRecDepth 100000 in
theorem cw_errorPosition : Cond.codeWith yL_errorPosition cL_errorPosition 3 (some .int) hh_L_errorPosition ∈ q_W := q_t6 171 rfl rfl
set_option maxRecDepth 100000 in
theorem sw_errorPosition : Cond.static yL_errorPosition ∈ q_W := q_t6 170 rfl rfl
set_option maxRecDepth 100000 in
theorem lw_ln_errorPosition : Cond.methodLink RL 299 yL_errorPosition ∈ q_W := q_t6 169 rfl rfl
set_option maxRecDepth 100000 in
set_option maxHeartbeats 2000000 in
theorem lw_errorPosition {α β : Nat → Nat} {D : va_G} {κ : Nat → ClassId} {p : Program} {l : Launch} {e : Env} {s : State} {m : MethodId} {args : Array Value} {below : List Frame} {meth : Method} {c : Code} {A : Nat → Prop} {Q : State → Prop} {n1 n2 : Nat} (C : q_Cx α β D κ p s m args meth c code RL (fun _ => none) (fun _ => none) 9 A) (hfl : l.flags = flags0) {L : Nat} {xs : Nat → Int32} (hX : q_scr α s A L xs) {i : Nat} (hi : i + 4 ≤ L) (hL : L ≤ 2048) (hn : n1 + 12 ≤ 600000) (hn2 : n2 + 2000 ≤ 7000000) (σ : q_M) (hs : sim_errorPosition σ) (kk : q_St α β D κ p l e room_1 s m args below meth c 9 A Q (n1 + 12) (n2 + 2000) (to_errorPosition σ) [(0, .ref 239), (1, .ref 220), (2, .ref 229), (3, .ref 237), (4, .ref 238), (5, .int (nI i))] 2654 []) : q_St α β D κ p l e room_1 s m args below meth c 9 A Q n1 n2 σ [(0, .ref 239), (1, .ref 220), (2, .ref 229), (3, .ref 237), (4, .ref 238), (5, .int (nI i))] 2465 [] := by
  obtain ⟨hPW, hPF, ht, ho⟩ := hs
  have hE := hPW
  refine q_go C tk_lw42 [(0, 1)] [] (pc1 := 2466) (σ1 := σ) (lv1 := [(0, .ref 239), (1, .ref 220), (2, .ref 229), (3, .ref 237), (4, .ref 238), (5, .int (nI i))]) (st1 := [.ref 220]) rfl trivial ?_
  refine q_go C tk_lw42 [(1, 1)] [] (pc1 := 2467) (σ1 := σ) (lv1 := [(0, .ref 239), (1, .ref 220), (2, .ref 229), (3, .ref 237), (4, .ref 238), (5, .int (nI i))]) (st1 := [.ref 237, .ref 220]) rfl trivial ?_
  refine q_callW (n := 2) C hfl cw_errorPosition (by decide +kernel) q_init_L sw_errorPosition lw_ln_errorPosition (As := [.ref 220, .ref 237]) (kw_errorPosition σ hE) (rest := []) rfl rfl (q_dc (z := (2467, .invokestatic 299, 3, 0, 0)) tk_lw42 2 rfl) (Nat.le_of_ble_eq_true rfl) ⟨(Nat.le_of_ble_eq_true rfl), (Nat.le_of_ble_eq_true rfl)⟩ ⟨(by show n1 + 1 ≤ 603072; omega), (by show n2 + 6 ≤ 7215209; omega)⟩ ?_
  refine q_nrm 2470 [.int (W_errorPosition σ).1] (n1 + 1) (n2 + 6) rfl rfl rfl rfl ?_
  generalize hk9 : (W_errorPosition σ).1 = k9 at ht ho ⊢
  refine q_go C tk_lw42 [(3, 2)] [] (pc1 := 2473) (σ1 := (W_errorPosition σ).2) (lv1 := (6, .int k9) :: [(0, .ref 239), (1, .ref 220), (2, .ref 229), (3, .ref 237), (4, .ref 238), (5, .int (nI i))]) (st1 := [.ref 229]) rfl trivial ?_
  refine q_callV C hfl mw_X9_errorPosition mi_X9_errorPosition me_X9_errorPosition lk_L_301 (k_X9_errorPosition (W_errorPosition σ).2) (rest := []) rfl rfl rfl (by decide) (by decide) rfl (q_dc (z := (2473, .invokevirtual 301, 3, 0, 0)) tk_lw42 5 rfl) (Nat.le_of_ble_eq_true rfl) ⟨(Nat.le_of_ble_eq_true rfl), (Nat.le_of_ble_eq_true rfl)⟩ ⟨(by show n1 + 1 + 0 ≤ 603072; omega), (by show n2 + 6 + 0 ≤ 7215209; omega)⟩ ?_
  refine q_nrm 2476 [.int (F_X9_errorPosition (W_errorPosition σ).2).1] (n1 + 1) (n2 + 6) rfl rfl rfl rfl ?_
  generalize hb9 : (F_X9_errorPosition (W_errorPosition σ).2).1 = b9 at ho ⊢
  unfold to_errorPosition at kk
  generalize ht9 : (F_X9_errorPosition (W_errorPosition σ).2).2 = τ at ht ho kk ⊢
  refine q_go C tk_lw42 [(6, 2)] [] (pc1 := 2479) (σ1 := τ) (lv1 := (7, .int b9) :: ((6, .int k9) :: [(0, .ref 239), (1, .ref 220), (2, .ref 229), (3, .ref 237), (4, .ref 238), (5, .int (nI i))])) (st1 := [.ref 229]) rfl trivial ?_
  refine q_callV C hfl mw_X9_thrown mi_X9_thrown me_X9_thrown lk_L_161 (k_X9_thrown τ) (rest := []) rfl rfl rfl (by decide) (by decide) rfl (q_dc (z := (2479, .invokevirtual 161, 3, 0, 0)) tk_lw42 8 rfl) (Nat.le_of_ble_eq_true rfl) ⟨(Nat.le_of_ble_eq_true rfl), (Nat.le_of_ble_eq_true rfl)⟩ ⟨(by show n1 + 1 + 0 ≤ 603072; omega), (by show n2 + 6 + 0 ≤ 7215209; omega)⟩ ?_
  refine q_nrm 2482 [.int (F_X9_thrown τ)] (n1 + 1) (n2 + 6) rfl rfl rfl rfl ?_
  refine q_go C tk_lw42 [(9, 2)] [true] (pc1 := 2489) (σ1 := τ) (lv1 := ((7, .int b9) :: (6, .int k9) :: [(0, .ref 239), (1, .ref 220), (2, .ref 229), (3, .ref 237), (4, .ref 238), (5, .int (nI i))])) (st1 := []) rfl ⟨(by unfold F_X9_thrown; exact ht), trivial⟩ ?_
  by_cases c0 : k9 = 0
  · have ho := ho c0
    refine q_go C tk_lw42 [(13, 8)] [false] (pc1 := 2501) (σ1 := τ) (lv1 := ((7, .int b9) :: (6, .int k9) :: [(0, .ref 239), (1, .ref 220), (2, .ref 229), (3, .ref 237), (4, .ref 238), (5, .int (nI i))])) (st1 := [.int (lg_cmp (τ 237 0).toInt64 b9.toInt64)]) rfl ⟨c0, rfl, (by unfold vp_in; decide), trivial⟩ ?_
    refine q_go C tk_lw42 [(21, 1), (24, 1)] [true] (pc1 := 2654) (σ1 := τ) (lv1 := ((7, .int b9) :: (6, .int k9) :: [(0, .ref 239), (1, .ref 220), (2, .ref 229), (3, .ref 237), (4, .ref 238), (5, .int (nI i))])) (st1 := []) rfl ⟨(by rw [ho]; exact q_cmp0 _), trivial⟩ ?_
    refine q_widen (k := n1 + 12) (n := n2 + 2000) (by omega) (by omega) ?_
    exact q_lvpick [2, 3, 4, 5, 6, 7] rfl kk
  · refine q_go C tk_lw42 [(13, 2), (24, 1)] [true] (pc1 := 2654) (σ1 := τ) (lv1 := ((7, .int b9) :: (6, .int k9) :: [(0, .ref 239), (1, .ref 220), (2, .ref 229), (3, .ref 237), (4, .ref 238), (5, .int (nI i))])) (st1 := []) rfl ⟨c0, trivial⟩ ?_
    refine q_widen (k := n1 + 12) (n := n2 + 2000) (by omega) (by omega) ?_
    exact q_lvpick [2, 3, 4, 5, 6, 7] rfl kk
def tb_lw43 : List q_E := [(2509, .aload_n 1, 1, 0, 0), (2510, .aload_n 3, 1, 0, 0), (2511, .invokestatic 302, 3, 0, 0), (2514, .istore 6, 2, 0, 0), (2516, .aload_n 2, 1, 0, 0), (2517, .invokevirtual 304, 3, 0, 0), (2520, .istore 7, 2, 0, 0), (2522, .aload_n 2, 1, 0, 0), (2523, .invokevirtual 161, 3, 0, 0), (2526, .iload 6, 2, 0, 0), (2528, .if_icmp .eq 5, 3, 0, 2533), (2531, .iconst 0, 1, 0, 0), (2532, .ireturn, 1, 0, 0), (2533, .iload 6, 2, 0, 0), (2535, .ifCond .ne 15, 3, 0, 2550), (2538, .aload_n 3, 1, 0, 0), (2539, .iconst 0, 1, 0, 0), (2540, .laload, 1, 0, 0), (2541, .iload 7, 2, 0, 0), (2543, .i2l, 1, 0, 0), (2544, .lcmp, 1, 0, 0), (2545, .ifCond .eq 5, 3, 0, 2550), (2548, .iconst 0, 1, 0, 0), (2549, .ireturn, 1, 0, 0), (2550, .goto 104, 3, 0, 2654)]
set_option maxRecDepth 100000 in
theorem tk_lw43 : q_tb code 9 tb_lw43 = true := by decide +kernel
def sim_failedCommand (σ : q_M) : Prop := q_SimI (fun σ => (∀ E, (F_X8_failedCommand σ) = .inr E → E ∈ nx_failedCommand)) (fun σ => True) (W_failedCommand) (F_X9_failedCommand) σ
def to_failedCommand (σ : q_M) : q_M := (F_X9_failedCommand (W_failedCommand σ).2).2
set_option maxRecDepth 100000 in
theorem cw_failedCommand : Cond.codeWith yL_failedCommand cL_failedCommand 3 (some .int) hh_L_failedCommand ∈ q_W := q_t6 179 rfl rfl
set_option maxRecDepth 100000 in
theorem sw_failedCommand : Cond.static yL_failedCommand ∈ q_W := q_t6 178 rfl rfl
set_option maxRecDepth 100000 in
theorem lw_ln_failedCommand : Cond.methodLink RL 302 yL_failedCommand ∈ q_W := q_t6 177 rfl rfl
set_option maxRecDepth 100000 in
set_option maxHeartbeats 2000000 in
theorem lw_failedCommand {α β : Nat → Nat} {D : va_G} {κ : Nat → ClassId} {p : Program} {l : Launch} {e : Env} {s : State} {m : MethodId} {args : Array Value} {below : List Frame} {meth : Method} {c : Code} {A : Nat → Prop} {Q : State → Prop} {n1 n2 : Nat} (C : q_Cx α β D κ p s m args meth c code RL (fun _ => none) (fun _ => none) 9 A) (hfl : l.flags = flags0) {L : Nat} {xs : Nat → Int32} (hX : q_scr α s A L xs) {i : Nat} (hi : i + 4 ≤ L) (hL : L ≤ 2048) (hn : n1 + 12 ≤ 600000) (hn2 : n2 + 2000 ≤ 7000000) (σ : q_M) (hs : sim_failedCommand σ) (kk : q_St α β D κ p l e room_1 s m args below meth c 9 A Q (n1 + 12) (n2 + 2000) (to_failedCommand σ) [(0, .ref 239), (1, .ref 220), (2, .ref 229), (3, .ref 237), (4, .ref 238), (5, .int (nI i))] 2654 []) : q_St α β D κ p l e room_1 s m args below meth c 9 A Q n1 n2 σ [(0, .ref 239), (1, .ref 220), (2, .ref 229), (3, .ref 237), (4, .ref 238), (5, .int (nI i))] 2509 [] := by
  obtain ⟨hPW, hPF, ht, ho⟩ := hs
  have hE := hPW
  refine q_go C tk_lw43 [(0, 1)] [] (pc1 := 2510) (σ1 := σ) (lv1 := [(0, .ref 239), (1, .ref 220), (2, .ref 229), (3, .ref 237), (4, .ref 238), (5, .int (nI i))]) (st1 := [.ref 220]) rfl trivial ?_
  refine q_go C tk_lw43 [(1, 1)] [] (pc1 := 2511) (σ1 := σ) (lv1 := [(0, .ref 239), (1, .ref 220), (2, .ref 229), (3, .ref 237), (4, .ref 238), (5, .int (nI i))]) (st1 := [.ref 237, .ref 220]) rfl trivial ?_
  refine q_callW (n := 2) C hfl cw_failedCommand (by decide +kernel) q_init_L sw_failedCommand lw_ln_failedCommand (As := [.ref 220, .ref 237]) (kw_failedCommand σ hE) (rest := []) rfl rfl (q_dc (z := (2511, .invokestatic 302, 3, 0, 0)) tk_lw43 2 rfl) (Nat.le_of_ble_eq_true rfl) ⟨(Nat.le_of_ble_eq_true rfl), (Nat.le_of_ble_eq_true rfl)⟩ ⟨(by show n1 + 1 ≤ 603072; omega), (by show n2 + 6 ≤ 7215209; omega)⟩ ?_
  refine q_nrm 2514 [.int (W_failedCommand σ).1] (n1 + 1) (n2 + 6) rfl rfl rfl rfl ?_
  generalize hk9 : (W_failedCommand σ).1 = k9 at ht ho ⊢
  refine q_go C tk_lw43 [(3, 2)] [] (pc1 := 2517) (σ1 := (W_failedCommand σ).2) (lv1 := (6, .int k9) :: [(0, .ref 239), (1, .ref 220), (2, .ref 229), (3, .ref 237), (4, .ref 238), (5, .int (nI i))]) (st1 := [.ref 229]) rfl trivial ?_
  refine q_callV C hfl mw_X9_failedCommand mi_X9_failedCommand me_X9_failedCommand lk_L_304 (k_X9_failedCommand (W_failedCommand σ).2) (rest := []) rfl rfl rfl (by decide) (by decide) rfl (q_dc (z := (2517, .invokevirtual 304, 3, 0, 0)) tk_lw43 5 rfl) (Nat.le_of_ble_eq_true rfl) ⟨(Nat.le_of_ble_eq_true rfl), (Nat.le_of_ble_eq_true rfl)⟩ ⟨(by show n1 + 1 + 0 ≤ 603072; omega), (by show n2 + 6 + 0 ≤ 7215209; omega)⟩ ?_
  refine q_nrm 2520 [.int (F_X9_failedCommand (W_failedCommand σ).2).1] (n1 + 1) (n2 + 6) rfl rfl rfl rfl ?_
  generalize hb9 : (F_X9_failedCommand (W_failedCommand σ).2).1 = b9 at ho ⊢
  unfold to_failedCommand at kk
  generalize ht9 : (F_X9_failedCommand (W_failedCommand σ).2).2 = τ at ht ho kk ⊢
  refine q_go C tk_lw43 [(6, 2)] [] (pc1 := 2523) (σ1 := τ) (lv1 := (7, .int b9) :: ((6, .int k9) :: [(0, .ref 239), (1, .ref 220), (2, .ref 229), (3, .ref 237), (4, .ref 238), (5, .int (nI i))])) (st1 := [.ref 229]) rfl trivial ?_
  refine q_callV C hfl mw_X9_thrown mi_X9_thrown me_X9_thrown lk_L_161 (k_X9_thrown τ) (rest := []) rfl rfl rfl (by decide) (by decide) rfl (q_dc (z := (2523, .invokevirtual 161, 3, 0, 0)) tk_lw43 8 rfl) (Nat.le_of_ble_eq_true rfl) ⟨(Nat.le_of_ble_eq_true rfl), (Nat.le_of_ble_eq_true rfl)⟩ ⟨(by show n1 + 1 + 0 ≤ 603072; omega), (by show n2 + 6 + 0 ≤ 7215209; omega)⟩ ?_
  refine q_nrm 2526 [.int (F_X9_thrown τ)] (n1 + 1) (n2 + 6) rfl rfl rfl rfl ?_
  refine q_go C tk_lw43 [(9, 2)] [true] (pc1 := 2533) (σ1 := τ) (lv1 := ((7, .int b9) :: (6, .int k9) :: [(0, .ref 239), (1, .ref 220), (2, .ref 229), (3, .ref 237), (4, .ref 238), (5, .int (nI i))])) (st1 := []) rfl ⟨(by unfold F_X9_thrown; exact ht), trivial⟩ ?_
  by_cases c0 : k9 = 0
  · have ho := ho c0
    refine q_go C tk_lw43 [(13, 8)] [false] (pc1 := 2545) (σ1 := τ) (lv1 := ((7, .int b9) :: (6, .int k9) :: [(0, .ref 239), (1, .ref 220), (2, .ref 229), (3, .ref 237), (4, .ref 238), (5, .int (nI i))])) (st1 := [.int (lg_cmp (τ 237 0).toInt64 b9.toInt64)]) rfl ⟨c0, rfl, (by unfold vp_in; decide), trivial⟩ ?_
    refine q_go C tk_lw43 [(21, 1), (24, 1)] [true] (pc1 := 2654) (σ1 := τ) (lv1 := ((7, .int b9) :: (6, .int k9) :: [(0, .ref 239), (1, .ref 220), (2, .ref 229), (3, .ref 237), (4, .ref 238), (5, .int (nI i))])) (st1 := []) rfl ⟨(by rw [ho]; exact q_cmp0 _), trivial⟩ ?_
    refine q_widen (k := n1 + 12) (n := n2 + 2000) (by omega) (by omega) ?_
    exact q_lvpick [2, 3, 4, 5, 6, 7] rfl kk
  · refine q_go C tk_lw43 [(13, 2), (24, 1)] [true] (pc1 := 2654) (σ1 := τ) (lv1 := ((7, .int b9) :: (6, .int k9) :: [(0, .ref 239), (1, .ref 220), (2, .ref 229), (3, .ref 237), (4, .ref 238), (5, .int (nI i))])) (st1 := []) rfl ⟨c0, trivial⟩ ?_
    refine q_widen (k := n1 + 12) (n := n2 + 2000) (by omega) (by omega) ?_
    exact q_lvpick [2, 3, 4, 5, 6, 7] rfl kk
def tb_lw44 : List q_E := [(2553, .aload_n 1, 1, 0, 0), (2554, .aload_n 3, 1, 0, 0), (2555, .invokestatic 305, 3, 0, 0), (2558, .istore 6, 2, 0, 0), (2560, .aload_n 2, 1, 0, 0), (2561, .invokevirtual 307, 3, 0, 0), (2564, .istore 7, 2, 0, 0), (2566, .aload_n 2, 1, 0, 0), (2567, .invokevirtual 161, 3, 0, 0), (2570, .iload 6, 2, 0, 0), (2572, .if_icmp .eq 5, 3, 0, 2577), (2575, .iconst 0, 1, 0, 0), (2576, .ireturn, 1, 0, 0), (2577, .iload 6, 2, 0, 0), (2579, .ifCond .ne 15, 3, 0, 2594), (2582, .aload_n 3, 1, 0, 0), (2583, .iconst 0, 1, 0, 0), (2584, .laload, 1, 0, 0), (2585, .iload 7, 2, 0, 0), (2587, .i2l, 1, 0, 0), (2588, .lcmp, 1, 0, 0), (2589, .ifCond .eq 5, 3, 0, 2594), (2592, .iconst 0, 1, 0, 0), (2593, .ireturn, 1, 0, 0), (2594, .goto 60, 3, 0, 2654)]
set_option maxRecDepth 100000 in
theorem tk_lw44 : q_tb code 9 tb_lw44 = true := by decide +kernel
def sim_undo (σ : q_M) : Prop := q_SimI (fun σ => P_X8_undo σ ∧ (∀ E, (F_X8_undo σ).1 = .inr E → E ∈ nx_undo)) (fun σ => P_X9_undo σ) (W_undo) (F_X9_undo) σ
def to_undo (σ : q_M) : q_M := (F_X9_undo (W_undo σ).2).2
set_option maxRecDepth 100000 in
theorem cw_undo : Cond.codeWith yL_undo cL_undo 3 (some .int) hh_L_undo ∈ q_W := q_t6 187 rfl rfl
set_option maxRecDepth 100000 in
theorem sw_undo : Cond.static yL_undo ∈ q_W := q_t6 186 rfl rfl
set_option maxRecDepth 100000 in
theorem lw_ln_undo : Cond.methodLink RL 305 yL_undo ∈ q_W := q_t6 185 rfl rfl
set_option maxRecDepth 100000 in
set_option maxHeartbeats 2000000 in
theorem lw_undo {α β : Nat → Nat} {D : va_G} {κ : Nat → ClassId} {p : Program} {l : Launch} {e : Env} {s : State} {m : MethodId} {args : Array Value} {below : List Frame} {meth : Method} {c : Code} {A : Nat → Prop} {Q : State → Prop} {n1 n2 : Nat} (C : q_Cx α β D κ p s m args meth c code RL (fun _ => none) (fun _ => none) 9 A) (hfl : l.flags = flags0) {L : Nat} {xs : Nat → Int32} (hX : q_scr α s A L xs) {i : Nat} (hi : i + 4 ≤ L) (hL : L ≤ 2048) (hn : n1 + 12 ≤ 600000) (hn2 : n2 + 2000 ≤ 7000000) (σ : q_M) (hs : sim_undo σ) (kk : q_St α β D κ p l e room_1 s m args below meth c 9 A Q (n1 + 12) (n2 + 2000) (to_undo σ) [(0, .ref 239), (1, .ref 220), (2, .ref 229), (3, .ref 237), (4, .ref 238), (5, .int (nI i))] 2654 []) : q_St α β D κ p l e room_1 s m args below meth c 9 A Q n1 n2 σ [(0, .ref 239), (1, .ref 220), (2, .ref 229), (3, .ref 237), (4, .ref 238), (5, .int (nI i))] 2553 [] := by
  obtain ⟨hPW, hPF, ht, ho⟩ := hs
  obtain ⟨hPW, hE⟩ := hPW
  refine q_go C tk_lw44 [(0, 1)] [] (pc1 := 2554) (σ1 := σ) (lv1 := [(0, .ref 239), (1, .ref 220), (2, .ref 229), (3, .ref 237), (4, .ref 238), (5, .int (nI i))]) (st1 := [.ref 220]) rfl trivial ?_
  refine q_go C tk_lw44 [(1, 1)] [] (pc1 := 2555) (σ1 := σ) (lv1 := [(0, .ref 239), (1, .ref 220), (2, .ref 229), (3, .ref 237), (4, .ref 238), (5, .int (nI i))]) (st1 := [.ref 237, .ref 220]) rfl trivial ?_
  refine q_callW (n := 2) C hfl cw_undo (by decide +kernel) q_init_L sw_undo lw_ln_undo (As := [.ref 220, .ref 237]) (kw_undo σ hPW hE) (rest := []) rfl rfl (q_dc (z := (2555, .invokestatic 305, 3, 0, 0)) tk_lw44 2 rfl) (Nat.le_of_ble_eq_true rfl) ⟨(Nat.le_of_ble_eq_true rfl), (Nat.le_of_ble_eq_true rfl)⟩ ⟨(by show n1 + 1 ≤ 603072; omega), (by show n2 + 6 ≤ 7215209; omega)⟩ ?_
  refine q_nrm 2558 [.int (W_undo σ).1] (n1 + 1) (n2 + 6) rfl rfl rfl rfl ?_
  generalize hk9 : (W_undo σ).1 = k9 at ht ho ⊢
  refine q_go C tk_lw44 [(3, 2)] [] (pc1 := 2561) (σ1 := (W_undo σ).2) (lv1 := (6, .int k9) :: [(0, .ref 239), (1, .ref 220), (2, .ref 229), (3, .ref 237), (4, .ref 238), (5, .int (nI i))]) (st1 := [.ref 229]) rfl trivial ?_
  refine q_callV C hfl mw_X9_undo mi_X9_undo me_X9_undo lk_L_307 (k_X9_undo (W_undo σ).2 hPF) (rest := []) rfl rfl rfl (by decide) (by decide) rfl (q_dc (z := (2561, .invokevirtual 307, 3, 0, 0)) tk_lw44 5 rfl) (Nat.le_of_ble_eq_true rfl) ⟨(Nat.le_of_ble_eq_true rfl), (Nat.le_of_ble_eq_true rfl)⟩ ⟨(by show n1 + 1 + 0 ≤ 603072; omega), (by show n2 + 6 + 0 ≤ 7215209; omega)⟩ ?_
  refine q_nrm 2564 [.int (F_X9_undo (W_undo σ).2).1] (n1 + 1) (n2 + 6) rfl rfl rfl rfl ?_
  generalize hb9 : (F_X9_undo (W_undo σ).2).1 = b9 at ho ⊢
  unfold to_undo at kk
  generalize ht9 : (F_X9_undo (W_undo σ).2).2 = τ at ht ho kk ⊢
  refine q_go C tk_lw44 [(6, 2)] [] (pc1 := 2567) (σ1 := τ) (lv1 := (7, .int b9) :: ((6, .int k9) :: [(0, .ref 239), (1, .ref 220), (2, .ref 229), (3, .ref 237), (4, .ref 238), (5, .int (nI i))])) (st1 := [.ref 229]) rfl trivial ?_
  refine q_callV C hfl mw_X9_thrown mi_X9_thrown me_X9_thrown lk_L_161 (k_X9_thrown τ) (rest := []) rfl rfl rfl (by decide) (by decide) rfl (q_dc (z := (2567, .invokevirtual 161, 3, 0, 0)) tk_lw44 8 rfl) (Nat.le_of_ble_eq_true rfl) ⟨(Nat.le_of_ble_eq_true rfl), (Nat.le_of_ble_eq_true rfl)⟩ ⟨(by show n1 + 1 + 0 ≤ 603072; omega), (by show n2 + 6 + 0 ≤ 7215209; omega)⟩ ?_
  refine q_nrm 2570 [.int (F_X9_thrown τ)] (n1 + 1) (n2 + 6) rfl rfl rfl rfl ?_
  refine q_go C tk_lw44 [(9, 2)] [true] (pc1 := 2577) (σ1 := τ) (lv1 := ((7, .int b9) :: (6, .int k9) :: [(0, .ref 239), (1, .ref 220), (2, .ref 229), (3, .ref 237), (4, .ref 238), (5, .int (nI i))])) (st1 := []) rfl ⟨(by unfold F_X9_thrown; exact ht), trivial⟩ ?_
  by_cases c0 : k9 = 0
  · have ho := ho c0
    refine q_go C tk_lw44 [(13, 8)] [false] (pc1 := 2589) (σ1 := τ) (lv1 := ((7, .int b9) :: (6, .int k9) :: [(0, .ref 239), (1, .ref 220), (2, .ref 229), (3, .ref 237), (4, .ref 238), (5, .int (nI i))])) (st1 := [.int (lg_cmp (τ 237 0).toInt64 b9.toInt64)]) rfl ⟨c0, rfl, (by unfold vp_in; decide), trivial⟩ ?_
    refine q_go C tk_lw44 [(21, 1), (24, 1)] [true] (pc1 := 2654) (σ1 := τ) (lv1 := ((7, .int b9) :: (6, .int k9) :: [(0, .ref 239), (1, .ref 220), (2, .ref 229), (3, .ref 237), (4, .ref 238), (5, .int (nI i))])) (st1 := []) rfl ⟨(by rw [ho]; exact q_cmp0 _), trivial⟩ ?_
    refine q_widen (k := n1 + 12) (n := n2 + 2000) (by omega) (by omega) ?_
    exact q_lvpick [2, 3, 4, 5, 6, 7] rfl kk
  · refine q_go C tk_lw44 [(13, 2), (24, 1)] [true] (pc1 := 2654) (σ1 := τ) (lv1 := ((7, .int b9) :: (6, .int k9) :: [(0, .ref 239), (1, .ref 220), (2, .ref 229), (3, .ref 237), (4, .ref 238), (5, .int (nI i))])) (st1 := []) rfl ⟨c0, trivial⟩ ?_
    refine q_widen (k := n1 + 12) (n := n2 + 2000) (by omega) (by omega) ?_
    exact q_lvpick [2, 3, 4, 5, 6, 7] rfl kk
def tb_lw45 : List q_E := [(2597, .aload_n 1, 1, 0, 0), (2598, .invokevirtual 308, 3, 0, 0), (2601, .aload_n 2, 1, 0, 0), (2602, .invokevirtual 311, 3, 0, 0), (2605, .if_icmp .eq 49, 3, 0, 2654), (2608, .iconst 0, 1, 0, 0), (2609, .ireturn, 1, 0, 0)]
set_option maxRecDepth 100000 in
theorem tk_lw45 : q_tb code 9 tb_lw45 = true := by decide +kernel
def sim_save (σ : q_M) : Prop := P_X8_save σ ∧ P_X9_save (F_X8_save σ).2 ∧ (F_X8_save σ).1 = (F_X9_save (F_X8_save σ).2).1
def to_save (σ : q_M) : q_M := (F_X9_save (F_X8_save σ).2).2
set_option maxRecDepth 100000 in
set_option maxHeartbeats 2000000 in
theorem lw_save {α β : Nat → Nat} {D : va_G} {κ : Nat → ClassId} {p : Program} {l : Launch} {e : Env} {s : State} {m : MethodId} {args : Array Value} {below : List Frame} {meth : Method} {c : Code} {A : Nat → Prop} {Q : State → Prop} {n1 n2 : Nat} (C : q_Cx α β D κ p s m args meth c code RL (fun _ => none) (fun _ => none) 9 A) (hfl : l.flags = flags0) {i : Nat} (hn : n1 + 12 ≤ 600000) (hn2 : n2 + 2000 ≤ 7000000) (σ : q_M) (hs : sim_save σ) (kk : q_St α β D κ p l e room_1 s m args below meth c 9 A Q (n1 + 12) (n2 + 2000) (to_save σ) [(0, .ref 239), (1, .ref 220), (2, .ref 229), (3, .ref 237), (4, .ref 238), (5, .int (nI i))] 2654 []) : q_St α β D κ p l e room_1 s m args below meth c 9 A Q n1 n2 σ [(0, .ref 239), (1, .ref 220), (2, .ref 229), (3, .ref 237), (4, .ref 238), (5, .int (nI i))] 2597 [] := by
  obtain ⟨h8, h9, he⟩ := hs
  refine q_go C tk_lw45 [(0, 1)] [] (pc1 := 2598) (σ1 := σ) (lv1 := [(0, .ref 239), (1, .ref 220), (2, .ref 229), (3, .ref 237), (4, .ref 238), (5, .int (nI i))]) (st1 := [.ref 220]) rfl trivial ?_
  refine q_callV C hfl mw_X8_save mi_X8_save me_X8_save lk_L_308 (k_X8_save σ h8) (rest := []) rfl rfl rfl (by decide) (by decide) rfl (q_dc (z := (2598, .invokevirtual 308, 3, 0, 0)) tk_lw45 1 rfl) (Nat.le_of_ble_eq_true rfl) ⟨(Nat.le_of_ble_eq_true rfl), (Nat.le_of_ble_eq_true rfl)⟩ ⟨(by show n1 + 0 ≤ 603072; omega), (by show n2 + 0 ≤ 7215209; omega)⟩ ?_
  refine q_nrm 2601 [.int (F_X8_save σ).1] (n1 + 0) (n2 + 0) rfl rfl rfl rfl ?_
  refine q_go C tk_lw45 [(2, 1)] [] (pc1 := 2602) (σ1 := (F_X8_save σ).2) (lv1 := [(0, .ref 239), (1, .ref 220), (2, .ref 229), (3, .ref 237), (4, .ref 238), (5, .int (nI i))]) (st1 := [.ref 229, .int (F_X8_save σ).1]) rfl trivial ?_
  refine q_callV C hfl mw_X9_save mi_X9_save me_X9_save lk_L_311 (k_X9_save (F_X8_save σ).2 h9) (rest := [.int (F_X8_save σ).1]) rfl rfl rfl (by decide) (by decide) rfl (q_dc (z := (2602, .invokevirtual 311, 3, 0, 0)) tk_lw45 3 rfl) (Nat.le_of_ble_eq_true rfl) ⟨(Nat.le_of_ble_eq_true rfl), (Nat.le_of_ble_eq_true rfl)⟩ ⟨(by show n1 + 0 + 0 ≤ 603072; omega), (by show n2 + 0 + 0 ≤ 7215209; omega)⟩ ?_
  refine q_nrm 2605 [.int (F_X9_save (F_X8_save σ).2).1, .int (F_X8_save σ).1] (n1 + 0 + 0) (n2 + 0 + 0) rfl rfl rfl rfl ?_
  refine q_go C tk_lw45 [(4, 1)] [true] (pc1 := 2654) (σ1 := (F_X9_save (F_X8_save σ).2).2) (lv1 := [(0, .ref 239), (1, .ref 220), (2, .ref 229), (3, .ref 237), (4, .ref 238), (5, .int (nI i))]) (st1 := []) rfl ⟨he, trivial⟩ ?_
  exact q_widen (by omega) (by omega) kk
def tb_lw46 : List q_E := [(2610, .aload_n 1, 1, 0, 0), (2611, .aload_n 3, 1, 0, 0), (2612, .invokestatic 312, 3, 0, 0), (2615, .istore 6, 2, 0, 0), (2617, .aload_n 2, 1, 0, 0), (2618, .invokevirtual 314, 3, 0, 0), (2621, .istore 7, 2, 0, 0), (2623, .aload_n 2, 1, 0, 0), (2624, .invokevirtual 161, 3, 0, 0), (2627, .iload 6, 2, 0, 0), (2629, .if_icmp .eq 5, 3, 0, 2634), (2632, .iconst 0, 1, 0, 0), (2633, .ireturn, 1, 0, 0), (2634, .iload 6, 2, 0, 0), (2636, .ifCond .ne 15, 3, 0, 2651), (2639, .aload_n 3, 1, 0, 0), (2640, .iconst 0, 1, 0, 0), (2641, .laload, 1, 0, 0), (2642, .iload 7, 2, 0, 0), (2644, .i2l, 1, 0, 0), (2645, .lcmp, 1, 0, 0), (2646, .ifCond .eq 5, 3, 0, 2651), (2649, .iconst 0, 1, 0, 0), (2650, .ireturn, 1, 0, 0), (2651, .goto 3, 3, 0, 2654)]
set_option maxRecDepth 100000 in
theorem tk_lw46 : q_tb code 9 tb_lw46 = true := by decide +kernel
def sim_restore (σ : q_M) : Prop := q_SimI (fun σ => P_X8_restore σ ∧ (∀ E, (F_X8_restore σ).1 = .inr E → E ∈ nx_restore)) (fun σ => P_X9_restore σ) (W_restore) (F_X9_restore) σ
def to_restore (σ : q_M) : q_M := (F_X9_restore (W_restore σ).2).2
set_option maxRecDepth 100000 in
theorem cw_restore : Cond.codeWith yL_restore cL_restore 3 (some .int) hh_L_restore ∈ q_W := q_t6 199 rfl rfl
set_option maxRecDepth 100000 in
theorem sw_restore : Cond.static yL_restore ∈ q_W := q_t6 198 rfl rfl
set_option maxRecDepth 100000 in
theorem lw_ln_restore : Cond.methodLink RL 312 yL_restore ∈ q_W := q_t6 197 rfl rfl
set_option maxRecDepth 100000 in
set_option maxHeartbeats 2000000 in
theorem lw_restore {α β : Nat → Nat} {D : va_G} {κ : Nat → ClassId} {p : Program} {l : Launch} {e : Env} {s : State} {m : MethodId} {args : Array Value} {below : List Frame} {meth : Method} {c : Code} {A : Nat → Prop} {Q : State → Prop} {n1 n2 : Nat} (C : q_Cx α β D κ p s m args meth c code RL (fun _ => none) (fun _ => none) 9 A) (hfl : l.flags = flags0) {L : Nat} {xs : Nat → Int32} (hX : q_scr α s A L xs) {i : Nat} (hi : i + 4 ≤ L) (hL : L ≤ 2048) (hn : n1 + 12 ≤ 600000) (hn2 : n2 + 2000 ≤ 7000000) (σ : q_M) (hs : sim_restore σ) (kk : q_St α β D κ p l e room_1 s m args below meth c 9 A Q (n1 + 12) (n2 + 2000) (to_restore σ) [(0, .ref 239), (1, .ref 220), (2, .ref 229), (3, .ref 237), (4, .ref 238), (5, .int (nI i))] 2654 []) : q_St α β D κ p l e room_1 s m args below meth c 9 A Q n1 n2 σ [(0, .ref 239), (1, .ref 220), (2, .ref 229), (3, .ref 237), (4, .ref 238), (5, .int (nI i))] 2610 [] := by
  obtain ⟨hPW, hPF, ht, ho⟩ := hs
  obtain ⟨hPW, hE⟩ := hPW
  refine q_go C tk_lw46 [(0, 1)] [] (pc1 := 2611) (σ1 := σ) (lv1 := [(0, .ref 239), (1, .ref 220), (2, .ref 229), (3, .ref 237), (4, .ref 238), (5, .int (nI i))]) (st1 := [.ref 220]) rfl trivial ?_
  refine q_go C tk_lw46 [(1, 1)] [] (pc1 := 2612) (σ1 := σ) (lv1 := [(0, .ref 239), (1, .ref 220), (2, .ref 229), (3, .ref 237), (4, .ref 238), (5, .int (nI i))]) (st1 := [.ref 237, .ref 220]) rfl trivial ?_
  refine q_callW (n := 2) C hfl cw_restore (by decide +kernel) q_init_L sw_restore lw_ln_restore (As := [.ref 220, .ref 237]) (kw_restore σ hPW hE) (rest := []) rfl rfl (q_dc (z := (2612, .invokestatic 312, 3, 0, 0)) tk_lw46 2 rfl) (Nat.le_of_ble_eq_true rfl) ⟨(Nat.le_of_ble_eq_true rfl), (Nat.le_of_ble_eq_true rfl)⟩ ⟨(by show n1 + 1 ≤ 603072; omega), (by show n2 + 6 ≤ 7215209; omega)⟩ ?_
  refine q_nrm 2615 [.int (W_restore σ).1] (n1 + 1) (n2 + 6) rfl rfl rfl rfl ?_
  generalize hk9 : (W_restore σ).1 = k9 at ht ho ⊢
  refine q_go C tk_lw46 [(3, 2)] [] (pc1 := 2618) (σ1 := (W_restore σ).2) (lv1 := (6, .int k9) :: [(0, .ref 239), (1, .ref 220), (2, .ref 229), (3, .ref 237), (4, .ref 238), (5, .int (nI i))]) (st1 := [.ref 229]) rfl trivial ?_
  refine q_callV C hfl mw_X9_restore mi_X9_restore me_X9_restore lk_L_314 (k_X9_restore (W_restore σ).2 hPF) (rest := []) rfl rfl rfl (by decide) (by decide) rfl (q_dc (z := (2618, .invokevirtual 314, 3, 0, 0)) tk_lw46 5 rfl) (Nat.le_of_ble_eq_true rfl) ⟨(Nat.le_of_ble_eq_true rfl), (Nat.le_of_ble_eq_true rfl)⟩ ⟨(by show n1 + 1 + 0 ≤ 603072; omega), (by show n2 + 6 + 0 ≤ 7215209; omega)⟩ ?_
  refine q_nrm 2621 [.int (F_X9_restore (W_restore σ).2).1] (n1 + 1) (n2 + 6) rfl rfl rfl rfl ?_
  generalize hb9 : (F_X9_restore (W_restore σ).2).1 = b9 at ho ⊢
  unfold to_restore at kk
  generalize ht9 : (F_X9_restore (W_restore σ).2).2 = τ at ht ho kk ⊢
  refine q_go C tk_lw46 [(6, 2)] [] (pc1 := 2624) (σ1 := τ) (lv1 := (7, .int b9) :: ((6, .int k9) :: [(0, .ref 239), (1, .ref 220), (2, .ref 229), (3, .ref 237), (4, .ref 238), (5, .int (nI i))])) (st1 := [.ref 229]) rfl trivial ?_
  refine q_callV C hfl mw_X9_thrown mi_X9_thrown me_X9_thrown lk_L_161 (k_X9_thrown τ) (rest := []) rfl rfl rfl (by decide) (by decide) rfl (q_dc (z := (2624, .invokevirtual 161, 3, 0, 0)) tk_lw46 8 rfl) (Nat.le_of_ble_eq_true rfl) ⟨(Nat.le_of_ble_eq_true rfl), (Nat.le_of_ble_eq_true rfl)⟩ ⟨(by show n1 + 1 + 0 ≤ 603072; omega), (by show n2 + 6 + 0 ≤ 7215209; omega)⟩ ?_
  refine q_nrm 2627 [.int (F_X9_thrown τ)] (n1 + 1) (n2 + 6) rfl rfl rfl rfl ?_
  refine q_go C tk_lw46 [(9, 2)] [true] (pc1 := 2634) (σ1 := τ) (lv1 := ((7, .int b9) :: (6, .int k9) :: [(0, .ref 239), (1, .ref 220), (2, .ref 229), (3, .ref 237), (4, .ref 238), (5, .int (nI i))])) (st1 := []) rfl ⟨(by unfold F_X9_thrown; exact ht), trivial⟩ ?_
  by_cases c0 : k9 = 0
  · have ho := ho c0
    refine q_go C tk_lw46 [(13, 8)] [false] (pc1 := 2646) (σ1 := τ) (lv1 := ((7, .int b9) :: (6, .int k9) :: [(0, .ref 239), (1, .ref 220), (2, .ref 229), (3, .ref 237), (4, .ref 238), (5, .int (nI i))])) (st1 := [.int (lg_cmp (τ 237 0).toInt64 b9.toInt64)]) rfl ⟨c0, rfl, (by unfold vp_in; decide), trivial⟩ ?_
    refine q_go C tk_lw46 [(21, 1), (24, 1)] [true] (pc1 := 2654) (σ1 := τ) (lv1 := ((7, .int b9) :: (6, .int k9) :: [(0, .ref 239), (1, .ref 220), (2, .ref 229), (3, .ref 237), (4, .ref 238), (5, .int (nI i))])) (st1 := []) rfl ⟨(by rw [ho]; exact q_cmp0 _), trivial⟩ ?_
    refine q_widen (k := n1 + 12) (n := n2 + 2000) (by omega) (by omega) ?_
    exact q_lvpick [2, 3, 4, 5, 6, 7] rfl kk
  · refine q_go C tk_lw46 [(13, 2), (24, 1)] [true] (pc1 := 2654) (σ1 := τ) (lv1 := ((7, .int b9) :: (6, .int k9) :: [(0, .ref 239), (1, .ref 220), (2, .ref 229), (3, .ref 237), (4, .ref 238), (5, .int (nI i))])) (st1 := []) rfl ⟨c0, trivial⟩ ?_
    refine q_widen (k := n1 + 12) (n := n2 + 2000) (by omega) (by omega) ?_
    exact q_lvpick [2, 3, 4, 5, 6, 7] rfl kk
