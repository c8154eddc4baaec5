/-! The law's loop: its cases. -/
def q_scr (α : Nat → Nat) (s : State) (A : Nat → Prop) (L : Nat) (xs : Nat → Int32) : Prop := va_X (α 239) L xs s s.heap ∧ α 239 < s.heap.size ∧ ¬ A (α 239)
def q_SimI (PW PF : q_M → Prop) (Wf Ff : q_M → Int32 × q_M) (σ : q_M) : Prop := PW σ ∧ PF (Wf σ).2 ∧ (Ff (Wf σ).2).2 229 5 = (Wf σ).1 ∧ ((Wf σ).1 = 0 → (Ff (Wf σ).2).2 237 0 = (Ff (Wf σ).2).1)
def q_SimB (PW PF : q_M → Prop) (Wf Ff : q_M → Int32 × q_M) (σ : q_M) : Prop := q_SimI PW PF Wf Ff σ ∧ ((Ff (Wf σ).2).1 = 0 ∨ (Ff (Wf σ).2).1 = 1)
section q43
variable {α β : Nat → Nat} {D : va_G} {κ : Nat → ClassId} {p : Program} {l : Launch} {e : Env} {R : Room} {s : State} {m : MethodId} {args : Array Value} {below : List Frame} {meth : Method} {c : Code} {cc : ByteArray} {own : String} {F : Nat → Option (Nat × Nat)} {G : Nat → Option Int32} {nL : Nat} {A : Nat → Prop} {Q : State → Prop} {n1 n2 : Nat}
variable {y : MethodName} {cc' : ByteArray} {maxL' : Nat} {ret' : Option FieldType} {hh : List (Nat × Nat × Nat × Nat)} {fr' lo' mc' ms' n idx pc : Nat} {As rest st : List Value} {σ σ1 : q_M} {lv : q_Lv} {v : Option Value}
theorem q_sld (C : q_Cx α β D κ p s m args meth c cc own F G nL A) {L : Nat} {xs : Nat → Int32} (hX : q_scr α s A L xs) {x : Int32} {j : Nat} (hx : x = nI j) (hj : j < L) (hL : L ≤ 2048) (hd : decode cc pc = .ok (.iaload, 1)) (kk : q_St α β D κ p l e R s m args below meth c nL A Q n1 n2 σ lv (pc + 1) (.int (xs j) :: rest)) : q_St α β D κ p l e R s m args below meth c nL A Q n1 n2 σ lv pc (.int x :: .ref 239 :: rest) := by
  subst hx
  intro Y H locs ls hY hP hD hS hl
  refine va_sld C.1 C.2.1 hX.1 hX.2.1 hX.2.2 hS (vp_in_nI hj (by omega)) hd ?_
  rw [nI_clamp (n := j) (by omega)]
  exact kk Y H locs ls hY hP hD hS hl
theorem q_slen (C : q_Cx α β D κ p s m args meth c cc own F G nL A) {L : Nat} {xs : Nat → Int32} (hX : q_scr α s A L xs) (hd : decode cc pc = .ok (.arraylength, 1)) (kk : q_St α β D κ p l e R s m args below meth c nL A Q n1 n2 σ lv (pc + 1) (.int (nI L) :: rest)) : q_St α β D κ p l e R s m args below meth c nL A Q n1 n2 σ lv pc (.ref 239 :: rest) :=
  fun Y H locs ls hY hP hD hS hl => va_slen C.1 C.2.1 hX.1 hX.2.1 hX.2.2 hS hd (kk Y H locs ls hY hP hD hS hl)
theorem q_callW (C : q_Cx α β D κ p s m args meth c cc own F G nL A) (hfl : l.flags = flags0) (hm : Cond.codeWith y cc' maxL' ret' hh ∈ q_W) (hm2 : y.cls ≠ "java/lang/invoke/MethodHandle" ∧ y.cls ≠ "java/lang/invoke/VarHandle" ∧ (parseMethodDescriptor y.desc).map (fun d => d.parameters.length) = some n) (hin : Cond.initialized y.cls ∈ q_W) (hi : Cond.static y ∈ q_W) (hlnk : Cond.methodLink own idx y ∈ q_W) (hc : q_CW α β D κ y cc' maxL' ret' hh fr' lo' mc' ms' As σ v σ1) (hst : st = As.reverse ++ rest) (hn : As.length = n) (hd : decode cc pc = .ok (.invokestatic idx, 3)) (hrest : (rest.map fun v => v.category).sum ≤ 8) (hR : fr' + 1 ≤ R.frames ∧ 8 + (maxL' + 11) + lo' ≤ R.locals) (hcs : n1 + mc' ≤ R.cells ∧ n2 + ms' ≤ R.slots)
    (kk : q_St α β D κ p l e R s m args below meth c nL A Q (n1 + mc') (n2 + ms') σ1 lv (pc + 3) (v.toList ++ rest)) : q_St α β D κ p l e R s m args below meth c nL A Q n1 n2 σ lv pc st := by
  subst hst
  intro Y H locs ls hY hP hD hS hl
  rw [q_map_rev]
  have C0 := C
  obtain ⟨hx, hb, hml, hown, hts, hK, hE, hA, hlk, hF, hG⟩ := C
  have hG2 : GoodIn q_W (va_wsS own idx y (Cond.codeWith y cc' maxL' ret' hh :: q_W)) := by
    have g := q_GI hm
    intro w hw
    unfold va_wsS at hw
    rcases List.mem_append.mp hw with h | h
    · have hw' : w ∈ q_W := by
        simp only [List.mem_cons, List.not_mem_nil, or_false] at h
        rcases h with rfl | rfl | rfl
        · exact hlnk
        · exact hi
        · exact hin
      exact ⟨hw', good_of_word (List.mem_filter.mp hw').2⟩
    · exact g w h
  have hr := vx_runSW (meth := meth) (e := e) (n := n) (cells := n1) (slots := n2) (As := As.map (q_cv α β)) (rest := rest.map (q_cv α β)) (g := F0 m pc ls ((As.map (q_cv α β)).reverse ++ rest.map (q_cv α β))) (below := below) (locs := locs) (hh := hh) ⟨hx, hb, hml, hown, hts⟩ (hc l hfl Y H.size) (vx_cwSW n hts hG2 rfl rfl rfl hm2 hR) ⟨q_FB, q_pre C0 hY hP hD hS⟩ rfl (by rw [List.length_map]; exact hn) hl.1 rfl (lv_room (q_sum_cat hrest)) hd hcs
  have hsub := q_A_sub (α := α) (β := β) (κ := κ) hA hD hS
  intro T hT X
  obtain ⟨v9, st₀, t, T', L, h0, X', hL, e1, e2, ⟨⟨v2, hv2, hv3⟩, ⟨Y', hY', hP', hD'⟩, hFr⟩, st⟩ := hr T hT X
  cases hv2
  cases hv3
  obtain ⟨k1, k2, k3⟩ := vx_keep h0 e1 hS (fun q _ h => hsub q h) hsub hL hFr
  have hkk := kk Y' T'.heap (locs ++ L) ls hY' (by rw [e1]; exact hP') (hD'.weaken (fun _ _ _ h => hsub _ h)) k3 hl
  obtain ⟨t2, a1, b1⟩ := hkk T' rfl X'
  exact ⟨t2, st t2 (by cases v <;> exact a1), b1⟩
theorem q_cmp0 (x : Int64) : lg_cmp x x = 0 := by
  unfold lg_cmp
  simp
end q43
set_option maxRecDepth 100000 in
theorem q_init_L : Cond.initialized "QuillRelayLaw" ∈ q_W := q_t1 0 rfl rfl
def tb_lw0 : List q_E := [(248, .aload_n 1, 1, 0, 0), (249, .aload_n 3, 1, 0, 0), (250, .invokestatic 155, 3, 0, 0), (253, .istore 6, 2, 0, 0), (255, .aload_n 2, 1, 0, 0), (256, .invokevirtual 160, 3, 0, 0), (259, .istore 7, 2, 0, 0), (261, .aload_n 2, 1, 0, 0), (262, .invokevirtual 161, 3, 0, 0), (265, .iload 6, 2, 0, 0), (267, .if_icmp .eq 5, 3, 0, 272), (270, .iconst 0, 1, 0, 0), (271, .ireturn, 1, 0, 0), (272, .iload 6, 2, 0, 0), (274, .ifCond .ne 15, 3, 0, 289), (277, .aload_n 3, 1, 0, 0), (278, .iconst 0, 1, 0, 0), (279, .laload, 1, 0, 0), (280, .iload 7, 2, 0, 0), (282, .i2l, 1, 0, 0), (283, .lcmp, 1, 0, 0), (284, .ifCond .eq 5, 3, 0, 289), (287, .iconst 0, 1, 0, 0), (288, .ireturn, 1, 0, 0), (289, .goto 2365, 3, 0, 2654)]
set_option maxRecDepth 100000 in
theorem tk_lw0 : q_tb code 9 tb_lw0 = true := by decide +kernel
def sim_addTeam (σ : q_M) : Prop := q_SimI (fun σ => P_X8_addTeam σ ∧ (∀ E, (F_X8_addTeam σ).1 = .inr E → E ∈ nx_addTeam)) (fun σ => P_X9_addTeam σ) (W_addTeam) (F_X9_addTeam) σ
def to_addTeam (σ : q_M) : q_M := (F_X9_addTeam (W_addTeam σ).2).2
set_option maxRecDepth 100000 in
theorem cw_addTeam : Cond.codeWith yL_addTeam cL_addTeam 3 (some .int) hh_L_addTeam ∈ q_W := q_t2 76 rfl rfl
set_option maxRecDepth 100000 in
theorem sw_addTeam : Cond.static yL_addTeam ∈ q_W := q_t2 75 rfl rfl
set_option maxRecDepth 100000 in
theorem lw_ln_addTeam : Cond.methodLink RL 155 yL_addTeam ∈ q_W := q_t2 74 rfl rfl
set_option maxRecDepth 100000 in
set_option maxHeartbeats 2000000 in
theorem lw_addTeam {α β : Nat → Nat} {D : va_G} {κ : Nat → ClassId} {p : Program} {l : Launch} {e : Env} {s : State} {m : MethodId} {args : Array Value} {below : List Frame} {meth : Method} {c : Code} {A : Nat → Prop} {Q : State → Prop} {n1 n2 : Nat} (C : q_Cx α β D κ p s m args meth c code RL (fun _ => none) (fun _ => none) 9 A) (hfl : l.flags = flags0) {L : Nat} {xs : Nat → Int32} (hX : q_scr α s A L xs) {i : Nat} (hi : i + 4 ≤ L) (hL : L ≤ 2048) (hn : n1 + 12 ≤ 600000) (hn2 : n2 + 2000 ≤ 7000000) (σ : q_M) (hs : sim_addTeam σ) (kk : q_St α β D κ p l e room_1 s m args below meth c 9 A Q (n1 + 12) (n2 + 2000) (to_addTeam σ) [(0, .ref 239), (1, .ref 220), (2, .ref 229), (3, .ref 237), (4, .ref 238), (5, .int (nI i))] 2654 []) : q_St α β D κ p l e room_1 s m args below meth c 9 A Q n1 n2 σ [(0, .ref 239), (1, .ref 220), (2, .ref 229), (3, .ref 237), (4, .ref 238), (5, .int (nI i))] 248 [] := by
  obtain ⟨hPW, hPF, ht, ho⟩ := hs
  obtain ⟨hPW, hE⟩ := hPW
  refine q_go C tk_lw0 [(0, 1)] [] (pc1 := 249) (σ1 := σ) (lv1 := [(0, .ref 239), (1, .ref 220), (2, .ref 229), (3, .ref 237), (4, .ref 238), (5, .int (nI i))]) (st1 := [.ref 220]) rfl trivial ?_
  refine q_go C tk_lw0 [(1, 1)] [] (pc1 := 250) (σ1 := σ) (lv1 := [(0, .ref 239), (1, .ref 220), (2, .ref 229), (3, .ref 237), (4, .ref 238), (5, .int (nI i))]) (st1 := [.ref 237, .ref 220]) rfl trivial ?_
  refine q_callW (n := 2) C hfl cw_addTeam (by decide +kernel) q_init_L sw_addTeam lw_ln_addTeam (As := [.ref 220, .ref 237]) (kw_addTeam σ hPW hE) (rest := []) rfl rfl (q_dc (z := (250, .invokestatic 155, 3, 0, 0)) tk_lw0 2 rfl) (Nat.le_of_ble_eq_true rfl) ⟨(Nat.le_of_ble_eq_true rfl), (Nat.le_of_ble_eq_true rfl)⟩ ⟨(by show n1 + 1 ≤ 603072; omega), (by show n2 + 6 ≤ 7215209; omega)⟩ ?_
  refine q_nrm 253 [.int (W_addTeam σ).1] (n1 + 1) (n2 + 6) rfl rfl rfl rfl ?_
  generalize hk9 : (W_addTeam σ).1 = k9 at ht ho ⊢
  refine q_go C tk_lw0 [(3, 2)] [] (pc1 := 256) (σ1 := (W_addTeam σ).2) (lv1 := (6, .int k9) :: [(0, .ref 239), (1, .ref 220), (2, .ref 229), (3, .ref 237), (4, .ref 238), (5, .int (nI i))]) (st1 := [.ref 229]) rfl trivial ?_
  refine q_callV C hfl mw_X9_addTeam mi_X9_addTeam me_X9_addTeam lk_L_160 (k_X9_addTeam (W_addTeam σ).2 hPF) (rest := []) rfl rfl rfl (by decide) (by decide) rfl (q_dc (z := (256, .invokevirtual 160, 3, 0, 0)) tk_lw0 5 rfl) (Nat.le_of_ble_eq_true rfl) ⟨(Nat.le_of_ble_eq_true rfl), (Nat.le_of_ble_eq_true rfl)⟩ ⟨(by show n1 + 1 + 0 ≤ 603072; omega), (by show n2 + 6 + 0 ≤ 7215209; omega)⟩ ?_
  refine q_nrm 259 [.int (F_X9_addTeam (W_addTeam σ).2).1] (n1 + 1) (n2 + 6) rfl rfl rfl rfl ?_
  generalize hb9 : (F_X9_addTeam (W_addTeam σ).2).1 = b9 at ho ⊢
  unfold to_addTeam at kk
  generalize ht9 : (F_X9_addTeam (W_addTeam σ).2).2 = τ at ht ho kk ⊢
  refine q_go C tk_lw0 [(6, 2)] [] (pc1 := 262) (σ1 := τ) (lv1 := (7, .int b9) :: ((6, .int k9) :: [(0, .ref 239), (1, .ref 220), (2, .ref 229), (3, .ref 237), (4, .ref 238), (5, .int (nI i))])) (st1 := [.ref 229]) rfl trivial ?_
  refine q_callV C hfl mw_X9_thrown mi_X9_thrown me_X9_thrown lk_L_161 (k_X9_thrown τ) (rest := []) rfl rfl rfl (by decide) (by decide) rfl (q_dc (z := (262, .invokevirtual 161, 3, 0, 0)) tk_lw0 8 rfl) (Nat.le_of_ble_eq_true rfl) ⟨(Nat.le_of_ble_eq_true rfl), (Nat.le_of_ble_eq_true rfl)⟩ ⟨(by show n1 + 1 + 0 ≤ 603072; omega), (by show n2 + 6 + 0 ≤ 7215209; omega)⟩ ?_
  refine q_nrm 265 [.int (F_X9_thrown τ)] (n1 + 1) (n2 + 6) rfl rfl rfl rfl ?_
  refine q_go C tk_lw0 [(9, 2)] [true] (pc1 := 272) (σ1 := τ) (lv1 := ((7, .int b9) :: (6, .int k9) :: [(0, .ref 239), (1, .ref 220), (2, .ref 229), (3, .ref 237), (4, .ref 238), (5, .int (nI i))])) (st1 := []) rfl ⟨(by unfold F_X9_thrown; exact ht), trivial⟩ ?_
  by_cases c0 : k9 = 0
  · have ho := ho c0
    refine q_go C tk_lw0 [(13, 8)] [false] (pc1 := 284) (σ1 := τ) (lv1 := ((7, .int b9) :: (6, .int k9) :: [(0, .ref 239), (1, .ref 220), (2, .ref 229), (3, .ref 237), (4, .ref 238), (5, .int (nI i))])) (st1 := [.int (lg_cmp (τ 237 0).toInt64 b9.toInt64)]) rfl ⟨c0, rfl, (by unfold vp_in; decide), trivial⟩ ?_
    refine q_go C tk_lw0 [(21, 1), (24, 1)] [true] (pc1 := 2654) (σ1 := τ) (lv1 := ((7, .int b9) :: (6, .int k9) :: [(0, .ref 239), (1, .ref 220), (2, .ref 229), (3, .ref 237), (4, .ref 238), (5, .int (nI i))])) (st1 := []) rfl ⟨(by rw [ho]; exact q_cmp0 _), trivial⟩ ?_
    refine q_widen (k := n1 + 12) (n := n2 + 2000) (by omega) (by omega) ?_
    exact q_lvpick [2, 3, 4, 5, 6, 7] rfl kk
  · refine q_go C tk_lw0 [(13, 2), (24, 1)] [true] (pc1 := 2654) (σ1 := τ) (lv1 := ((7, .int b9) :: (6, .int k9) :: [(0, .ref 239), (1, .ref 220), (2, .ref 229), (3, .ref 237), (4, .ref 238), (5, .int (nI i))])) (st1 := []) rfl ⟨c0, trivial⟩ ?_
    refine q_widen (k := n1 + 12) (n := n2 + 2000) (by omega) (by omega) ?_
    exact q_lvpick [2, 3, 4, 5, 6, 7] rfl kk
def tb_lw1 : List q_E := [(292, .aload_n 1, 1, 0, 0), (293, .aload_n 0, 1, 0, 0), (294, .iload 5, 2, 0, 0), (296, .iconst 1, 1, 1, 0), (297, .iadd, 1, 0, 0), (298, .iaload, 1, 0, 0), (299, .aload_n 0, 1, 0, 0), (300, .iload 5, 2, 0, 0), (302, .iconst 2, 1, 2, 0), (303, .iadd, 1, 0, 0), (304, .iaload, 1, 0, 0), (305, .aload_n 0, 1, 0, 0), (306, .iload 5, 2, 0, 0), (308, .iconst 3, 1, 3, 0), (309, .iadd, 1, 0, 0), (310, .iaload, 1, 0, 0), (311, .aload_n 3, 1, 0, 0), (312, .invokestatic 164, 3, 0, 0), (315, .istore 6, 2, 0, 0), (317, .aload_n 2, 1, 0, 0), (318, .aload_n 0, 1, 0, 0), (319, .iload 5, 2, 0, 0), (321, .iconst 1, 1, 1, 0), (322, .iadd, 1, 0, 0), (323, .iaload, 1, 0, 0), (324, .aload_n 0, 1, 0, 0), (325, .iload 5, 2, 0, 0), (327, .iconst 2, 1, 2, 0), (328, .iadd, 1, 0, 0), (329, .iaload, 1, 0, 0), (330, .aload_n 0, 1, 0, 0), (331, .iload 5, 2, 0, 0), (333, .iconst 3, 1, 3, 0), (334, .iadd, 1, 0, 0), (335, .iaload, 1, 0, 0), (336, .invokevirtual 167, 3, 0, 0), (339, .istore 7, 2, 0, 0), (341, .aload_n 2, 1, 0, 0), (342, .invokevirtual 161, 3, 0, 0), (345, .iload 6, 2, 0, 0), (347, .if_icmp .eq 5, 3, 0, 352), (350, .iconst 0, 1, 0, 0), (351, .ireturn, 1, 0, 0), (352, .iload 6, 2, 0, 0), (354, .ifCond .ne 15, 3, 0, 369), (357, .aload_n 3, 1, 0, 0), (358, .iconst 0, 1, 0, 0), (359, .laload, 1, 0, 0), (360, .iload 7, 2, 0, 0), (362, .i2l, 1, 0, 0), (363, .lcmp, 1, 0, 0), (364, .ifCond .eq 5, 3, 0, 369), (367, .iconst 0, 1, 0, 0), (368, .ireturn, 1, 0, 0), (369, .goto 2285, 3, 0, 2654)]
set_option maxRecDepth 100000 in
theorem tk_lw1 : q_tb code 9 tb_lw1 = true := by decide +kernel
def sim_setSpeed (g0 : Int32) (g1 : Int32) (g2 : Int32) (σ : q_M) : Prop := q_SimI (fun σ => P_X8_setSpeed g0 g1 g2 σ ∧ (∀ E, (F_X8_setSpeed g0 g1 g2 σ).1 = .inr E → E ∈ nx_setSpeed)) (fun σ => P_X9_setSpeed g0 g1 g2 σ) (W_setSpeed g0 g1 g2) (F_X9_setSpeed g0 g1 g2) σ
def to_setSpeed (g0 : Int32) (g1 : Int32) (g2 : Int32) (σ : q_M) : q_M := (F_X9_setSpeed g0 g1 g2 (W_setSpeed g0 g1 g2 σ).2).2
set_option maxRecDepth 100000 in
theorem cw_setSpeed : Cond.codeWith yL_setSpeed cL_setSpeed 6 (some .int) hh_L_setSpeed ∈ q_W := q_t2 237 rfl rfl
set_option maxRecDepth 100000 in
theorem sw_setSpeed : Cond.static yL_setSpeed ∈ q_W := q_t2 236 rfl rfl
set_option maxRecDepth 100000 in
theorem lw_ln_setSpeed : Cond.methodLink RL 164 yL_setSpeed ∈ q_W := q_t2 235 rfl rfl
set_option maxRecDepth 100000 in
set_option maxHeartbeats 2000000 in
theorem lw_setSpeed {α β : Nat → Nat} {D : va_G} {κ : Nat → ClassId} {p : Program} {l : Launch} {e : Env} {s : State} {m : MethodId} {args : Array Value} {below : List Frame} {meth : Method} {c : Code} {A : Nat → Prop} {Q : State → Prop} {n1 n2 : Nat} (C : q_Cx α β D κ p s m args meth c code RL (fun _ => none) (fun _ => none) 9 A) (hfl : l.flags = flags0) {L : Nat} {xs : Nat → Int32} (hX : q_scr α s A L xs) {i : Nat} (hi : i + 4 ≤ L) (hL : L ≤ 2048) (hn : n1 + 12 ≤ 600000) (hn2 : n2 + 2000 ≤ 7000000) (σ : q_M) (hs : sim_setSpeed (xs (i + 1)) (xs (i + 2)) (xs (i + 3)) σ) (kk : q_St α β D κ p l e room_1 s m args below meth c 9 A Q (n1 + 12) (n2 + 2000) (to_setSpeed (xs (i + 1)) (xs (i + 2)) (xs (i + 3)) σ) [(0, .ref 239), (1, .ref 220), (2, .ref 229), (3, .ref 237), (4, .ref 238), (5, .int (nI i))] 2654 []) : q_St α β D κ p l e room_1 s m args below meth c 9 A Q n1 n2 σ [(0, .ref 239), (1, .ref 220), (2, .ref 229), (3, .ref 237), (4, .ref 238), (5, .int (nI i))] 292 [] := by
  obtain ⟨hPW, hPF, ht, ho⟩ := hs
  obtain ⟨hPW, hE⟩ := hPW
  refine q_go C tk_lw1 [(0, 1)] [] (pc1 := 293) (σ1 := σ) (lv1 := [(0, .ref 239), (1, .ref 220), (2, .ref 229), (3, .ref 237), (4, .ref 238), (5, .int (nI i))]) (st1 := [.ref 220]) rfl trivial ?_
  refine q_go C tk_lw1 [(1, 4)] [] (pc1 := 298) (σ1 := σ) (lv1 := [(0, .ref 239), (1, .ref 220), (2, .ref 229), (3, .ref 237), (4, .ref 238), (5, .int (nI i))]) (st1 := [.int (nI i + 1), .ref 239, .ref 220]) rfl trivial ?_
  refine q_sld C hX (j := i + 1) (nI_add i 1) (by omega) hL (q_dc (z := (298, .iaload, 1, 0, 0)) tk_lw1 5 rfl) ?_
  refine q_nrm 299 [.int (xs (i + 1)), .ref 220] _ _ rfl rfl rfl rfl ?_
  refine q_go C tk_lw1 [(6, 4)] [] (pc1 := 304) (σ1 := σ) (lv1 := [(0, .ref 239), (1, .ref 220), (2, .ref 229), (3, .ref 237), (4, .ref 238), (5, .int (nI i))]) (st1 := [.int (nI i + 2), .ref 239, .int (xs (i + 1)), .ref 220]) rfl trivial ?_
  refine q_sld C hX (j := i + 2) (nI_add i 2) (by omega) hL (q_dc (z := (304, .iaload, 1, 0, 0)) tk_lw1 10 rfl) ?_
  refine q_nrm 305 [.int (xs (i + 2)), .int (xs (i + 1)), .ref 220] _ _ rfl rfl rfl rfl ?_
  refine q_go C tk_lw1 [(11, 4)] [] (pc1 := 310) (σ1 := σ) (lv1 := [(0, .ref 239), (1, .ref 220), (2, .ref 229), (3, .ref 237), (4, .ref 238), (5, .int (nI i))]) (st1 := [.int (nI i + 3), .ref 239, .int (xs (i + 2)), .int (xs (i + 1)), .ref 220]) rfl trivial ?_
  refine q_sld C hX (j := i + 3) (nI_add i 3) (by omega) hL (q_dc (z := (310, .iaload, 1, 0, 0)) tk_lw1 15 rfl) ?_
  refine q_nrm 311 [.int (xs (i + 3)), .int (xs (i + 2)), .int (xs (i + 1)), .ref 220] _ _ rfl rfl rfl rfl ?_
  refine q_go C tk_lw1 [(16, 1)] [] (pc1 := 312) (σ1 := σ) (lv1 := [(0, .ref 239), (1, .ref 220), (2, .ref 229), (3, .ref 237), (4, .ref 238), (5, .int (nI i))]) (st1 := [.ref 237, .int (xs (i + 3)), .int (xs (i + 2)), .int (xs (i + 1)), .ref 220]) rfl trivial ?_
  refine q_callW (n := 5) C hfl cw_setSpeed (by decide +kernel) q_init_L sw_setSpeed lw_ln_setSpeed (As := [.ref 220, .int (xs (i + 1)), .int (xs (i + 2)), .int (xs (i + 3)), .ref 237]) (kw_setSpeed (xs (i + 1)) (xs (i + 2)) (xs (i + 3)) σ hPW hE) (rest := []) rfl rfl (q_dc (z := (312, .invokestatic 164, 3, 0, 0)) tk_lw1 17 rfl) (Nat.le_of_ble_eq_true rfl) ⟨(Nat.le_of_ble_eq_true rfl), (Nat.le_of_ble_eq_true rfl)⟩ ⟨(by show n1 + 2 ≤ 603072; omega), (by show n2 + 12 ≤ 7215209; omega)⟩ ?_
  refine q_nrm 315 [.int (W_setSpeed (xs (i + 1)) (xs (i + 2)) (xs (i + 3)) σ).1] (n1 + 2) (n2 + 12) rfl rfl rfl rfl ?_
  generalize hk9 : (W_setSpeed (xs (i + 1)) (xs (i + 2)) (xs (i + 3)) σ).1 = k9 at ht ho ⊢
  refine q_go C tk_lw1 [(18, 2)] [] (pc1 := 318) (σ1 := (W_setSpeed (xs (i + 1)) (xs (i + 2)) (xs (i + 3)) σ).2) (lv1 := (6, .int k9) :: [(0, .ref 239), (1, .ref 220), (2, .ref 229), (3, .ref 237), (4, .ref 238), (5, .int (nI i))]) (st1 := [.ref 229]) rfl trivial ?_
  refine q_go C tk_lw1 [(20, 4)] [] (pc1 := 323) (σ1 := (W_setSpeed (xs (i + 1)) (xs (i + 2)) (xs (i + 3)) σ).2) (lv1 := ((6, .int k9) :: [(0, .ref 239), (1, .ref 220), (2, .ref 229), (3, .ref 237), (4, .ref 238), (5, .int (nI i))])) (st1 := [.int (nI i + 1), .ref 239, .ref 229]) rfl trivial ?_
  refine q_sld C hX (j := i + 1) (nI_add i 1) (by omega) hL (q_dc (z := (323, .iaload, 1, 0, 0)) tk_lw1 24 rfl) ?_
  refine q_nrm 324 [.int (xs (i + 1)), .ref 229] _ _ rfl rfl rfl rfl ?_
  refine q_go C tk_lw1 [(25, 4)] [] (pc1 := 329) (σ1 := (W_setSpeed (xs (i + 1)) (xs (i + 2)) (xs (i + 3)) σ).2) (lv1 := ((6, .int k9) :: [(0, .ref 239), (1, .ref 220), (2, .ref 229), (3, .ref 237), (4, .ref 238), (5, .int (nI i))])) (st1 := [.int (nI i + 2), .ref 239, .int (xs (i + 1)), .ref 229]) rfl trivial ?_
  refine q_sld C hX (j := i + 2) (nI_add i 2) (by omega) hL (q_dc (z := (329, .iaload, 1, 0, 0)) tk_lw1 29 rfl) ?_
  refine q_nrm 330 [.int (xs (i + 2)), .int (xs (i + 1)), .ref 229] _ _ rfl rfl rfl rfl ?_
  refine q_go C tk_lw1 [(30, 4)] [] (pc1 := 335) (σ1 := (W_setSpeed (xs (i + 1)) (xs (i + 2)) (xs (i + 3)) σ).2) (lv1 := ((6, .int k9) :: [(0, .ref 239), (1, .ref 220), (2, .ref 229), (3, .ref 237), (4, .ref 238), (5, .int (nI i))])) (st1 := [.int (nI i + 3), .ref 239, .int (xs (i + 2)), .int (xs (i + 1)), .ref 229]) rfl trivial ?_
  refine q_sld C hX (j := i + 3) (nI_add i 3) (by omega) hL (q_dc (z := (335, .iaload, 1, 0, 0)) tk_lw1 34 rfl) ?_
  refine q_nrm 336 [.int (xs (i + 3)), .int (xs (i + 2)), .int (xs (i + 1)), .ref 229] _ _ rfl rfl rfl rfl ?_
  refine q_callV C hfl mw_X9_setSpeed mi_X9_setSpeed me_X9_setSpeed lk_L_167 (k_X9_setSpeed (xs (i + 1)) (xs (i + 2)) (xs (i + 3)) (W_setSpeed (xs (i + 1)) (xs (i + 2)) (xs (i + 3)) σ).2 hPF) (rest := []) rfl rfl rfl (by decide) (by decide) rfl (q_dc (z := (336, .invokevirtual 167, 3, 0, 0)) tk_lw1 35 rfl) (Nat.le_of_ble_eq_true rfl) ⟨(Nat.le_of_ble_eq_true rfl), (Nat.le_of_ble_eq_true rfl)⟩ ⟨(by show n1 + 2 + 0 ≤ 603072; omega), (by show n2 + 12 + 0 ≤ 7215209; omega)⟩ ?_
  refine q_nrm 339 [.int (F_X9_setSpeed (xs (i + 1)) (xs (i + 2)) (xs (i + 3)) (W_setSpeed (xs (i + 1)) (xs (i + 2)) (xs (i + 3)) σ).2).1] (n1 + 2) (n2 + 12) rfl rfl rfl rfl ?_
  generalize hb9 : (F_X9_setSpeed (xs (i + 1)) (xs (i + 2)) (xs (i + 3)) (W_setSpeed (xs (i + 1)) (xs (i + 2)) (xs (i + 3)) σ).2).1 = b9 at ho ⊢
  unfold to_setSpeed at kk
  generalize ht9 : (F_X9_setSpeed (xs (i + 1)) (xs (i + 2)) (xs (i + 3)) (W_setSpeed (xs (i + 1)) (xs (i + 2)) (xs (i + 3)) σ).2).2 = τ at ht ho kk ⊢
  refine q_go C tk_lw1 [(36, 2)] [] (pc1 := 342) (σ1 := τ) (lv1 := (7, .int b9) :: ((6, .int k9) :: [(0, .ref 239), (1, .ref 220), (2, .ref 229), (3, .ref 237), (4, .ref 238), (5, .int (nI i))])) (st1 := [.ref 229]) rfl trivial ?_
  refine q_callV C hfl mw_X9_thrown mi_X9_thrown me_X9_thrown lk_L_161 (k_X9_thrown τ) (rest := []) rfl rfl rfl (by decide) (by decide) rfl (q_dc (z := (342, .invokevirtual 161, 3, 0, 0)) tk_lw1 38 rfl) (Nat.le_of_ble_eq_true rfl) ⟨(Nat.le_of_ble_eq_true rfl), (Nat.le_of_ble_eq_true rfl)⟩ ⟨(by show n1 + 2 + 0 ≤ 603072; omega), (by show n2 + 12 + 0 ≤ 7215209; omega)⟩ ?_
  refine q_nrm 345 [.int (F_X9_thrown τ)] (n1 + 2) (n2 + 12) rfl rfl rfl rfl ?_
  refine q_go C tk_lw1 [(39, 2)] [true] (pc1 := 352) (σ1 := τ) (lv1 := ((7, .int b9) :: (6, .int k9) :: [(0, .ref 239), (1, .ref 220), (2, .ref 229), (3, .ref 237), (4, .ref 238), (5, .int (nI i))])) (st1 := []) rfl ⟨(by unfold F_X9_thrown; exact ht), trivial⟩ ?_
  by_cases c0 : k9 = 0
  · have ho := ho c0
    refine q_go C tk_lw1 [(43, 8)] [false] (pc1 := 364) (σ1 := τ) (lv1 := ((7, .int b9) :: (6, .int k9) :: [(0, .ref 239), (1, .ref 220), (2, .ref 229), (3, .ref 237), (4, .ref 238), (5, .int (nI i))])) (st1 := [.int (lg_cmp (τ 237 0).toInt64 b9.toInt64)]) rfl ⟨c0, rfl, (by unfold vp_in; decide), trivial⟩ ?_
    refine q_go C tk_lw1 [(51, 1), (54, 1)] [true] (pc1 := 2654) (σ1 := τ) (lv1 := ((7, .int b9) :: (6, .int k9) :: [(0, .ref 239), (1, .ref 220), (2, .ref 229), (3, .ref 237), (4, .ref 238), (5, .int (nI i))])) (st1 := []) rfl ⟨(by rw [ho]; exact q_cmp0 _), trivial⟩ ?_
    refine q_widen (k := n1 + 12) (n := n2 + 2000) (by omega) (by omega) ?_
    exact q_lvpick [2, 3, 4, 5, 6, 7] rfl kk
  · refine q_go C tk_lw1 [(43, 2), (54, 1)] [true] (pc1 := 2654) (σ1 := τ) (lv1 := ((7, .int b9) :: (6, .int k9) :: [(0, .ref 239), (1, .ref 220), (2, .ref 229), (3, .ref 237), (4, .ref 238), (5, .int (nI i))])) (st1 := []) rfl ⟨c0, trivial⟩ ?_
    refine q_widen (k := n1 + 12) (n := n2 + 2000) (by omega) (by omega) ?_
    exact q_lvpick [2, 3, 4, 5, 6, 7] rfl kk
def tb_lw2 : List q_E := [(372, .aload_n 1, 1, 0, 0), (373, .aload_n 0, 1, 0, 0), (374, .iload 5, 2, 0, 0), (376, .iconst 1, 1, 1, 0), (377, .iadd, 1, 0, 0), (378, .iaload, 1, 0, 0), (379, .aload_n 3, 1, 0, 0), (380, .invokestatic 168, 3, 0, 0), (383, .istore 6, 2, 0, 0), (385, .aload_n 2, 1, 0, 0), (386, .aload_n 0, 1, 0, 0), (387, .iload 5, 2, 0, 0), (389, .iconst 1, 1, 1, 0), (390, .iadd, 1, 0, 0), (391, .iaload, 1, 0, 0), (392, .invokevirtual 171, 3, 0, 0), (395, .istore 7, 2, 0, 0), (397, .aload_n 2, 1, 0, 0), (398, .invokevirtual 161, 3, 0, 0), (401, .iload 6, 2, 0, 0), (403, .if_icmp .eq 5, 3, 0, 408), (406, .iconst 0, 1, 0, 0), (407, .ireturn, 1, 0, 0), (408, .iload 6, 2, 0, 0), (410, .ifCond .ne 15, 3, 0, 425), (413, .aload_n 3, 1, 0, 0), (414, .iconst 0, 1, 0, 0), (415, .laload, 1, 0, 0), (416, .iload 7, 2, 0, 0), (418, .i2l, 1, 0, 0), (419, .lcmp, 1, 0, 0), (420, .ifCond .eq 5, 3, 0, 425), (423, .iconst 0, 1, 0, 0), (424, .ireturn, 1, 0, 0), (425, .goto 2229, 3, 0, 2654)]
set_option maxRecDepth 100000 in
theorem tk_lw2 : q_tb code 9 tb_lw2 = true := by decide +kernel
def sim_setLength (g0 : Int32) (σ : q_M) : Prop := q_SimI (fun σ => P_X8_setLength g0 σ ∧ (∀ E, (F_X8_setLength g0 σ).1 = .inr E → E ∈ nx_setLength)) (fun σ => P_X9_setLength g0 σ) (W_setLength g0) (F_X9_setLength g0) σ
def to_setLength (g0 : Int32) (σ : q_M) : q_M := (F_X9_setLength g0 (W_setLength g0 σ).2).2
set_option maxRecDepth 100000 in
theorem cw_setLength : Cond.codeWith yL_setLength cL_setLength 4 (some .int) hh_L_setLength ∈ q_W := q_t3 53 rfl rfl
set_option maxRecDepth 100000 in
theorem sw_setLength : Cond.static yL_setLength ∈ q_W := q_t3 52 rfl rfl
set_option maxRecDepth 100000 in
theorem lw_ln_setLength : Cond.methodLink RL 168 yL_setLength ∈ q_W := q_t3 51 rfl rfl
set_option maxRecDepth 100000 in
set_option maxHeartbeats 2000000 in
theorem lw_setLength {α β : Nat → Nat} {D : va_G} {κ : Nat → ClassId} {p : Program} {l : Launch} {e : Env} {s : State} {m : MethodId} {args : Array Value} {below : List Frame} {meth : Method} {c : Code} {A : Nat → Prop} {Q : State → Prop} {n1 n2 : Nat} (C : q_Cx α β D κ p s m args meth c code RL (fun _ => none) (fun _ => none) 9 A) (hfl : l.flags = flags0) {L : Nat} {xs : Nat → Int32} (hX : q_scr α s A L xs) {i : Nat} (hi : i + 4 ≤ L) (hL : L ≤ 2048) (hn : n1 + 12 ≤ 600000) (hn2 : n2 + 2000 ≤ 7000000) (σ : q_M) (hs : sim_setLength (xs (i + 1)) σ) (kk : q_St α β D κ p l e room_1 s m args below meth c 9 A Q (n1 + 12) (n2 + 2000) (to_setLength (xs (i + 1)) σ) [(0, .ref 239), (1, .ref 220), (2, .ref 229), (3, .ref 237), (4, .ref 238), (5, .int (nI i))] 2654 []) : q_St α β D κ p l e room_1 s m args below meth c 9 A Q n1 n2 σ [(0, .ref 239), (1, .ref 220), (2, .ref 229), (3, .ref 237), (4, .ref 238), (5, .int (nI i))] 372 [] := by
  obtain ⟨hPW, hPF, ht, ho⟩ := hs
  obtain ⟨hPW, hE⟩ := hPW
  refine q_go C tk_lw2 [(0, 1)] [] (pc1 := 373) (σ1 := σ) (lv1 := [(0, .ref 239), (1, .ref 220), (2, .ref 229), (3, .ref 237), (4, .ref 238), (5, .int (nI i))]) (st1 := [.ref 220]) rfl trivial ?_
  refine q_go C tk_lw2 [(1, 4)] [] (pc1 := 378) (σ1 := σ) (lv1 := [(0, .ref 239), (1, .ref 220), (2, .ref 229), (3, .ref 237), (4, .ref 238), (5, .int (nI i))]) (st1 := [.int (nI i + 1), .ref 239, .ref 220]) rfl trivial ?_
  refine q_sld C hX (j := i + 1) (nI_add i 1) (by omega) hL (q_dc (z := (378, .iaload, 1, 0, 0)) tk_lw2 5 rfl) ?_
  refine q_nrm 379 [.int (xs (i + 1)), .ref 220] _ _ rfl rfl rfl rfl ?_
  refine q_go C tk_lw2 [(6, 1)] [] (pc1 := 380) (σ1 := σ) (lv1 := [(0, .ref 239), (1, .ref 220), (2, .ref 229), (3, .ref 237), (4, .ref 238), (5, .int (nI i))]) (st1 := [.ref 237, .int (xs (i + 1)), .ref 220]) rfl trivial ?_
  refine q_callW (n := 3) C hfl cw_setLength (by decide +kernel) q_init_L sw_setLength lw_ln_setLength (As := [.ref 220, .int (xs (i + 1)), .ref 237]) (kw_setLength (xs (i + 1)) σ hPW hE) (rest := []) rfl rfl (q_dc (z := (380, .invokestatic 168, 3, 0, 0)) tk_lw2 7 rfl) (Nat.le_of_ble_eq_true rfl) ⟨(Nat.le_of_ble_eq_true rfl), (Nat.le_of_ble_eq_true rfl)⟩ ⟨(by show n1 + 1 ≤ 603072; omega), (by show n2 + 6 ≤ 7215209; omega)⟩ ?_
  refine q_nrm 383 [.int (W_setLength (xs (i + 1)) σ).1] (n1 + 1) (n2 + 6) rfl rfl rfl rfl ?_
  generalize hk9 : (W_setLength (xs (i + 1)) σ).1 = k9 at ht ho ⊢
  refine q_go C tk_lw2 [(8, 2)] [] (pc1 := 386) (σ1 := (W_setLength (xs (i + 1)) σ).2) (lv1 := (6, .int k9) :: [(0, .ref 239), (1, .ref 220), (2, .ref 229), (3, .ref 237), (4, .ref 238), (5, .int (nI i))]) (st1 := [.ref 229]) rfl trivial ?_
  refine q_go C tk_lw2 [(10, 4)] [] (pc1 := 391) (σ1 := (W_setLength (xs (i + 1)) σ).2) (lv1 := ((6, .int k9) :: [(0, .ref 239), (1, .ref 220), (2, .ref 229), (3, .ref 237), (4, .ref 238), (5, .int (nI i))])) (st1 := [.int (nI i + 1), .ref 239, .ref 229]) rfl trivial ?_
  refine q_sld C hX (j := i + 1) (nI_add i 1) (by omega) hL (q_dc (z := (391, .iaload, 1, 0, 0)) tk_lw2 14 rfl) ?_
  refine q_nrm 392 [.int (xs (i + 1)), .ref 229] _ _ rfl rfl rfl rfl ?_
  refine q_callV C hfl mw_X9_setLength mi_X9_setLength me_X9_setLength lk_L_171 (k_X9_setLength (xs (i + 1)) (W_setLength (xs (i + 1)) σ).2 hPF) (rest := []) rfl rfl rfl (by decide) (by decide) rfl (q_dc (z := (392, .invokevirtual 171, 3, 0, 0)) tk_lw2 15 rfl) (Nat.le_of_ble_eq_true rfl) ⟨(Nat.le_of_ble_eq_true rfl), (Nat.le_of_ble_eq_true rfl)⟩ ⟨(by show n1 + 1 + 0 ≤ 603072; omega), (by show n2 + 6 + 0 ≤ 7215209; omega)⟩ ?_
  refine q_nrm 395 [.int (F_X9_setLength (xs (i + 1)) (W_setLength (xs (i + 1)) σ).2).1] (n1 + 1) (n2 + 6) rfl rfl rfl rfl ?_
  generalize hb9 : (F_X9_setLength (xs (i + 1)) (W_setLength (xs (i + 1)) σ).2).1 = b9 at ho ⊢
  unfold to_setLength at kk
  generalize ht9 : (F_X9_setLength (xs (i + 1)) (W_setLength (xs (i + 1)) σ).2).2 = τ at ht ho kk ⊢
  refine q_go C tk_lw2 [(16, 2)] [] (pc1 := 398) (σ1 := τ) (lv1 := (7, .int b9) :: ((6, .int k9) :: [(0, .ref 239), (1, .ref 220), (2, .ref 229), (3, .ref 237), (4, .ref 238), (5, .int (nI i))])) (st1 := [.ref 229]) rfl trivial ?_
  refine q_callV C hfl mw_X9_thrown mi_X9_thrown me_X9_thrown lk_L_161 (k_X9_thrown τ) (rest := []) rfl rfl rfl (by decide) (by decide) rfl (q_dc (z := (398, .invokevirtual 161, 3, 0, 0)) tk_lw2 18 rfl) (Nat.le_of_ble_eq_true rfl) ⟨(Nat.le_of_ble_eq_true rfl), (Nat.le_of_ble_eq_true rfl)⟩ ⟨(by show n1 + 1 + 0 ≤ 603072; omega), (by show n2 + 6 + 0 ≤ 7215209; omega)⟩ ?_
  refine q_nrm 401 [.int (F_X9_thrown τ)] (n1 + 1) (n2 + 6) rfl rfl rfl rfl ?_
  refine q_go C tk_lw2 [(19, 2)] [true] (pc1 := 408) (σ1 := τ) (lv1 := ((7, .int b9) :: (6, .int k9) :: [(0, .ref 239), (1, .ref 220), (2, .ref 229), (3, .ref 237), (4, .ref 238), (5, .int (nI i))])) (st1 := []) rfl ⟨(by unfold F_X9_thrown; exact ht), trivial⟩ ?_
  by_cases c0 : k9 = 0
  · have ho := ho c0
    refine q_go C tk_lw2 [(23, 8)] [false] (pc1 := 420) (σ1 := τ) (lv1 := ((7, .int b9) :: (6, .int k9) :: [(0, .ref 239), (1, .ref 220), (2, .ref 229), (3, .ref 237), (4, .ref 238), (5, .int (nI i))])) (st1 := [.int (lg_cmp (τ 237 0).toInt64 b9.toInt64)]) rfl ⟨c0, rfl, (by unfold vp_in; decide), trivial⟩ ?_
    refine q_go C tk_lw2 [(31, 1), (34, 1)] [true] (pc1 := 2654) (σ1 := τ) (lv1 := ((7, .int b9) :: (6, .int k9) :: [(0, .ref 239), (1, .ref 220), (2, .ref 229), (3, .ref 237), (4, .ref 238), (5, .int (nI i))])) (st1 := []) rfl ⟨(by rw [ho]; exact q_cmp0 _), trivial⟩ ?_
    refine q_widen (k := n1 + 12) (n := n2 + 2000) (by omega) (by omega) ?_
    exact q_lvpick [2, 3, 4, 5, 6, 7] rfl kk
  · refine q_go C tk_lw2 [(23, 2), (34, 1)] [true] (pc1 := 2654) (σ1 := τ) (lv1 := ((7, .int b9) :: (6, .int k9) :: [(0, .ref 239), (1, .ref 220), (2, .ref 229), (3, .ref 237), (4, .ref 238), (5, .int (nI i))])) (st1 := []) rfl ⟨c0, trivial⟩ ?_
    refine q_widen (k := n1 + 12) (n := n2 + 2000) (by omega) (by omega) ?_
    exact q_lvpick [2, 3, 4, 5, 6, 7] rfl kk
