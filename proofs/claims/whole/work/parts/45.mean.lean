/-! The law's loop: the mean time. -/
def tb_lw32 : List q_E := [(1882, .aload_n 1, 1, 0, 0), (1883, .aload 4, 2, 0, 0), (1885, .invokestatic 267, 3, 0, 0), (1888, .istore 6, 2, 0, 0), (1890, .aload_n 2, 1, 0, 0), (1891, .invokevirtual 270, 3, 0, 0), (1894, .dstore 7, 2, 0, 0), (1896, .aload_n 2, 1, 0, 0), (1897, .invokevirtual 161, 3, 0, 0), (1900, .iload 6, 2, 0, 0), (1902, .if_icmp .eq 5, 3, 0, 1907), (1905, .iconst 0, 1, 0, 0), (1906, .ireturn, 1, 0, 0), (1907, .iload 6, 2, 0, 0), (1909, .ifCond .ne 35, 3, 0, 1944), (1912, .aload 4, 2, 0, 0), (1914, .iconst 0, 1, 0, 0), (1915, .daload, 1, 0, 0), (1916, .dload 7, 2, 0, 0), (1918, .dcmp .l, 1, 0, 0), (1919, .ifCond .eq 25, 3, 0, 1944), (1922, .aload 4, 2, 0, 0), (1924, .iconst 0, 1, 0, 0), (1925, .daload, 1, 0, 0), (1926, .aload 4, 2, 0, 0), (1928, .iconst 0, 1, 0, 0), (1929, .daload, 1, 0, 0), (1930, .dcmp .l, 1, 0, 0), (1931, .ifCond .eq 11, 3, 0, 1942), (1934, .dload 7, 2, 0, 0), (1936, .dload 7, 2, 0, 0), (1938, .dcmp .l, 1, 0, 0), (1939, .ifCond .ne 5, 3, 0, 1944), (1942, .iconst 0, 1, 0, 0), (1943, .ireturn, 1, 0, 0), (1944, .goto 710, 3, 0, 2654)]
set_option maxRecDepth 100000 in
theorem tk_lw32 : q_tb code 9 tb_lw32 = true := by decide +kernel
def sim_meanTime (σ : q_M) : Prop := (P_X8_meanTime σ ∧ ∀ E, F_X8_meanTime σ = .inr E → E ∈ nx_meanTime) ∧ P_X9_meanTime (W_meanTime σ).2 ∧ (F_X9_meanTime (W_meanTime σ).2).2 229 5 = (W_meanTime σ).1 ∧ ((W_meanTime σ).1 = 0 → q_dv ((F_X9_meanTime (W_meanTime σ).2).2 238) = (F_X9_meanTime (W_meanTime σ).2).1 ∧ FP.dcmp (F_X9_meanTime (W_meanTime σ).2).1 (F_X9_meanTime (W_meanTime σ).2).1 = some .eq)
def to_meanTime (σ : q_M) : q_M := (F_X9_meanTime (W_meanTime σ).2).2
set_option maxRecDepth 100000 in
theorem cw_meanTime : Cond.codeWith yL_meanTime cL_meanTime 3 (some .int) hh_L_meanTime ∈ q_W := q_t4 163 rfl rfl
set_option maxRecDepth 100000 in
theorem sw_meanTime : Cond.static yL_meanTime ∈ q_W := q_t4 162 rfl rfl
set_option maxRecDepth 100000 in
theorem lw_ln_meanTime : Cond.methodLink RL 267 yL_meanTime ∈ q_W := q_t4 161 rfl rfl
section q45
variable {α β : Nat → Nat} {D : va_G} {κ : Nat → ClassId} {p : Program} {l : Launch} {e : Env} {R : Room} {s : State} {m : MethodId} {args : Array Value} {below : List Frame} {meth : Method} {c : Code} {cc : ByteArray} {own : String} {F : Nat → Option (Nat × Nat)} {G : Nat → Option Int32} {nL : Nat} {A : Nat → Prop} {Q : State → Prop} {n1 n2 pc : Nat} {σ : q_M} {lv : q_Lv} {rest : List Value} {x : UInt64}
theorem q_dload (C : q_Cx α β D κ p s m args meth c cc own F G nL A) {i : Nat} (hd : decode cc pc = .ok (.dload i, 2)) (hl : q_lget lv i = some (.double x)) (kk : q_St α β D κ p l e R s m args below meth c nL A Q n1 n2 σ lv (pc + 2) (.double x :: rest)) : q_St α β D κ p l e R s m args below meth c nL A Q n1 n2 σ lv pc rest :=
  fun Y H locs ls hY hP hD hS hl2 => lv_dload C.1 C.2.1 hd (q_lget_has hl2 hl) (kk Y H locs ls hY hP hD hS hl2)
theorem q_dstore (C : q_Cx α β D κ p s m args meth c cc own F G nL A) {i : Nat} (hd : decode cc pc = .ok (.dstore i, 2)) (hi : i + 1 < nL) (hlv : ∀ q ∈ lv, q.1 ≠ i ∧ q.1 ≠ i + 1 ∧ q.1 + 1 ≠ i ∨ (q.1 + 1 = i ∧ q.2.category ≠ 2)) (kk : q_St α β D κ p l e R s m args below meth c nL A Q n1 n2 σ ((i, .double x) :: lv) (pc + 2) rest) : q_St α β D κ p l e R s m args below meth c nL A Q n1 n2 σ lv pc (.double x :: rest) := by
  intro Y H locs ls hY hP hD hS hl
  refine lv_dstore C.1 C.2.1 hd hl hi rfl (fun ls' hl' => kk Y H locs ls' hY hP hD hS (q_has_sub hl' (fun q hq => ?_)))
  rcases List.mem_cons.mp hq with rfl | hq
  · exact List.mem_cons_self
  · obtain ⟨z, hz, rfl⟩ := List.mem_map.mp hq
    refine List.mem_cons_of_mem _ (List.mem_filter.mpr ⟨List.mem_map.mpr ⟨z, hz, rfl⟩, ?_⟩)
    simp only [q_cat]
    rcases hlv z hz with ⟨h1, h2, h3⟩ | ⟨h1, h2⟩
    · simp [h1, h2, h3]
    · have e1 : ¬ z.1 = i := by omega
      have e2 : ¬ z.1 = i + 1 := by omega
      simp [e1, e2, h2]
end q45
set_option maxRecDepth 100000 in
set_option maxHeartbeats 2000000 in
theorem lw_meanTime {α β : Nat → Nat} {D : va_G} {κ : Nat → ClassId} {p : Program} {l : Launch} {e : Env} {s : State} {m : MethodId} {args : Array Value} {below : List Frame} {meth : Method} {c : Code} {A : Nat → Prop} {Q : State → Prop} {n1 n2 : Nat} (C : q_Cx α β D κ p s m args meth c code RL (fun _ => none) (fun _ => none) 9 A) (hfl : l.flags = flags0) {i : Nat} (hn : n1 + 12 ≤ 600000) (hn2 : n2 + 2000 ≤ 7000000) (σ : q_M) (hs : sim_meanTime σ) (kk : q_St α β D κ p l e room_1 s m args below meth c 9 A Q (n1 + 12) (n2 + 2000) (to_meanTime σ) [(0, .ref 239), (1, .ref 220), (2, .ref 229), (3, .ref 237), (4, .ref 238), (5, .int (nI i))] 2654 []) : q_St α β D κ p l e room_1 s m args below meth c 9 A Q n1 n2 σ [(0, .ref 239), (1, .ref 220), (2, .ref 229), (3, .ref 237), (4, .ref 238), (5, .int (nI i))] 1882 [] := by
  obtain ⟨hPW, hPF, ht, ho⟩ := hs
  obtain ⟨hPW, hE⟩ := hPW
  refine q_go C tk_lw32 [(0, 2)] [] (pc1 := 1885) (σ1 := σ) (lv1 := [(0, .ref 239), (1, .ref 220), (2, .ref 229), (3, .ref 237), (4, .ref 238), (5, .int (nI i))]) (st1 := [.ref 238, .ref 220]) rfl trivial ?_
  refine q_callW (n := 2) C hfl cw_meanTime (by decide +kernel) q_init_L sw_meanTime lw_ln_meanTime (As := [.ref 220, .ref 238]) (kw_meanTime σ hPW hE) (rest := []) rfl rfl (q_dc (z := (1885, .invokestatic 267, 3, 0, 0)) tk_lw32 2 rfl) (Nat.le_of_ble_eq_true rfl) ⟨(Nat.le_of_ble_eq_true rfl), (Nat.le_of_ble_eq_true rfl)⟩ ⟨(by show n1 + 1 ≤ 603072; omega), (by show n2 + 6 ≤ 7215209; omega)⟩ ?_
  refine q_nrm 1888 [.int (W_meanTime σ).1] (n1 + 1) (n2 + 6) rfl rfl rfl rfl ?_
  generalize hk9 : (W_meanTime σ).1 = k9 at ht ho ⊢
  refine q_go C tk_lw32 [(3, 2)] [] (pc1 := 1891) (σ1 := (W_meanTime σ).2) (lv1 := (6, .int k9) :: [(0, .ref 239), (1, .ref 220), (2, .ref 229), (3, .ref 237), (4, .ref 238), (5, .int (nI i))]) (st1 := [.ref 229]) rfl trivial ?_
  refine q_callV C hfl mw_X9_meanTime mi_X9_meanTime me_X9_meanTime lk_L_270 (k_X9_meanTime (W_meanTime σ).2 hPF) (rest := []) rfl rfl rfl (by decide) (by decide) rfl (q_dc (z := (1891, .invokevirtual 270, 3, 0, 0)) tk_lw32 5 rfl) (Nat.le_of_ble_eq_true rfl) ⟨(Nat.le_of_ble_eq_true rfl), (Nat.le_of_ble_eq_true rfl)⟩ ⟨(by show n1 + 1 + 0 ≤ 603072; omega), (by show n2 + 6 + 0 ≤ 7215209; omega)⟩ ?_
  refine q_nrm 1894 [.double (F_X9_meanTime (W_meanTime σ).2).1] (n1 + 1) (n2 + 6) rfl rfl rfl rfl ?_
  generalize hb9 : (F_X9_meanTime (W_meanTime σ).2).1 = b9 at ho ⊢
  unfold to_meanTime at kk
  generalize ht9 : (F_X9_meanTime (W_meanTime σ).2).2 = τ at ht ho kk ⊢
  refine q_dstore C (q_dc (z := (1894, .dstore 7, 2, 0, 0)) tk_lw32 6 rfl) (by decide) (by intro q hq; simp only [List.mem_cons, List.not_mem_nil, or_false] at hq; rcases hq with rfl | rfl | rfl | rfl | rfl | rfl | rfl <;> first | exact Or.inl ⟨Nat.ne_of_beq_eq_false rfl, Nat.ne_of_beq_eq_false rfl, Nat.ne_of_beq_eq_false rfl⟩ | exact Or.inr ⟨rfl, (show (1 : Nat) ≠ 2 by decide)⟩) ?_
  refine q_go C tk_lw32 [(7, 1)] [] (pc1 := 1897) (σ1 := τ) (lv1 := ((7, .double b9) :: (6, .int k9) :: [(0, .ref 239), (1, .ref 220), (2, .ref 229), (3, .ref 237), (4, .ref 238), (5, .int (nI i))])) (st1 := [.ref 229]) rfl trivial ?_
  refine q_callV C hfl mw_X9_thrown mi_X9_thrown me_X9_thrown lk_L_161 (k_X9_thrown τ) (rest := []) rfl rfl rfl (by decide) (by decide) rfl (q_dc (z := (1897, .invokevirtual 161, 3, 0, 0)) tk_lw32 8 rfl) (Nat.le_of_ble_eq_true rfl) ⟨(Nat.le_of_ble_eq_true rfl), (Nat.le_of_ble_eq_true rfl)⟩ ⟨(by show n1 + 1 + 0 ≤ 603072; omega), (by show n2 + 6 + 0 ≤ 7215209; omega)⟩ ?_
  refine q_nrm 1900 [.int (F_X9_thrown τ)] (n1 + 1) (n2 + 6) rfl rfl rfl rfl ?_
  refine q_go C tk_lw32 [(9, 2)] [true] (pc1 := 1907) (σ1 := τ) (lv1 := ((7, .double b9) :: (6, .int k9) :: [(0, .ref 239), (1, .ref 220), (2, .ref 229), (3, .ref 237), (4, .ref 238), (5, .int (nI i))])) (st1 := []) rfl ⟨(by unfold F_X9_thrown; exact ht), trivial⟩ ?_
  by_cases c0 : k9 = 0
  · obtain ⟨ho, hc⟩ := ho c0
    refine q_go C tk_lw32 [(13, 5)] [false] (pc1 := 1916) (σ1 := τ) (lv1 := ((7, .double b9) :: (6, .int k9) :: [(0, .ref 239), (1, .ref 220), (2, .ref 229), (3, .ref 237), (4, .ref 238), (5, .int (nI i))])) (st1 := [.double (q_dv (τ 238))]) rfl ⟨c0, rfl, (by unfold vp_in; decide), trivial⟩ ?_
    refine q_dload C (q_dc (z := (1916, .dload 7, 2, 0, 0)) tk_lw32 18 rfl) rfl ?_
    refine q_go C tk_lw32 [(19, 2), (35, 1)] [true] (pc1 := 2654) (σ1 := τ) (lv1 := ((7, .double b9) :: (6, .int k9) :: [(0, .ref 239), (1, .ref 220), (2, .ref 229), (3, .ref 237), (4, .ref 238), (5, .int (nI i))])) (st1 := []) rfl ⟨(by rw [ho, hc]; rfl), trivial⟩ ?_
    refine q_widen (k := n1 + 12) (n := n2 + 2000) (by omega) (by omega) ?_
    exact q_lvpick [2, 3, 4, 5, 6, 7] rfl kk
  · refine q_go C tk_lw32 [(13, 2), (35, 1)] [true] (pc1 := 2654) (σ1 := τ) (lv1 := ((7, .double b9) :: (6, .int k9) :: [(0, .ref 239), (1, .ref 220), (2, .ref 229), (3, .ref 237), (4, .ref 238), (5, .int (nI i))])) (st1 := []) rfl ⟨c0, trivial⟩ ?_
    refine q_widen (k := n1 + 12) (n := n2 + 2000) (by omega) (by omega) ?_
    exact q_lvpick [2, 3, 4, 5, 6, 7] rfl kk
