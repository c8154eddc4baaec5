/-! Texts that the law makes: worlds with a builder at their end. -/
set_option maxRecDepth 100000 in
theorem jt_cl_0 : Cond.classLink RL 154 "java/lang/StringBuilder" ∈ q_W := q_t5 146 rfl rfl
set_option maxRecDepth 100000 in
theorem jt_is_1 : Cond.instantiable "java/lang/StringBuilder" 4 ∈ q_W := q_t1 138 rfl rfl
set_option maxRecDepth 100000 in
theorem jt_ii_2 : Cond.initialized "java/lang/StringBuilder" ∈ q_W := q_t1 9 rfl rfl
def t_sb (h b : Nat) (ml : Int32) (n mm : Nat) (κ : Nat → ClassId) (a : Nat → Int32) : va_W := [(h, .inr (1, [.ref b, .int 0, .int ml, .int (nI n)])), (b, .inl (κ 1, mm, .inl a))]
def t_tx (g u n : Nat) (κ : Nat → ClassId) (c : Nat → Int32) : va_W := [(g, .inr (0, [.ref u, .int 0, .int 0, .int 0])), (u, .inl (κ 1, n, .inl c))]
section q46
variable {α β : Nat → Nat} {D : va_G} {κ : Nat → ClassId} {p : Program} {l : Launch} {e : Env} {R : Room} {s : State} {m : MethodId} {args : Array Value} {below : List Frame} {meth : Method} {c : Code} {cc : ByteArray} {own : String} {F : Nat → Option (Nat × Nat)} {G : Nat → Option Int32} {nL : Nat} {A : Nat → Prop} {Q : State → Prop} {n1 n2 : Nat}
theorem t_Pl {w1 w2 : va_W} {H : Heap} (h : va_P D vwCl (w1 ++ w2) H) : va_P D vwCl w1 H := fun k q hk => h k q (by rw [List.getElem?_append_left (List.getElem?_eq_some_iff.mp hk).1]; exact hk)
theorem t_Pr {w1 w2 : va_W} {H : Heap} (h : va_P D vwCl (w1 ++ w2) H) : va_P D vwCl w2 H := fun k q hk => h (w1.length + k) q (by rw [List.getElem?_append_right (by omega), Nat.add_sub_cancel_left]; exact hk)
theorem t_Dl {w1 w2 : va_W} (h : va_D A (w1 ++ w2)) : va_D A w1 := ⟨fun i j p q hi hj => h.1 i j p q (by rw [List.getElem?_append_left (List.getElem?_eq_some_iff.mp hi).1]; exact hi) (by rw [List.getElem?_append_left (List.getElem?_eq_some_iff.mp hj).1]; exact hj), fun k q hk => h.2 k q (by rw [List.getElem?_append_left (List.getElem?_eq_some_iff.mp hk).1]; exact hk)⟩
theorem t_Dr {w1 w2 : va_W} (h : va_D A (w1 ++ w2)) : va_D A w2 := by
  have key : ∀ (k : Nat) (q : Nat × va_E), w2[k]? = some q → (w1 ++ w2)[w1.length + k]? = some q := fun k q hk => by rw [List.getElem?_append_right (by omega), Nat.add_sub_cancel_left]; exact hk
  refine ⟨fun i j p q hi hj hpq => ?_, fun k q hk => h.2 _ q (key k q hk)⟩
  have := h.1 _ _ p q (key i p hi) (key j q hj) hpq
  omega
theorem t_Dx {w1 w2 : va_W} (h : va_D A (w1 ++ w2)) : ∀ (i j : Nat) (p q : Nat × va_E), w1[i]? = some p → w2[j]? = some q → p.1 ≠ q.1 := by
  intro i j p q hi hj hpq
  have hl := (List.getElem?_eq_some_iff.mp hi).1
  have := h.1 i (w1.length + j) p q (by rw [List.getElem?_append_left hl]; exact hi) (by rw [List.getElem?_append_right (by omega), Nat.add_sub_cancel_left]; exact hj) hpq
  omega
theorem t_swapP {w a b : va_W} {H : Heap} (h : va_P D vwCl (w ++ a ++ b) H) : va_P D vwCl (w ++ b ++ a) H := ((t_Pl (t_Pl h)).app (t_Pr h)).app (t_Pr (t_Pl h))
theorem t_swapD {w a b : va_W} (h : va_D A (w ++ a ++ b)) : va_D A (w ++ b ++ a) := by
  have h1 := t_Dl h
  have hwa := t_Dx h1
  have hx := t_Dx h
  refine ((t_Dl h1).app (t_Dr h) (fun i j p q hi hj => hx i j p q (by rw [List.getElem?_append_left (List.getElem?_eq_some_iff.mp hi).1]; exact hi) hj)).app (t_Dr h1) (fun i j p q hi hj hpq => ?_)
  rcases Nat.lt_or_ge i w.length with hl | hl
  · rw [List.getElem?_append_left hl] at hi
    exact hwa i j p q hi hj hpq
  · rw [List.getElem?_append_right hl] at hi
    exact hx (w.length + j) (i - w.length) q p (by rw [List.getElem?_append_right (by omega), Nat.add_sub_cancel_left]; exact hj) hi hpq.symm
theorem t_join {w1 wc w2 : va_W} {H H1 : Heap} (hP : va_P D vwCl (w1 ++ wc) H) (hD : va_D A (w1 ++ wc)) (hk : ∀ q : Nat, q < H.size → ¬ va_A wc H.size q → H1[q]? = H[q]?) (hF : ∀ q, va_A wc H.size q → A q) (hP1 : va_P D vwCl w2 H1) (hD1 : va_D (va_A wc H.size) w2) : va_P D vwCl (w1 ++ w2) H1 ∧ va_D A (w1 ++ w2) := by
  have hx := t_Dx hD
  have out : ∀ (k : Nat) (q : Nat × va_E), w1[k]? = some q → q.1 < H.size ∧ ¬ va_A wc H.size q.1 := by
    intro k q hq
    have hl := vx_lt (t_Pl hP) hq
    refine ⟨hl, ?_⟩
    rintro (⟨j, e9, hj⟩ | hj)
    · exact hx k j q _ hq hj rfl
    · omega
  refine ⟨va_P.app ((t_Pl hP).kept (fun k q hq => hk q.1 (out k q hq).1 (out k q hq).2)) hP1, va_D.app (t_Dl hD) (hD1.weaken (fun _ _ _ h => hF _ h)) (fun i j p q hi hj hpq => ?_)⟩
  exact (out i p hi).2 (hpq ▸ hD1.2 j q hj)
theorem t_free {w1 wc : va_W} {H : Heap} {locs : List Loc} (hA : ∀ q : Nat, s.heap.size ≤ q → A q) (hD : va_D A (w1 ++ wc)) (hS : va_S A s.heap H locs) : ∀ q, va_A wc H.size q → A q := by
  rintro q (⟨k, e9, hk⟩ | hq)
  · exact (t_Dr hD).2 k _ hk
  · exact hA q (Nat.le_trans hS.1 hq)
/-- the environment of a call, at this heap: that of the walk, or with another text -/
def t_Env (α1 : Nat → Nat) (w : va_W) (s : State) (A : Nat → Prop) (D : va_G) : Prop := ∀ (H : Heap) (locs : List Loc) (wc : va_W), va_P D vwCl (w ++ wc) H → va_D A (w ++ wc) → va_S A s.heap H locs → s_E α1 (va_A wc H.size) s H
theorem t_env (C : q_Cx α β D κ p s m args meth c cc own F G nL A) (w : va_W) : t_Env α w s A D := by
  obtain ⟨hx, hb, hml, hown, hts, hK, hE, hA, hlk, hF, hG⟩ := C
  intro H locs wc hP hD hS
  exact (hE.loc.kept hS.2.1).narrow (t_free hA hD hS)
theorem t_pre {α1 : Nat → Nat} (C : q_Cx α β D κ p s m args meth c cc own F G nL A) {w wc : va_W} {H : Heap} {locs : List Loc} {vs : List Value} (hE : t_Env α1 w s A D) (hP : va_P D vwCl (w ++ wc) H) (hD : va_D A (w ++ wc)) (hS : va_S A s.heap H locs) : ∀ U : State, U.heap = H → s.WarmedH U.vm → s_Pc α1 D κ vs wc H.size vs.toArray U := by
  obtain ⟨hx, hb, hml, hown, hts, hK, hE0, hA, hlk, hF, hG⟩ := C
  intro U hU hW
  refine ⟨rfl, by rw [hU], by rw [hU]; exact t_Pr hP, (t_Dr hD).self, va_K.moved hW.alike hK, ?_⟩
  rw [hU]
  exact (hE H locs wc hP hD hS).moved hW
/-- a state of the walk, in a world of its own -/
def t_0 (α β : Nat → Nat) (D : va_G) (p : Program) (l : Launch) (e : Env) (R : Room) (s : State) (m : MethodId) (args : Array Value) (below : List Frame) (meth : Method) (c : Code) (nL : Nat) (A : Nat → Prop) (Q : State → Prop) (n1 n2 : Nat) (w : va_W) (lv : q_Lv) (pc : Nat) (st : List Value) : Prop :=
  ∀ (H : Heap) (locs : List Loc) (ls : Array Slot), va_P D vwCl w H → va_D A w → va_S A s.heap H locs → lv_has ls nL (q_lm α β lv) → W p l e R s m args below meth c H locs n1 n2 Q (F0 m pc ls st)
/-- with a builder of n letters tx at h -/
def t_W (α β : Nat → Nat) (D : va_G) (κ : Nat → ClassId) (p : Program) (l : Launch) (e : Env) (R : Room) (s : State) (m : MethodId) (args : Array Value) (below : List Frame) (meth : Method) (c : Code) (nL : Nat) (A : Nat → Prop) (Q : State → Prop) (n1 n2 : Nat) (w : va_W) (h n mm : Nat) (tx : Nat → Nat) (lv : q_Lv) (pc : Nat) (st : List Value) : Prop :=
  ∀ (b : Nat) (ml : Int32) (a : Nat → Int32), sb_Lat tx n a → sb_Fit a → t_0 α β D p l e R s m args below meth c nL A Q n1 n2 (w ++ t_sb h b ml n mm κ a) lv pc st
variable {w : va_W} {h n mm i : Nat} {tx : Nat → Nat} {lv : q_Lv} {pc : Nat} {st rest : List Value}
theorem t_new (C : q_Cx α β D κ p s m args meth c cc RL F G nL A) (d0 : decode cc pc = .ok (.new 154, 3)) (d3 : decode cc (pc + 3) = .ok (.dup, 1)) (d4 : decode cc (pc + 4) = .ok (.invokespecial 156, 3)) (hst : (st.map fun v => v.category).sum ≤ 6) (hR : 3 ≤ R.frames ∧ 8 + (1 + 11) + 45 ≤ R.locals) (hc : n1 + 2 ≤ R.cells) (hs : n2 + 20 ≤ R.slots) (kk : ∀ h, t_W α β D κ p l e R s m args below meth c nL A Q (n1 + 2) (n2 + 20) w h 0 16 (fun _ => 0) lv (pc + 7) (.ref h :: st)) : t_0 α β D p l e R s m args below meth c nL A Q n1 n2 w lv pc st := by
  have C0 := C
  obtain ⟨hx, hb, hml, hown, hts, hK, hE, hA, hlk, hF, hG⟩ := C
  intro H locs ls hP hD hS hl
  refine va_new (ci := 1) (fs := [.null, .int 0, .int 0, .int 0]) (C := RJ4) (T := TJ4) (N := 4) hx hb hts q_u_J4 tyJ4 tyJ4_ok hown (hts _ jt_cl_0) (hts _ jt_is_1) (hts _ jt_ii_2) hK hP hD hS hA rfl (fun j hj => by rcases (show j = 0 ∨ j = 1 ∨ j = 2 ∨ j = 3 by omega) with rfl | rfl | rfl | rfl <;> rfl) (by omega) (by omega) d0 (fun h H hP hD hS => ?_)
  refine lv_dup hx hb d3 rfl ?_
  have hfree := t_free hA hD hS
  have hM := s_initS (α := α) (D := D) (κ := κ) h l H.size
  refine va_callv (va_runI (n := 0) (As := []) (rest := .ref h :: st) ⟨hx, hb, hml, hown, hts⟩ hM (cwI 0 hts (q_GI mw_J4_init_da8c8.1) rfl rfl rfl (hts _ mw_J4_init_da8c8.2.2.2) (hts _ lk_L_156) (hts _ mi_J4_init_da8c8) rfl ⟨mw_J4_init_da8c8.2.1.1, mw_J4_init_da8c8.2.1.2, mw_J4_init_da8c8.2.2.1⟩ hR) ⟨s_FB, t_pre C0 (t_env C0 w) hP hD hS⟩ rfl rfl hl.1 rfl (lv_room (by simp only [List.map_cons, List.sum_cons]; show 1 + _ ≤ 8; omega)) d4 ⟨by omega, by omega⟩) hS (fun q _ hq => hfree q hq) hfree (fun b t H1 locs1 ht hvm hpost hB hz hk hS1 => ?_)
  obtain ⟨hP1, hD1⟩ := hB
  rw [ht] at hP1
  obtain ⟨hP2, hD2⟩ := t_join hP hD hk hfree hP1 hD1
  exact W.widen (by omega) (by omega) (kk h b 0 (fun _ => 0) (fun j hj => absurd hj (Nat.not_lt_zero j)) sb_fit0 H1 locs1 ls hP2 hD2 hS1 hl)
theorem t_ldc (C : q_Cx α β D κ p s m args meth c cc RL F G nL A) {j ix : Nat} {tt : String} (hj : j < 8) (hix : (q_mk.getD j (0, "")) = (ix, tt)) (hd : decode cc pc = .ok (.ldc ix, 2)) (kk : t_W α β D κ p l e R s m args below meth c nL A Q n1 n2 w h n mm tx lv (pc + 2) (.ref (α (340 + (8 + j))) :: st)) : t_W α β D κ p l e R s m args below meth c nL A Q n1 n2 w h n mm tx lv pc st := by
  obtain ⟨hx, hb, hml, hown, hts, hK, hE, hA, hlk, hF, hG⟩ := C
  intro b ml a hL hf H locs ls hP hD hS hl
  have h1 := hE.2.2.2.2.2.2.2.2.2.2.2.2.1 j hj
  rw [hix, show 348 + j = 340 + (8 + j) by omega] at h1
  exact va_ldcS hx hb hown h1 hd (kk b ml a hL hf H locs ls hP hD hS hl)
theorem t_iload (C : q_Cx α β D κ p s m args meth c cc own F G nL A) {k : Nat} {v : Int32} {x : Fin 4} (hv : q_lget lv x.val = some (.int v)) (hd : decode cc pc = .ok (.iload_n x, 1)) (kk : t_W α β D κ p l e R s m args below meth c nL A Q n1 n2 w h n mm tx lv (pc + 1) (.int v :: st)) : t_W α β D κ p l e R s m args below meth c nL A Q n1 n2 w h n mm tx lv pc st := by
  intro b ml a hL hf H locs ls hP hD hS hl
  exact lv_iload_n C.1 C.2.1 hd rfl (q_lget_has hl hv) (kk b ml a hL hf H locs ls hP hD hS hl)
theorem t_iloadw (C : q_Cx α β D κ p s m args meth c cc own F G nL A) {x : Nat} {v : Int32} (hv : q_lget lv x = some (.int v)) (hd : decode cc pc = .ok (.iload x, 2)) (kk : t_W α β D κ p l e R s m args below meth c nL A Q n1 n2 w h n mm tx lv (pc + 2) (.int v :: st)) : t_W α β D κ p l e R s m args below meth c nL A Q n1 n2 w h n mm tx lv pc st := by
  intro b ml a hL hf H locs ls hP hD hS hl
  exact lv_iload C.1 C.2.1 hd (q_lget_has hl hv) (kk b ml a hL hf H locs ls hP hD hS hl)
theorem t_runV (C : q_Cx α β D κ p s m args meth c cc RL F G nL A) {α1 : Nat → Nat} {y : MethodName} {cc' : ByteArray} {maxL' : Nat} {ret' : Option FieldType} {fr' lo' mc' ms' n' idx b0 : Nat} {fs : List Value} {As : List Value} {wc : va_W} {Qc : Array Value → State → Outcome → State → Prop} {H : Heap} {locs : List Loc} {ls : Array Slot} (hE : t_Env α1 w s A D) (hm : q_mw y cc' maxL' ret' n') (hi : Cond.instanceMethod y ∈ q_W) (hsel : Cond.selects y.cls y y ∈ q_W) (hlnk : Cond.methodLink RL idx y ∈ q_W) (hyc : y.cls = RJ4)
    (hM : Met l y (Cond.code y cc' maxL' ret' :: q_W) ({ frames := fr', cells := mc', slots := ms', locals := lo' } : Room) (s_Pc α1 D κ (.ref b0 :: As) wc H.size) Qc mc' ms' (va_A wc H.size)) (hq : wc[0]? = some (b0, .inr (1, fs))) (hP : va_P D vwCl (w ++ wc) H) (hD : va_D A (w ++ wc)) (hS : va_S A s.heap H locs) (hl : lv_has ls nL (q_lm α β lv))
    (hst : st = As.reverse ++ .ref b0 :: rest) (hlen : As.length = n') (hd : decode cc pc = .ok (.invokevirtual idx, 3)) (hrest : (rest.map fun v => v.category).sum ≤ 8) (hR : fr' + 1 ≤ R.frames ∧ 8 + (maxL' + 11) + lo' ≤ R.locals) (hcs : n1 + mc' ≤ R.cells ∧ n2 + ms' ≤ R.slots) :
    va_Run p l e R s m args below meth c H locs n1 n2 mc' ms' (F0 m pc ls st) rest (Qc (Value.ref b0 :: As).toArray) (va_A wc H.size) := by
  have C0 := C
  obtain ⟨hx, hb, hml, hown, hts, hK, hE0, hA, hlk, hF, hG⟩ := C
  obtain ⟨hm1, hm2, hm3, hm4⟩ := hm
  have hG2 : GoodIn q_W (wsV RL idx y.cls y (Cond.code y cc' maxL' ret' :: q_W)) := by
    have g := q_GI hm1
    intro w hw
    unfold wsV at hw
    rcases List.mem_append.mp hw with h | h
    · have hw' : w ∈ q_W := by
        simp only [List.mem_cons, List.not_mem_nil, or_false] at h
        rcases h with rfl | rfl | rfl | rfl
        · exact hlnk
        · exact hi
        · exact hsel
        · exact hm4
      exact ⟨hw', good_of_word (List.mem_filter.mp hw').2⟩
    · exact g w h
  have hrecv := va_recv hK (t_Pr hP) (show vwCl[1]? = some (RJ4, TJ4, 4) from rfl) hq
  have hrecv2 : ∃ cell : Cell, H[b0]? = some cell ∧ cell.vm.isStatics = false ∧ s.vm.findClass y.cls = some cell.cls := by rw [hyc]; exact hrecv
  exact va_runV (n := n') ⟨hx, hb, hml, hown, hts⟩ hM (cwV n' hts hG2 rfl rfl rfl ⟨rfl, hm2.1, hm2.2, hm3⟩ hR) ⟨s_FB, hrecv2, t_pre C0 hE hP hD hS⟩ rfl hlen hl.1 hst (lv_room hrest) hd hcs
theorem t_appS (C : q_Cx α β D κ p s m args meth c cc RL F G nL A) {α1 : Nat → Nat} (hE : t_Env α1 w s A D) (kc : Nat) (hi : i < 17) (hm : mm ≤ 65536) (hn : n ≤ mm) (hkc : n + q_tl α1 i ≤ mm ∨ sb_cap (n + q_tl α1 i) mm ≤ kc) (hcap : sb_cap (n + q_tl α1 i) mm ≤ 65536) (hd : decode cc pc = .ok (.invokevirtual 159, 3)) (hrest : (rest.map fun v => v.category).sum ≤ 8) (hR : 6 ≤ R.frames ∧ 8 + (2 + 11) + 145 ≤ R.locals) (hc : n1 + 1 ≤ R.cells) (hs : n2 + kc ≤ R.slots)
    (kk : t_W α β D κ p l e R s m args below meth c nL A Q (n1 + 1) (n2 + kc) w h (n + q_tl α1 i) (sb_cap (n + q_tl α1 i) mm) (sb_cat tx n (q_tn α1 i)) lv (pc + 3) (.ref h :: rest)) : t_W α β D κ p l e R s m args below meth c nL A Q n1 n2 w h n mm tx lv pc (.ref (α1 (340 + i)) :: .ref h :: rest) := by
  intro b ml a hL hf H locs ls hP hD hS hl
  have hA := C.2.2.2.2.2.2.2.1
  have hfree := t_free hA hD hS
  refine va_callr (t_runV (As := [.ref (α1 (340 + i))]) (lv := lv) C hE mw_J4_append_15ec4 mi_J4_append_15ec4 me_J4_append_15ec4 lk_L_159 rfl (s_AppS (α := α1) (D := D) (κ := κ) h b ml mm n a tx i kc hi hm hn hL hf hkc hcap l H.size) rfl hP hD hS hl rfl rfl hd hrest hR ⟨hc, hs⟩) hS (fun q _ hq => hfree q hq) hfree (fun u ra t H1 locs1 ht hvm hpost hB hz hk hS1 => ?_)
  obtain ⟨hra, hP1, hD1⟩ := hB
  subst hra
  rw [ht] at hP1
  obtain ⟨hP2, hD2⟩ := t_join hP hD hk hfree hP1 hD1
  exact kk u.1 ml u.2 hpost.1 hpost.2 H1 locs1 ls hP2 hD2 hS1 hl
theorem t_appI (C : q_Cx α β D κ p s m args meth c cc RL F G nL A) {v : Nat} (kc : Nat) (hv : v < 2 ^ 31) (hm : mm ≤ 65536) (hn : n ≤ mm) (hkc : n + sb_dg v ≤ mm ∨ sb_cap (n + sb_dg v) mm ≤ kc) (hcap : sb_cap (n + sb_dg v) mm ≤ 65536) (hd : decode cc pc = .ok (.invokevirtual 163, 3)) (hrest : (rest.map fun v => v.category).sum ≤ 8) (hR : 6 ≤ R.frames ∧ 8 + (2 + 11) + 140 ≤ R.locals) (hc : n1 + 1 ≤ R.cells) (hs : n2 + kc ≤ R.slots)
    (kk : t_W α β D κ p l e R s m args below meth c nL A Q (n1 + 1) (n2 + kc) w h (n + sb_dg v) (sb_cap (n + sb_dg v) mm) (sb_cat tx n (sb_dec v)) lv (pc + 3) (.ref h :: rest)) : t_W α β D κ p l e R s m args below meth c nL A Q n1 n2 w h n mm tx lv pc (.int (nI v) :: .ref h :: rest) := by
  intro b ml a hL hf H locs ls hP hD hS hl
  have hA := C.2.2.2.2.2.2.2.1
  have hfree := t_free hA hD hS
  refine va_callr (t_runV (As := [.int (nI v)]) (lv := lv) C (t_env C w) mw_J4_append_bf812 mi_J4_append_bf812 me_J4_append_bf812 lk_L_163 rfl (s_AppI (α := α) (D := D) (κ := κ) h b ml mm n a tx v kc hm hn hL hf hv hkc hcap l H.size) rfl hP hD hS hl rfl rfl hd hrest hR ⟨hc, hs⟩) hS (fun q _ hq => hfree q hq) hfree (fun u ra t H1 locs1 ht hvm hpost hB hz hk hS1 => ?_)
  obtain ⟨hra, hP1, hD1⟩ := hB
  subst hra
  rw [ht] at hP1
  obtain ⟨hP2, hD2⟩ := t_join hP hD hk hfree hP1 hD1
  exact kk u.1 ml u.2 hpost.1 hpost.2 H1 locs1 ls hP2 hD2 hS1 hl
theorem t_toS (C : q_Cx α β D κ p s m args meth c cc RL F G nL A) (hm : mm ≤ 65536) (hn : n < mm) (hd : decode cc pc = .ok (.invokevirtual 168, 3)) (hrest : (rest.map fun v => v.category).sum ≤ 8) (hR : 6 ≤ R.frames ∧ 8 + (1 + 11) + 185 ≤ R.locals) (hc : n1 + 2 ≤ R.cells) (hs : n2 + (4 + n) ≤ R.slots)
    (kk : ∀ (g u : Nat) (c9 : Nat → Int32), sb_Lat tx n c9 → t_0 α β D p l e R s m args below meth c nL A Q (n1 + 2) (n2 + (4 + n)) (w ++ t_tx g u n κ c9) lv (pc + 3) (.ref g :: rest)) : t_W α β D κ p l e R s m args below meth c nL A Q n1 n2 w h n mm tx lv pc (.ref h :: rest) := by
  intro b ml a hL hf H locs ls hP hD hS hl
  have hA := C.2.2.2.2.2.2.2.1
  have hfree := t_free hA hD hS
  refine va_callr (t_runV (As := []) (lv := lv) C (t_env C w) mw_J4_toString_0e30d mi_J4_toString_0e30d me_J4_toString_0e30d lk_L_168 rfl (s_ToStr (α := α) (D := D) (κ := κ) h b ml mm n a hf hm hn l H.size) rfl hP hD hS hl rfl rfl hd hrest hR ⟨hc, hs⟩) hS (fun q _ hq => hfree q hq) hfree (fun u g t H1 locs1 ht hvm hpost hB hz hk hS1 => ?_)
  obtain ⟨hP1, hD1⟩ := hB
  rw [ht] at hP1
  have hP3 := hP1.sub (ws' := t_tx g u n κ (va_cpy a (fun _ => 0) 0 0 n)) [0, 3] rfl
  have hD3 := hD1.sub (ws' := t_tx g u n κ (va_cpy a (fun _ => 0) 0 0 n)) [0, 3] (by decide) rfl
  obtain ⟨hP2, hD2⟩ := t_join hP hD hk hfree hP3 hD3
  refine kk g u (va_cpy a (fun _ => 0) 0 0 n) (fun j hj => ?_) H1 locs1 ls hP2 hD2 hS1 hl
  have h9 := hL j hj
  refine ⟨h9.1, ?_⟩
  show (if 0 ≤ j ∧ j < 0 + n then a (0 + (j - 0)) else 0) = _
  rw [if_pos (by omega), show 0 + (j - 0) = j by omega]
  exact h9.2
end q46
