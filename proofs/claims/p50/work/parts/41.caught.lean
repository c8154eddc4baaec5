/-! The law's forty helpers: the class called, what it throws caught. -/
def q_CW (α β : Nat → Nat) (D : va_G) (κ : Nat → ClassId) (y : MethodName) (cc : ByteArray) (maxL : Nat) (ret : Option FieldType) (hh : List (Nat × Nat × Nat × Nat)) (fr lo mc ms : Nat) (vs : List Value) (σ : q_M) (v : Option Value) (σ' : q_M) : Prop :=
  ∀ l : Launch, l.flags = flags0 → ∀ (Y : q_H) (sz : Nat), Met l y (Cond.codeWith y cc maxL ret hh :: q_W) ({ frames := fr, cells := mc, slots := ms, locals := lo } : Room) (q_Pc α β D κ vs σ Y sz) (q_Qc α β D κ (q_A α Y sz) (.inl v) σ') mc ms (q_A α Y sz)
def q_code : List (String × Int32) → String → Int32
  | [], _ => 0
  | n :: t, E => if E = n.1 then n.2 else q_code t E
theorem Fok_L : q_Fok RL (fun _ => none) := fun i a b h => by cases h
theorem Gok_L : q_Gok RL (fun _ => none) := fun i x h => by cases h
section q41
variable {α β : Nat → Nat} {D : va_G} {κ : Nat → ClassId} {p : Program} {l : Launch} {e : Env} {R : Room} {s : State} {m : MethodId} {args : Array Value} {below : List Frame} {meth : Method} {c : Code} {cc : ByteArray} {own : String} {F : Nat → Option (Nat × Nat)} {G : Nat → Option Int32} {nL : Nat} {A : Nat → Prop} {Q : State → Prop} {n1 n2 : Nat}
variable {y : MethodName} {ret : Option FieldType} {hh : List (Nat × Nat × Nat × Nat)} {fr lo mc ms : Nat} {vs : List Value} {σ σ' : q_M} {v : Option Value} {pc : Nat} {lv : q_Lv} {rest : List Value}
theorem q_enterW (hy : plainName y.cls = true) (ho : y.cls = own) (hF : q_Fok own F) (hG : q_Gok own G) (hlen : (lg_sl (vs.map (q_cv α β))).length ≤ nL)
    (body : ∀ (p : Program) (l : Launch) (e : Env) (s : State) (m : MethodId) (args : Array Value) (below : List Frame) (meth : Method) (c : Code) (A : Nat → Prop), l.flags = flags0 → q_Cx α β D κ p s m args meth c cc own F G nL A → meth.sig.returnType = ret → c.exceptionTable.toList = tableOf hh →
      q_St α β D κ p l e ({ frames := fr, cells := mc, slots := ms, locals := lo } : Room) s m args below meth c nL A (vx_MQ below (q_Qc α β D κ A (.inl v) σ') (q_XC α β D κ A (.inl v) σ') args s mc ms A) 0 0 σ (lv_args 0 vs) 0 []) :
    q_CW α β D κ y cc nL ret hh fr lo mc ms vs σ v σ' := by
  intro l hfl Y sz
  have hv : vx_Met l y (Cond.codeWith y cc nL ret hh :: q_W) ({ frames := fr, cells := mc, slots := ms, locals := lo } : Room) (q_Pc α β D κ vs σ Y sz) (q_Qc α β D κ (q_A α Y sz) (.inl v) σ') (q_XC α β D κ (q_A α Y sz) (.inl v) σ') mc ms (q_A α Y sz) := by
    refine vx_ofWH (cc := cc) (maxL := nL) (ret := ret) (hh := hh) hy rfl ?_
    intro p e s m args below meth c s₁ B hml hv
    obtain ⟨rfl, hsz, hY, hP, hD, hK, hE⟩ := hv
    subst hsz
    have hts := atoms_spec (ws := Cond.codeWith y cc nL ret hh :: q_W) B.pre
    have hown : s.vm.findClass own = some m.cls := ho ▸ findClass_of_methodNamed B.named
    have hl := lv_entry (vs.map (q_cv α β)) (n := nL) hlen
    rw [lg_entry_eq]
    generalize (lg_sl (vs.map (q_cv α β)) ++ List.replicate (nL - (lg_sl (vs.map (q_cv α β))).length) Slot.unset).toArray = ls at hl ⊢
    rw [q_args_map] at hl
    exact body p l e s m _ below meth c (q_A α Y s.heap.size) hfl ⟨B.exec, B.bytes, hml, hown, fun w h => hts w (List.mem_cons_of_mem _ h), hK, hE, fun q h => Or.inr h, B.notSynchronized, hF, hG⟩ B.returns (vx_table (x := y) B (hts _ List.mem_cons_self)) Y s.heap [] ls hY hP hD va_S.rf hl
  intro p e ha hc hk s m args below hf happ hP hK
  obtain ⟨n, o, h1, h2, h3, h4⟩ := hv p e ha hc hk s m args below hf happ hP hK
  refine ⟨n, o, h1, h2, h3, ?_⟩
  rcases h4 with ⟨h5, h6⟩ | ⟨q, -, E, ce, L, ⟨hx, -⟩, -⟩
  · exact ⟨h5, h6⟩
  · cases hx
theorem q_ldel_has {α β : Nat → Nat} {ls : Array Slot} {nL : Nat} {l : q_Lv} {i : Nat} {w : Value} (h : lv_has ls nL ((i, w) :: (q_lm α β l).filter (fun q => !(q.1 == i) && !(q.1 + 1 == i && q.2.category == 2)))) : lv_has ls nL (q_lm α β (q_ldel l i)) := by
  refine q_has_sub h (fun q hq => ?_)
  obtain ⟨z, hz, rfl⟩ := List.mem_map.mp hq
  obtain ⟨a, b, c⟩ := q_ldel_in hz
  refine List.mem_cons_of_mem _ (List.mem_filter.mpr ⟨List.mem_map.mpr ⟨z, a, rfl⟩, ?_⟩)
  simp only [q_cat]
  have h1 : (z.1 == i) = false := by simpa using b
  rw [h1]
  simp only [Bool.not_false, Bool.true_and, Bool.not_eq_true', Bool.and_eq_false_iff, beq_eq_false_iff_ne, ne_eq]
  by_cases e : z.1 + 1 = i
  · exact Or.inr (fun q => c ⟨e, q⟩)
  · exact Or.inl e
theorem q_catch (C : q_Cx α β D κ p s m args meth c cc own F G nL A) (pre : List ExceptionTableEntry) (x : ExceptionTableEntry) (suf : List ExceptionTableEntry) (hT : c.exceptionTable.toList = pre ++ x :: suf) {E : String} (hE : E ∈ q_XS) (hpass : ∀ z ∈ pre, z.catchType ≠ 0 ∧ ∃ nm : String, nm ∈ q_XS ∧ E ≠ nm ∧ Cond.classLink own z.catchType nm ∈ q_W) (hcov : covers x pc = true) (h0 : x.catchType ≠ 0) (hlnk : Cond.classLink own x.catchType E ∈ q_W) (hcast : Cond.castable E E ∈ q_XW)
    {I : Instr} {i len : Nat} (hd : decode cc x.handlerPc = .ok (I, len)) (hI : (∃ k : Fin 4, I = .astore_n k ∧ (k : Nat) = i ∧ len = 1) ∨ (I = .astore i ∧ len = 2)) (hi : i < nL)
    (kk : q_St α β D κ p l e R s m args below meth c nL A Q n1 n2 σ (q_ldel lv i) (x.handlerPc + len) []) : q_Sx α β D κ p l e R s m args below meth c nL A Q n1 n2 σ lv pc rest E := by
  obtain ⟨hx, hb, hml, hown, hts, hK, hEF, hA, hlk, hF, hG⟩ := C
  intro Y H locs ls q ce hY hP hD hS hl h1 h2 h3
  have hNc := hEF.2.2.2.2.2.2.2.2.2.2.2.2.2.2.2.1
  refine vx_catch hown pre x suf hT (fun z hz => ?_) hcov h0 (hts _ hlnk) (q_nw (hEF.2.2.2.2.2.2.2.2.2.2.2.2.2.2.2.2 _ hcast) hcast) h1 h2 h3 ?_
  · obtain ⟨z0, nm, n1, n2, n3⟩ := hpass z hz
    exact Or.inr ⟨z0, nm, hts _ n3, hNc E hE nm n1 n2⟩
  rcases hI with ⟨k, rfl, rfl, rfl⟩ | ⟨rfl, rfl⟩
  · exact lv_astore_n hx hb hd rfl hl hi rfl (fun ls' hl' => kk Y H locs ls' hY hP hD hS (q_ldel_has hl'))
  · exact lv_astore hx hb hd hl hi rfl (fun ls' hl' => kk Y H locs ls' hY hP hD hS (q_ldel_has hl'))
end q41
set_option maxRecDepth 100000 in
theorem cl_L_15 : Cond.classLink RL 15 "java/lang/IllegalStateException" ∈ q_W := q_t3 21 rfl rfl
set_option maxRecDepth 100000 in
theorem cl_L_22 : Cond.classLink RL 22 "java/lang/IndexOutOfBoundsException" ∈ q_W := q_t3 152 rfl rfl
set_option maxRecDepth 100000 in
theorem cl_L_24 : Cond.classLink RL 24 "java/lang/IllegalArgumentException" ∈ q_W := q_t3 107 rfl rfl
set_option maxRecDepth 100000 in
theorem cl_L_44 : Cond.classLink RL 44 "java/lang/UnsupportedOperationException" ∈ q_W := q_t3 155 rfl rfl
set_option maxRecDepth 100000 in
theorem cl_L_56 : Cond.classLink RL 56 "java/util/NoSuchElementException" ∈ q_W := q_t3 216 rfl rfl
section q43
variable {α β : Nat → Nat} {D : va_G} {κ : Nat → ClassId} {p : Program} {l : Launch} {e : Env} {R : Room} {s : State} {m : MethodId} {args : Array Value} {below : List Frame} {meth : Method} {c : Code} {cc : ByteArray} {own : String} {F : Nat → Option (Nat × Nat)} {G : Nat → Option Int32} {nL : Nat} {A : Nat → Prop} {Q : State → Prop} {n1 n2 : Nat}
variable {y : MethodName} {cc' : ByteArray} {maxL' : Nat} {ret' : Option FieldType} {hh : List (Nat × Nat × Nat × Nat)} {fr' lo' mc' ms' n idx pc : Nat} {As rest st : List Value} {σ σ1 : q_M} {lv : q_Lv} {v : Option Value}
theorem q_callW (C : q_Cx α β D κ p s m args meth c cc own F G nL A) (hfl : l.flags = flags0) (hm : Cond.codeWith y cc' maxL' ret' hh ∈ q_W) (hm2 : y.cls ≠ "java/lang/invoke/MethodHandle" ∧ y.cls ≠ "java/lang/invoke/VarHandle" ∧ (parseMethodDescriptor y.desc).map (fun d => d.parameters.length) = some n) (hin : Cond.initialized y.cls ∈ q_W) (hi : Cond.static y ∈ q_W) (hlnk : Cond.methodLink own idx y ∈ q_W) (hc : q_CW α β D κ y cc' maxL' ret' hh fr' lo' mc' ms' As σ v σ1) (hst : st = As.reverse ++ rest) (hn : As.length = n) (hd : decode cc pc = .ok (.invokestatic idx, 3)) (hrest : (rest.map fun v => v.category).sum ≤ 8) (hR : fr' + 1 ≤ R.frames ∧ 8 + (maxL' + 11) + lo' ≤ R.locals) (hcs : n1 + mc' ≤ R.cells ∧ n2 + ms' ≤ R.slots)
    (kk : q_St α β D κ p l e R s m args below meth c nL A Q (n1 + mc') (n2 + ms') σ1 lv (pc + 3) (v.toList ++ rest)) : q_St α β D κ p l e R s m args below meth c nL A Q n1 n2 σ lv pc st := by
  subst hst
  intro Y H locs ls hY hP hD hS hl
  rw [q_map_rev]
  have C0 := C
  obtain ⟨hx, hb, hml, hown, hts, hK, hE, hA, hlk, hF, hG⟩ := C
  have hG2 : GoodIn q_W (va_wsS own idx y (Cond.codeWith y cc' maxL' ret' hh :: q_W)) := by
    have g := q_GI hm
    intro w hw
    unfold va_wsS at hw
    rcases List.mem_append.mp hw with h | h
    · have hw' : w ∈ q_W := by
        simp only [List.mem_cons, List.not_mem_nil, or_false] at h
        rcases h with rfl | rfl | rfl
        · exact hlnk
        · exact hi
        · exact hin
      exact ⟨hw', good_of_word (List.mem_filter.mp hw').2⟩
    · exact g w h
  have hr := vx_runSW (meth := meth) (e := e) (n := n) (cells := n1) (slots := n2) (As := As.map (q_cv α β)) (rest := rest.map (q_cv α β)) (g := F0 m pc ls ((As.map (q_cv α β)).reverse ++ rest.map (q_cv α β))) (below := below) (locs := locs) (hh := hh) ⟨hx, hb, hml, hown, hts⟩ (hc l hfl Y H.size) (vx_cwSW n hts hG2 rfl rfl rfl hm2 hR) ⟨q_FB, q_pre C0 hY hP hD hS⟩ rfl (by rw [List.length_map]; exact hn) hl.1 rfl (lv_room (q_sum_cat hrest)) hd hcs
  have hsub := q_A_sub (α := α) (β := β) (κ := κ) hA hD hS
  intro T hT X
  obtain ⟨v9, st₀, t, T', L, h0, X', hL, e1, e2, ⟨⟨v2, hv2, hv3⟩, ⟨Y', hY', hP', hD'⟩, hFr⟩, st⟩ := hr T hT X
  cases hv2
  cases hv3
  obtain ⟨k1, k2, k3⟩ := vx_keep h0 e1 hS (fun q _ h => hsub q h) hsub hL hFr
  have hkk := kk Y' T'.heap (locs ++ L) ls hY' (by rw [e1]; exact hP') (hD'.weaken (fun _ _ _ h => hsub _ h)) k3 hl
  obtain ⟨t2, a1, b1⟩ := hkk T' rfl X'
  exact ⟨t2, st t2 (by cases v <;> exact a1), b1⟩
end q43
