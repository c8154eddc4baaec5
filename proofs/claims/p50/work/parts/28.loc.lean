/-! Local worlds: what the walks of the library's own methods and of the constructors stand on. -/
abbrev s_SW : List Cond := [.selects "java/lang/StringBuilder" ⟨"java/lang/AbstractStringBuilder", "ensureCapacityInternal", "(I)V"⟩ ⟨"java/lang/AbstractStringBuilder", "ensureCapacityInternal", "(I)V"⟩, .selects "java/lang/StringBuilder" ⟨"java/lang/AbstractStringBuilder", "newCapacity", "(I)I"⟩ ⟨"java/lang/AbstractStringBuilder", "newCapacity", "(I)I"⟩, .selects "java/lang/StringBuilder" ⟨"java/lang/AbstractStringBuilder", "putStringAt", "(ILjava/lang/String;)V"⟩ ⟨"java/lang/AbstractStringBuilder", "putStringAt", "(ILjava/lang/String;)V"⟩, .selects "java/lang/StringBuilder" ⟨"java/lang/AbstractStringBuilder", "inflateIfNeededFor", "(Ljava/lang/String;)V"⟩ ⟨"java/lang/AbstractStringBuilder", "inflateIfNeededFor", "(Ljava/lang/String;)V"⟩]
def s_E (α : Nat → Nat) (A : Nat → Prop) (U : State) (H : Heap) : Prop := vk_S 16 q_sl q_sb (fun i => α (340 + i)) (fun i => α (360 + i)) A U H ∧ q_EJ α A U H ∧ ∀ w ∈ s_SW, va_Nw w U
theorem s_SW.mv {u U : State} (hW : u.WarmedH U.vm) (h : ∀ w ∈ s_SW, va_Nw w u) : ∀ w ∈ s_SW, va_Nw w U := by
  intro w hw
  have hz := h w hw
  simp only [s_SW, List.mem_cons, List.not_mem_nil, or_false] at hw
  rcases hw with rfl | rfl | rfl | rfl <;> exact word_at hW (Or.inl (by decide +kernel)) hz
theorem s_E.moved {α : Nat → Nat} {A : Nat → Prop} {u U : State} {H : Heap} (hW : u.WarmedH U.vm) (h : s_E α A u H) : s_E α A U H := ⟨h.1.moved hW.alike, h.2.1.moved hW.alike, s_SW.mv hW h.2.2⟩
theorem s_E.kept {α : Nat → Nat} {A : Nat → Prop} {U : State} {H H1 : Heap} (h : s_E α A U H) (hq : ∀ a : Nat, a < H.size → ¬ A a → H1[a]? = H[a]?) : s_E α A U H1 := ⟨h.1.kept hq, h.2.1.kept hq, h.2.2⟩
theorem s_E.narrow {α : Nat → Nat} {A B : Nat → Prop} {U : State} {H : Heap} (h : s_E α A U H) (hAB : ∀ q, B q → A q) : s_E α B U H := ⟨h.1.narrow hAB, h.2.1.narrow hAB, h.2.2⟩
abbrev s_Pc (α : Nat → Nat) (D : va_G) (κ : Nat → ClassId) (vs : List Value) (ws : va_W) (sz : Nat) : Array Value → State → Prop := va_Pc vs (fun U => U.heap.size = sz ∧ va_P D vwCl ws U.heap ∧ va_D (va_A ws sz) ws ∧ va_K D vwCl (q_tys κ) U ∧ s_E α (va_A ws sz) U U.heap)
theorem s_FB {α : Nat → Nat} {D : va_G} {κ : Nat → ClassId} {vs : List Value} {ws : va_W} {sz : Nat} : FrameBlind (s_Pc α D κ vs ws sz) := by
  intro a U g mk h
  obtain ⟨h0, h1, h2, h3, h4, h5⟩ := h
  exact ⟨h0, h1, h2, h3, va_K.moved (u := U) (U := U.calling g mk a) (Vm.Alike.refl U.vm) h4, s_E.moved (u := U) (U := U.calling g mk a) (State.WarmedH.refl U) h5⟩
/-- ends without a change -/
def s_Qp (v : Option Value) : Array Value → State → Outcome → State → Prop := fun _ st o t => o = .returned v ∧ t.heap = st.heap
def s_Cx (α : Nat → Nat) (D : va_G) (κ : Nat → ClassId) (p : Program) (s : State) (m : MethodId) (args : Array Value) (meth : Method) (c : Code) (cc : ByteArray) (own : String) (nL : Nat) (A : Nat → Prop) : Prop :=
  p.tables.exec = Jvm.exec ∧ c.code = cc ∧ c.maxLocals = nL ∧ s.vm.findClass own = some m.cls ∧ (∀ w ∈ q_W, w.before args s = true) ∧ va_K D vwCl (q_tys κ) s ∧ s_E α A s s.heap ∧ (∀ q : Nat, s.heap.size ≤ q → A q) ∧ meth.locks = false
section q28
variable {α : Nat → Nat} {D : va_G} {κ : Nat → ClassId} {p : Program} {l : Launch} {e : Env} {R : Room} {s : State} {m : MethodId} {args : Array Value} {below : List Frame} {meth : Method} {c : Code} {cc : ByteArray} {own : String} {nL : Nat} {A : Nat → Prop} {Q : State → Prop} {n1 n2 : Nat}
theorem s_enter (own : String) {y : MethodName} {ret : Option FieldType} {rm : Room} {vs : List Value} {ws : va_W} {sz : Nat} {s₁ : State} (ho : y.cls = own) (hlen : (lg_sl vs).length ≤ nL) (B : BodyLoose p l y (headSpec (Cond.code y cc nL ret :: q_W) rm) cc nL ret e s m args below meth c s₁) (hml : c.maxLocals = nL) (hv : s_Pc α D κ vs ws sz args s) :
    s_Cx α D κ p s m args meth c cc own nL (va_A ws s.heap.size) ∧ meth.sig.returnType = ret ∧ (∃ ls : Array Slot, entryFrame m args nL = F0 m 0 ls [] ∧ lv_has ls nL (lv_args 0 vs)) ∧ va_P D vwCl ws s.heap ∧ va_D (va_A ws s.heap.size) ws ∧ va_S (va_A ws s.heap.size) s.heap s.heap [] := by
  obtain ⟨rfl, hsz, hP, hD, hK, hE⟩ := hv
  subst hsz
  have hts := atoms_spec (ws := Cond.code y cc nL ret :: q_W) B.pre
  have hown : s.vm.findClass own = some m.cls := ho ▸ findClass_of_methodNamed B.named
  refine ⟨⟨B.exec, B.bytes, hml, hown, fun w h => hts w (List.mem_cons_of_mem _ h), hK, hE, fun q h => Or.inr h, B.notSynchronized⟩, B.returns, ⟨_, ?_, lv_entry vs hlen⟩, hP, hD, va_S.rf⟩
  rw [lg_entry_eq]
theorem s_pre (C : s_Cx α D κ p s m args meth c cc own nL A) {ws wc : va_W} {H : Heap} {locs : List Loc} {vs : List Value} (hP : va_P D vwCl ws H) (hD : va_D A ws) (hS : va_S A s.heap H locs) (isC : List Nat) (hC : isC.map (fun i => ws[i]?) = wc.map some) (hC2 : isC.filterMap (fun i => ws[i]?) = wc) (hn : va_nd isC = true) : ∀ U : State, U.heap = H → s.WarmedH U.vm → s_Pc α D κ vs wc H.size vs.toArray U := by
  obtain ⟨hx, hb, hml, hown, hts, hK, hE, hA, hlk⟩ := C
  intro U hU hW
  refine ⟨rfl, by rw [hU], by rw [hU]; exact hP.sub isC hC2, (hD.sub isC hn hC).self, va_K.moved hW.alike hK, ?_⟩
  rw [hU]
  exact (hE.moved hW |>.kept hS.2.1).narrow (va_free hD hS hA isC hC)
theorem s_free (C : s_Cx α D κ p s m args meth c cc own nL A) {ws wc : va_W} {H : Heap} {locs : List Loc} (hD : va_D A ws) (hS : va_S A s.heap H locs) (isC : List Nat) (hC : isC.map (fun i => ws[i]?) = wc.map some) : ∀ q, va_A wc H.size q → A q := va_free hD hS C.2.2.2.2.2.2.2.1 isC hC
variable {x y : MethodName} {bytes : ByteArray} {maxL n idx : Nat} {ret : Option FieldType} {fr lo mc ms : Nat} {Qc : Array Value → State → Outcome → State → Prop} {As rest st : List Value} {ws wc : va_W} {H : Heap} {locs : List Loc} {ls : Array Slot} {lv : List (Nat × Value)} {pc : Nat}
theorem s_runS (C : s_Cx α D κ p s m args meth c cc own nL A) (w1 : Cond.methodLink own idx y ∈ q_W) (w2 : Cond.static y ∈ q_W) (w3 : Cond.initialized y.cls ∈ q_W) (w4 : Cond.code y bytes maxL ret ∈ q_W) (hd : (y.cls ≠ "java/lang/invoke/MethodHandle" ∧ y.cls ≠ "java/lang/invoke/VarHandle") ∧ (parseMethodDescriptor y.desc).map (fun d => d.parameters.length) = some n)
    (hM : Met l y (Cond.code y bytes maxL ret :: q_W) ({ frames := fr, cells := mc, slots := ms, locals := lo } : Room) (s_Pc α D κ As wc H.size) Qc mc ms (va_A wc H.size)) (hP : va_P D vwCl ws H) (hD : va_D A ws) (hS : va_S A s.heap H locs) (isC : List Nat) (hC : isC.map (fun i => ws[i]?) = wc.map some) (hC2 : isC.filterMap (fun i => ws[i]?) = wc) (hn : va_nd isC = true)
    (hst : st = As.reverse ++ rest) (hdg : decode cc pc = .ok (.invokestatic idx, 3)) (hl : lv_has ls nL lv) (hlen : As.length = n) (hrest : (rest.map fun v => v.category).sum ≤ 8) (hR : fr + 1 ≤ R.frames ∧ 8 + (maxL + 11) + lo ≤ R.locals) (hcs : n1 + mc ≤ R.cells ∧ n2 + ms ≤ R.slots) :
    va_Run p l e R s m args below meth c H locs n1 n2 mc ms (F0 m pc ls st) rest (Qc As.toArray) (va_A wc H.size) := by
  have C0 := C
  obtain ⟨hx, hb, hml, hown, hts, hK, hE, hA, hlk⟩ := C
  have hG2 : GoodIn q_W (va_wsS own idx y (Cond.code y bytes maxL ret :: q_W)) := by
    have g := q_GI w4
    intro w hw
    unfold va_wsS at hw
    rcases List.mem_append.mp hw with h | h
    · have hw' : w ∈ q_W := by
        simp only [List.mem_cons, List.not_mem_nil, or_false] at h
        rcases h with rfl | rfl | rfl
        · exact w1
        · exact w2
        · exact w3
      exact ⟨hw', good_of_word (List.mem_filter.mp hw').2⟩
    · exact g w h
  exact va_runS (n := n) ⟨hx, hb, hml, hown, hts⟩ hM (va_cwS n hts hG2 rfl rfl rfl ⟨hd.1.1, hd.1.2, hd.2⟩ hR) ⟨s_FB, s_pre C0 hP hD hS isC hC hC2 hn⟩ rfl hlen hl.1 hst (lv_room hrest) hdg hcs
theorem s_runU (C : s_Cx α D κ p s m args meth c cc own nL A) {owner : String} (w1 : Cond.methodLink own idx x ∈ q_W) (w2 : Cond.sameMethod x.cls owner x.name x.desc ∈ q_W) (w3 : Cond.selects "java/lang/StringBuilder" x y ∈ q_W) (w4 : Cond.instanceMethod y ∈ q_W) (w5 : Cond.initialized y.cls ∈ q_W) (w6 : Cond.code y bytes maxL ret ∈ q_W) (hyx : y = ⟨owner, x.name, x.desc⟩) (hd : owner ≠ "java/lang/invoke/MethodHandle" ∧ owner ≠ "java/lang/invoke/VarHandle" ∧ (parseMethodDescriptor x.desc).map (fun d => d.parameters.length) = some n)
    {b : Nat} {fs : List Value} (hM : Met l y (Cond.code y bytes maxL ret :: q_W) ({ frames := fr, cells := mc, slots := ms, locals := lo } : Room) (s_Pc α D κ (.ref b :: As) wc H.size) Qc mc ms (va_A wc H.size)) (hP : va_P D vwCl ws H) (hD : va_D A ws) (hS : va_S A s.heap H locs) (isC : List Nat) (hC : isC.map (fun i => ws[i]?) = wc.map some) (hC2 : isC.filterMap (fun i => ws[i]?) = wc) (hn : va_nd isC = true) (q0 : Nat) (hq : ws[q0]? = some (b, .inr (1, fs)))
    (hst : st = As.reverse ++ .ref b :: rest) (hlen : As.length = n) (hdg : decode cc pc = .ok (.invokevirtual idx, 3)) (hl : lv_has ls nL lv) (_hr : As.length = n) (hrest : (rest.map fun v => v.category).sum ≤ 8) (hR : fr + 1 ≤ R.frames ∧ 8 + (maxL + 11) + lo ≤ R.locals) (hcs : n1 + mc ≤ R.cells ∧ n2 + ms ≤ R.slots) :
    va_Run p l e R s m args below meth c H locs n1 n2 mc ms (F0 m pc ls st) rest (Qc (Value.ref b :: As).toArray) (va_A wc H.size) := by
  have C0 := C
  obtain ⟨hx, hb, hml, hown, hts, hK, hE, hA, hlk⟩ := C
  have hG2 : GoodIn q_W (va_wsU own idx "java/lang/StringBuilder" owner x y (Cond.code y bytes maxL ret :: q_W)) := by
    have g := q_GI w6
    intro w hw
    unfold va_wsU at hw
    rcases List.mem_append.mp hw with h | h
    · have hw' : w ∈ q_W := by
        simp only [List.mem_cons, List.not_mem_nil, or_false] at h
        rcases h with rfl | rfl | rfl | rfl | rfl
        · exact w1
        · exact w2
        · exact w3
        · exact w4
        · exact w5
      exact ⟨hw', good_of_word (List.mem_filter.mp hw').2⟩
    · exact g w h
  have hrecv := va_recv hK hP (show vwCl[1]? = some (RJ4, TJ4, 4) from rfl) hq
  exact va_runU (n := n) ⟨hx, hb, hml, hown, hts⟩ hM (va_cwU n hts hG2 rfl rfl rfl hyx hd hR) ⟨s_FB, hrecv, s_pre C0 hP hD hS isC hC hC2 hn⟩ rfl hlen hl.1 hst (lv_room hrest) hdg hcs
theorem s_runSU (C : s_Cx α D κ p s m args meth c cc own nL A) (w1 : Cond.methodLink own idx y ∈ q_W) (w2 : Cond.sameMethod y.cls y.cls y.name y.desc ∈ q_W) (w3 : Cond.superclass own y.cls ∈ q_W) (w4 : Cond.instanceMethod y ∈ q_W) (w5 : Cond.initialized y.cls ∈ q_W) (w6 : Cond.code y bytes maxL ret ∈ q_W) (hd : y.name ≠ "<init>" ∧ (parseMethodDescriptor y.desc).map (fun d => d.parameters.length) = some n)
    {b : Nat} {fs : List Value} (hM : Met l y (Cond.code y bytes maxL ret :: q_W) ({ frames := fr, cells := mc, slots := ms, locals := lo } : Room) (s_Pc α D κ (.ref b :: As) wc H.size) Qc mc ms (va_A wc H.size)) (hP : va_P D vwCl ws H) (hD : va_D A ws) (hS : va_S A s.heap H locs) (isC : List Nat) (hC : isC.map (fun i => ws[i]?) = wc.map some) (hC2 : isC.filterMap (fun i => ws[i]?) = wc) (hn : va_nd isC = true) (q0 : Nat) (hq : ws[q0]? = some (b, .inr (1, fs)))
    (hst : st = As.reverse ++ .ref b :: rest) (hlen : As.length = n) (hdg : decode cc pc = .ok (.invokespecial idx, 3)) (hl : lv_has ls nL lv) (_hr : As.length = n) (hrest : (rest.map fun v => v.category).sum ≤ 8) (hR : fr + 1 ≤ R.frames ∧ 8 + (maxL + 11) + lo ≤ R.locals) (hcs : n1 + mc ≤ R.cells ∧ n2 + ms ≤ R.slots) :
    va_Run p l e R s m args below meth c H locs n1 n2 mc ms (F0 m pc ls st) rest (Qc (Value.ref b :: As).toArray) (va_A wc H.size) := by
  have C0 := C
  obtain ⟨hx, hb, hml, hown, hts, hK, hE, hA, hlk⟩ := C
  have hG2 : GoodIn q_W (va_wsSU own idx y (Cond.code y bytes maxL ret :: q_W)) := by
    have g := q_GI w6
    intro w hw
    unfold va_wsSU at hw
    rcases List.mem_append.mp hw with h | h
    · have hw' : w ∈ q_W := by
        simp only [List.mem_cons, List.not_mem_nil, or_false] at h
        rcases h with rfl | rfl | rfl | rfl | rfl
        · exact w1
        · exact w2
        · exact w3
        · exact w4
        · exact w5
      exact ⟨hw', good_of_word (List.mem_filter.mp hw').2⟩
    · exact g w h
  have hrecv := va_recv hK hP (show vwCl[1]? = some (RJ4, TJ4, 4) from rfl) hq
  exact va_runSU (n := n) (hK.1 1 _ rfl).2 ⟨hx, hb, hml, hown, hts⟩ hM (va_cwSU n hts hG2 rfl rfl rfl hd hR) ⟨s_FB, hrecv, s_pre C0 hP hD hS isC hC hC2 hn⟩ rfl hlen hl.1 hst (lv_room hrest) hdg hcs
/-- behind a call that changes nothing -/
theorem s_callp {v : Option Value} {a : Array Value} {st0 : List Value} {free : Addr → Prop} (hr : va_Run p l e R s m args below meth c H locs n1 n2 mc ms (F0 m pc ls st0) rest (s_Qp v a) free) (hS : va_S A s.heap H locs) (hf : ∀ q, free q → A q) (kk : ∀ locs1 : List Loc, va_S A s.heap H locs1 → W p l e R s m args below meth c H locs1 (n1 + mc) (n2 + ms) Q (F0 m (pc + 3) ls (v.toList ++ rest))) : W p l e R s m args below meth c H locs n1 n2 Q (F0 m pc ls st0) := by
  intro T hT X
  obtain ⟨v9, st₀, t, T', L, h0, X', hL, e1, e2, ⟨hv, hh⟩, st⟩ := hr T hT X
  cases hv
  have hS1 : va_S A s.heap H (locs ++ L) := ⟨hS.1, hS.2.1, fun z hz => (List.mem_append.mp hz).elim (hS.2.2 z) (fun h => hf _ (hL z h))⟩
  obtain ⟨t2, a1, b1⟩ := kk (locs ++ L) hS1 T' (by rw [e1, hh, h0]) X'
  exact ⟨t2, st t2 a1, b1⟩
/-- the array class of a type is one -/
theorem s_byte {cA : ClassId} (hK : va_K D vwCl (q_tys κ) s) (hK2 : va_K D vwCl (q_tys κ ++ [(cA, .byte)]) s) : cA = κ 1 := by
  have h1 := (hK.2 1 _ rfl).2
  have h2 := (hK2.2 4 (cA, .byte) rfl).2
  exact Option.some.inj (h2.symm.trans h1)
end q28
