/-! Contracts: a method, called with these values in this memory, ends so and leaves that memory. -/
abbrev q_O : Type := Option Value ⊕ String
abbrev q_oi (x : Int32) : q_O := .inl (some (.int x))
abbrev q_ov : q_O := .inl none
abbrev q_or (k : Nat) : q_O := .inl (some (.ref k))
abbrev q_on : q_O := .inl (some .null)
abbrev q_oe (x : Int32) : q_O := .inl (some (q_e x))
abbrev q_ox (E : String) : q_O := .inr E
def q_A (α : Nat → Nat) (Y : q_H) (sz : Nat) : Nat → Prop := fun q => (∃ k, k < q_N α ∧ q_ad α Y k = q) ∨ sz ≤ q
/-- the memory σ stands in the state t -/
def q_WP (α β : Nat → Nat) (D : va_G) (κ : Nat → ClassId) (A : Nat → Prop) (σ : q_M) (t : State) : Prop := ∃ Y, q_Yok σ Y ∧ va_P D vwCl (q_ws α β κ Y σ) t.heap ∧ va_D A (q_ws α β κ Y σ)
def q_Qc (α β : Nat → Nat) (D : va_G) (κ : Nat → ClassId) (A : Nat → Prop) (o : q_O) (σ : q_M) : Array Value → State → Outcome → State → Prop := fun _ st oc t => (∃ v : Option Value, o = .inl v ∧ oc = .returned (v.map (q_cv α β))) ∧ q_WP α β D κ A σ t ∧ va_F A st t
def q_XC (α β : Nat → Nat) (D : va_G) (κ : Nat → ClassId) (A : Nat → Prop) (o : q_O) (σ : q_M) : String → State → State → Prop := fun E st t => o = .inr E ∧ q_WP α β D κ A σ t ∧ va_F A st t
def q_Pc (α β : Nat → Nat) (D : va_G) (κ : Nat → ClassId) (vs : List Value) (σ : q_M) (Y : q_H) (sz : Nat) : Array Value → State → Prop := va_Pc (vs.map (q_cv α β)) (fun U => U.heap.size = sz ∧ q_Yok σ Y ∧ va_P D vwCl (q_ws α β κ Y σ) U.heap ∧ va_D (q_A α Y sz) (q_ws α β κ Y σ) ∧ va_K D vwCl (q_tys κ) U ∧ q_EF α β (q_A α Y sz) U U.heap)
/-- THE CONTRACT -/
def q_C (α β : Nat → Nat) (D : va_G) (κ : Nat → ClassId) (y : MethodName) (cc : ByteArray) (maxL : Nat) (ret : Option FieldType) (fr lo mc ms : Nat) (vs : List Value) (σ : q_M) (o : q_O) (σ' : q_M) : Prop :=
  ∀ l : Launch, l.flags = flags0 → ∀ (Y : q_H) (sz : Nat), vx_Met l y (Cond.code y cc maxL ret :: q_W) ({ frames := fr, cells := mc, slots := ms, locals := lo } : Room) (q_Pc α β D κ vs σ Y sz) (q_Qc α β D κ (q_A α Y sz) o σ') (q_XC α β D κ (q_A α Y sz) o σ') mc ms (q_A α Y sz)
theorem q_args_map (α β : Nat → Nat) : ∀ (vs : List Value) (i : Nat), lv_args i (vs.map (q_cv α β)) = q_lm α β (lv_args i vs) := by
  intro vs
  induction vs with
  | nil => intro i; rfl
  | cons v vs ih =>
    intro i
    show (i, q_cv α β v) :: lv_args (if (q_cv α β v).category = 2 then i + 2 else i + 1) (vs.map (q_cv α β)) = _
    rw [q_cat, ih]
    rfl
theorem q_nt {l : Launch} (h : l.flags = flags0) : l.stackTraces = false := by
  unfold Launch.stackTraces
  rw [h]
  decide +kernel
section q09
variable {α β : Nat → Nat} {D : va_G} {κ : Nat → ClassId} {p : Program} {l : Launch} {e : Env} {R : Room} {s : State} {m : MethodId} {args : Array Value} {below : List Frame} {meth : Method} {c : Code} {cc : ByteArray} {own : String} {F : Nat → Option (Nat × Nat)} {G : Nat → Option Int32} {nL : Nat} {A : Nat → Prop} {Q : State → Prop} {n1 n2 : Nat}
variable {y : MethodName} {ret : Option FieldType} {fr lo mc ms : Nat} {vs : List Value} {σ σ' : q_M} {o : q_O}
/-- a contract out of a walk from the entry -/
theorem q_enter (hy : plainName y.cls = true) (ho : y.cls = own) (hF : q_Fok own F) (hG : q_Gok own G) (hlen : (lg_sl (vs.map (q_cv α β))).length ≤ nL)
    (body : ∀ (p : Program) (l : Launch) (e : Env) (s : State) (m : MethodId) (args : Array Value) (below : List Frame) (meth : Method) (c : Code) (A : Nat → Prop), l.flags = flags0 → q_Cx α β D κ p s m args meth c cc own F G nL A → meth.sig.returnType = ret → (∀ x ∈ c.exceptionTable.toList, False) →
      q_St α β D κ p l e ({ frames := fr, cells := mc, slots := ms, locals := lo } : Room) s m args below meth c nL A (vx_MQ below (q_Qc α β D κ A o σ') (q_XC α β D κ A o σ') args s mc ms A) 0 0 σ (lv_args 0 vs) 0 []) :
    q_C α β D κ y cc nL ret fr lo mc ms vs σ o σ' := by
  intro l hfl Y sz
  refine vx_ofW (cc := cc) (maxL := nL) (ret := ret) hy rfl ?_
  intro p e s m args below meth c s₁ B hml hT hv
  obtain ⟨rfl, hsz, hY, hP, hD, hK, hE⟩ := hv
  subst hsz
  have hts := atoms_spec (ws := Cond.code y cc nL ret :: q_W) B.pre
  have hown : s.vm.findClass own = some m.cls := ho ▸ findClass_of_methodNamed B.named
  have hl := lv_entry (vs.map (q_cv α β)) (n := nL) hlen
  rw [lg_entry_eq]
  generalize (lg_sl (vs.map (q_cv α β)) ++ List.replicate (nL - (lg_sl (vs.map (q_cv α β))).length) Slot.unset).toArray = ls at hl ⊢
  rw [q_args_map] at hl
  exact body p l e s m _ below meth c (q_A α Y s.heap.size) hfl ⟨B.exec, B.bytes, hml, hown, fun w h => hts w (List.mem_cons_of_mem _ h), hK, hE, fun q h => Or.inr h, B.notSynchronized, hF, hG⟩ B.returns hT Y s.heap [] ls hY hP hD va_S.rf hl
theorem q_iret (C : q_Cx α β D κ p s m args meth c cc own F G nL A) (hr : meth.sig.returnType = some .int) {pc : Nat} {lv : q_Lv} {σ1 : q_M} {v : Int32} (hd : decode cc pc = .ok (.ireturn, 1)) (hσ : σ1 = σ') (ho : o = q_oi v) (hc : n1 ≤ mc) (hs : n2 ≤ ms) : q_St α β D κ p l e R s m args below meth c nL A (vx_MQ below (q_Qc α β D κ A o σ') (q_XC α β D κ A o σ') args s mc ms A) n1 n2 σ1 lv pc [.int v] := by
  subst hσ
  obtain ⟨hx, hb, hml, hown, hts, hK, hE, hA, hlk, hF, hG⟩ := C
  intro Y H locs ls hY hP hD hS hl
  refine vx_ret (W.widen hc hs ?_)
  exact W.iret (v := v) hx hb hr (fun t ht hW => ⟨⟨some (.int v), ho, rfl⟩, ⟨Y, hY, by rw [ht]; exact hP, hD⟩, hS.F ht⟩) hS.2.2 hd hlk
theorem q_zret (C : q_Cx α β D κ p s m args meth c cc own F G nL A) {ty : FieldType} (hr : meth.sig.returnType = some ty) {pc : Nat} {lv : q_Lv} {σ1 : q_M} {v : Int32} (hd : decode cc pc = .ok (.ireturn, 1)) (hn : narrow ty (.int v) = .int v) (hσ : σ1 = σ') (ho : o = q_oi v) (hc : n1 ≤ mc) (hs : n2 ≤ ms) : q_St α β D κ p l e R s m args below meth c nL A (vx_MQ below (q_Qc α β D κ A o σ') (q_XC α β D κ A o σ') args s mc ms A) n1 n2 σ1 lv pc [.int v] := by
  subst hσ
  obtain ⟨hx, hb, hml, hown, hts, hK, hE, hA, hlk, hF, hG⟩ := C
  intro Y H locs ls hY hP hD hS hl
  refine vx_ret (W.widen hc hs ?_)
  exact W.zret (v := v) hx hb hr hn (fun t ht hW => ⟨⟨some (.int v), ho, rfl⟩, ⟨Y, hY, by rw [ht]; exact hP, hD⟩, hS.F ht⟩) hS.2.2 hd hlk
theorem q_vret (C : q_Cx α β D κ p s m args meth c cc own F G nL A) (hr : meth.sig.returnType = none) {pc : Nat} {lv : q_Lv} {σ1 : q_M} (hd : decode cc pc = .ok (.return_, 1)) (hσ : σ1 = σ') (ho : o = q_ov) (hc : n1 ≤ mc) (hs : n2 ≤ ms) : q_St α β D κ p l e R s m args below meth c nL A (vx_MQ below (q_Qc α β D κ A o σ') (q_XC α β D κ A o σ') args s mc ms A) n1 n2 σ1 lv pc [] := by
  subst hσ
  obtain ⟨hx, hb, hml, hown, hts, hK, hE, hA, hlk, hF, hG⟩ := C
  intro Y H locs ls hY hP hD hS hl
  refine vx_ret (W.widen hc hs ?_)
  exact W.vret hx hb hr (fun t ht hW => ⟨⟨none, ho, rfl⟩, ⟨Y, hY, by rw [ht]; exact hP, hD⟩, hS.F ht⟩) hS.2.2 hd hlk
theorem q_dret (C : q_Cx α β D κ p s m args meth c cc own F G nL A) (hr : meth.sig.returnType = some .double) {pc : Nat} {lv : q_Lv} {σ1 : q_M} {v : UInt64} (hd : decode cc pc = .ok (.dreturn, 1)) (hσ : σ1 = σ') (ho : o = .inl (some (.double v))) (hc : n1 ≤ mc) (hs : n2 ≤ ms) : q_St α β D κ p l e R s m args below meth c nL A (vx_MQ below (q_Qc α β D κ A o σ') (q_XC α β D κ A o σ') args s mc ms A) n1 n2 σ1 lv pc [.double v] := by
  subst hσ
  obtain ⟨hx, hb, hml, hown, hts, hK, hE, hA, hlk, hF, hG⟩ := C
  intro Y H locs ls hY hP hD hS hl
  refine vx_ret (W.widen hc hs ?_)
  exact W.dret (v := v) hx hb hr (fun t ht hW => ⟨⟨some (.double v), ho, rfl⟩, ⟨Y, hY, by rw [ht]; exact hP, hD⟩, hS.F ht⟩) hS.2.2 hd hlk
theorem q_aret (C : q_Cx α β D κ p s m args meth c cc own F G nL A) {n : String} (hr : meth.sig.returnType = some (.object n)) {pc : Nat} {lv : q_Lv} {σ1 : q_M} {v : Value} (hd : decode cc pc = .ok (.areturn, 1)) (hv : q_cv α β v = .null ∨ ∃ a, q_cv α β v = .ref a) (hσ : σ1 = σ') (ho : o = .inl (some v)) (hc : n1 ≤ mc) (hs : n2 ≤ ms) : q_St α β D κ p l e R s m args below meth c nL A (vx_MQ below (q_Qc α β D κ A o σ') (q_XC α β D κ A o σ') args s mc ms A) n1 n2 σ1 lv pc [v] := by
  subst hσ
  obtain ⟨hx, hb, hml, hown, hts, hK, hE, hA, hlk, hF, hG⟩ := C
  intro Y H locs ls hY hP hD hS hl
  refine vx_ret (W.widen hc hs ?_)
  exact W.aret (v := q_cv α β v) hx hb hr (Or.inl ⟨n, rfl⟩) hv (fun t ht hW => ⟨⟨some v, ho, rfl⟩, ⟨Y, hY, by rw [ht]; exact hP, hD⟩, hS.F ht⟩) hS.2.2 hd hlk
theorem q_dc {nL : Nat} {tb : List q_E} (h : q_tb cc nL tb = true) (i : Nat) {z : q_E} (hz : tb[i]? = some z) : decode cc z.1 = .ok (z.2.1, z.2.2.1) := (q_tb_at h (List.mem_of_getElem? hz)).1
theorem q_rref {k : Nat} : q_cv α β (.ref k) = .null ∨ ∃ a, q_cv α β (.ref k) = .ref a := Or.inr ⟨_, rfl⟩
theorem q_renm {x : Int32} : q_cv α β (q_e x) = .null ∨ ∃ a, q_cv α β (q_e x) = .ref a := Or.inr ⟨_, rfl⟩
theorem q_rnul : q_cv α β .null = .null ∨ ∃ a, q_cv α β .null = .ref a := Or.inl rfl
end q09
