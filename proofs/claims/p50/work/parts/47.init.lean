/-! The constructors. -/
def c_E (α β : Nat → Nat) (A : Nat → Prop) (U : State) (H : Heap) : Prop := q_EF α β A U H ∧ va_AO RX6 U ∧ va_AO RX4 U
theorem c_E.mv {α β : Nat → Nat} {A : Nat → Prop} {u U : State} {H : Heap} (hW : u.WarmedH U.vm) (h : c_E α β A u H) : c_E α β A U H := ⟨h.1.mv hW, h.2.1.moved hW.alike, h.2.2.moved hW.alike⟩
theorem c_E.kp {α β : Nat → Nat} {A : Nat → Prop} {U : State} {H H1 : Heap} (hq : ∀ a : Nat, a < H.size → ¬ A a → H1[a]? = H[a]?) (h : c_E α β A U H) : c_E α β A U H1 := ⟨h.1.kp hq, h.2⟩
theorem c_E.nr {α β : Nat → Nat} {A B : Nat → Prop} {U : State} {H : Heap} (hAB : ∀ q, B q → A q) (h : c_E α β A U H) : c_E α β B U H := ⟨h.1.nr hAB, h.2⟩
abbrev c_Pc (α β : Nat → Nat) (D : va_G) (κ : Nat → ClassId) (vs : List Value) (ws : va_W) (sz : Nat) : Array Value → State → Prop := va_Pc vs (fun U => U.heap.size = sz ∧ va_P D vwCl ws U.heap ∧ va_D (va_A ws sz) ws ∧ va_K D vwCl (q_tys κ) U ∧ c_E α β (va_A ws sz) U U.heap)
theorem c_FB {α β : Nat → Nat} {D : va_G} {κ : Nat → ClassId} {vs : List Value} {ws : va_W} {sz : Nat} : FrameBlind (c_Pc α β D κ vs ws sz) := by
  intro a U g mk h
  obtain ⟨h0, h1, h2, h3, h4, h5⟩ := h
  exact ⟨h0, h1, h2, h3, va_K.moved (u := U) (U := U.calling g mk a) (Vm.Alike.refl U.vm) h4, c_E.mv (u := U) (U := U.calling g mk a) (State.WarmedH.refl U) h5⟩
def c_Cx (α β : Nat → Nat) (D : va_G) (κ : Nat → ClassId) (p : Program) (s : State) (m : MethodId) (args : Array Value) (meth : Method) (c : Code) (cc : ByteArray) (own : String) (nL : Nat) (A : Nat → Prop) : Prop :=
  p.tables.exec = Jvm.exec ∧ c.code = cc ∧ c.maxLocals = nL ∧ s.vm.findClass own = some m.cls ∧ (∀ w ∈ q_W, w.before args s = true) ∧ va_K D vwCl (q_tys κ) s ∧ c_E α β A s s.heap ∧ (∀ q : Nat, s.heap.size ≤ q → A q) ∧ meth.locks = false
section q47
variable {α β : Nat → Nat} {D : va_G} {κ : Nat → ClassId} {p : Program} {l : Launch} {e : Env} {R : Room} {s : State} {m : MethodId} {args : Array Value} {below : List Frame} {meth : Method} {c : Code} {cc : ByteArray} {own : String} {nL : Nat} {A : Nat → Prop} {Q : State → Prop} {n1 n2 : Nat}
theorem c_enter (own : String) {y : MethodName} {ret : Option FieldType} {rm : Room} {vs : List Value} {ws : va_W} {sz : Nat} {s₁ : State} (ho : y.cls = own) (hlen : (lg_sl vs).length ≤ nL) (B : BodyLoose p l y (headSpec (Cond.code y cc nL ret :: q_W) rm) cc nL ret e s m args below meth c s₁) (hml : c.maxLocals = nL) (hv : c_Pc α β D κ vs ws sz args s) :
    c_Cx α β D κ p s m args meth c cc own nL (va_A ws s.heap.size) ∧ meth.sig.returnType = ret ∧ (∃ ls : Array Slot, entryFrame m args nL = F0 m 0 ls [] ∧ lv_has ls nL (lv_args 0 vs)) ∧ va_P D vwCl ws s.heap ∧ va_D (va_A ws s.heap.size) ws ∧ va_S (va_A ws s.heap.size) s.heap s.heap [] := by
  obtain ⟨rfl, hsz, hP, hD, hK, hE⟩ := hv
  subst hsz
  have hts := atoms_spec (ws := Cond.code y cc nL ret :: q_W) B.pre
  have hown : s.vm.findClass own = some m.cls := ho ▸ findClass_of_methodNamed B.named
  refine ⟨⟨B.exec, B.bytes, hml, hown, fun w h => hts w (List.mem_cons_of_mem _ h), hK, hE, fun q h => Or.inr h, B.notSynchronized⟩, B.returns, ⟨_, ?_, lv_entry vs hlen⟩, hP, hD, va_S.rf⟩
  rw [lg_entry_eq]
/-- a world in two pieces -/
theorem c_Pl {w1 w2 : va_W} {H : Heap} (h : va_P D vwCl (w1 ++ w2) H) : va_P D vwCl w1 H := fun k q hk => h k q (by rw [List.getElem?_append_left (List.getElem?_eq_some_iff.mp hk).1]; exact hk)
theorem c_Pr {w1 w2 : va_W} {H : Heap} (h : va_P D vwCl (w1 ++ w2) H) : va_P D vwCl w2 H := fun k q hk => h (w1.length + k) q (by rw [List.getElem?_append_right (by omega), Nat.add_sub_cancel_left]; exact hk)
theorem c_Dl {w1 w2 : va_W} (h : va_D A (w1 ++ w2)) : va_D A w1 := ⟨fun i j p q hi hj => h.1 i j p q (by rw [List.getElem?_append_left (List.getElem?_eq_some_iff.mp hi).1]; exact hi) (by rw [List.getElem?_append_left (List.getElem?_eq_some_iff.mp hj).1]; exact hj), fun k q hk => h.2 k q (by rw [List.getElem?_append_left (List.getElem?_eq_some_iff.mp hk).1]; exact hk)⟩
theorem c_Dr {w1 w2 : va_W} (h : va_D A (w1 ++ w2)) : va_D A w2 := by
  have key : ∀ (k : Nat) (q : Nat × va_E), w2[k]? = some q → (w1 ++ w2)[w1.length + k]? = some q := fun k q hk => by rw [List.getElem?_append_right (by omega), Nat.add_sub_cancel_left]; exact hk
  refine ⟨fun i j p q hi hj hpq => ?_, fun k q hk => h.2 _ q (key k q hk)⟩
  have := h.1 _ _ p q (key i p hi) (key j q hj) hpq
  omega
theorem c_pre (C : c_Cx α β D κ p s m args meth c cc own nL A) {w1 wc : va_W} {H : Heap} {locs : List Loc} {vs : List Value} (hP : va_P D vwCl (w1 ++ wc) H) (hD : va_D A (w1 ++ wc)) (hS : va_S A s.heap H locs) : ∀ U : State, U.heap = H → s.WarmedH U.vm → c_Pc α β D κ vs wc H.size vs.toArray U := by
  obtain ⟨hx, hb, hml, hown, hts, hK, hE, hA, hlk⟩ := C
  intro U hU hW
  refine ⟨rfl, by rw [hU], by rw [hU]; exact c_Pr hP, (c_Dr hD).self, va_K.moved hW.alike hK, ?_⟩
  rw [hU]
  refine ((hE.mv hW).kp hS.2.1).nr (fun q hq => ?_)
  rcases hq with ⟨k, e9, hk⟩ | hq
  · exact (c_Dr hD).2 k _ hk
  · exact hA q (Nat.le_trans hS.1 hq)
theorem c_free (C : c_Cx α β D κ p s m args meth c cc own nL A) {w1 wc : va_W} {H : Heap} {locs : List Loc} (hD : va_D A (w1 ++ wc)) (hS : va_S A s.heap H locs) : ∀ q, va_A wc H.size q → A q := by
  rintro q (⟨k, e9, hk⟩ | hq)
  · exact (c_Dr hD).2 k _ hk
  · exact C.2.2.2.2.2.2.2.1 q (Nat.le_trans hS.1 hq)
theorem c_join {w1 wc w2 : va_W} {H H1 : Heap} (hP : va_P D vwCl (w1 ++ wc) H) (hD : va_D A (w1 ++ wc)) (hk : ∀ q : Nat, q < H.size → ¬ va_A wc H.size q → H1[q]? = H[q]?) (hF : ∀ q, va_A wc H.size q → A q) (hP1 : va_P D vwCl w2 H1) (hD1 : va_D (va_A wc H.size) w2) : va_P D vwCl (w1 ++ w2) H1 ∧ va_D A (w1 ++ w2) := by
  have out : ∀ (k : Nat) (q : Nat × va_E), w1[k]? = some q → q.1 < H.size ∧ ¬ va_A wc H.size q.1 := by
    intro k q hq
    have hq2 : (w1 ++ wc)[k]? = some q := by rw [List.getElem?_append_left (List.getElem?_eq_some_iff.mp hq).1]; exact hq
    have hl := vx_lt hP hq2
    refine ⟨hl, ?_⟩
    rintro (⟨j, e9, hj⟩ | hj)
    · have hj2 : (w1 ++ wc)[w1.length + j]? = some (q.1, e9) := by rw [List.getElem?_append_right (by omega), Nat.add_sub_cancel_left]; exact hj
      have := hD.1 _ _ _ _ hq2 hj2 rfl
      have := (List.getElem?_eq_some_iff.mp hq).1
      omega
    · omega
  refine ⟨va_P.app ((c_Pl hP).kept (fun k q hq => hk q.1 (out k q hq).1 (out k q hq).2)) hP1, va_D.app (c_Dl hD) (hD1.weaken (fun _ _ _ h => hF _ h)) (fun i j p q hi hj hpq => ?_)⟩
  exact (out i p hi).2 (hpq ▸ hD1.2 j q hj)
variable {y : MethodName} {bytes : ByteArray} {maxL n idx : Nat} {fr lo mc ms : Nat} {Qc : Array Value → State → Outcome → State → Prop} {As rest st : List Value} {w1 wc : va_W} {H : Heap} {locs : List Loc} {ls : Array Slot} {lv : List (Nat × Value)} {pc : Nat}
theorem c_runI (C : c_Cx α β D κ p s m args meth c cc own nL A) (w1' : Cond.methodLink own idx y ∈ q_W) (w2 : Cond.instanceMethod y ∈ q_W) (w3 : Cond.initialized y.cls ∈ q_W) (w4 : Cond.code y bytes maxL none ∈ q_W) (hy : y.name = "<init>") (hd : y.cls ≠ "java/lang/invoke/MethodHandle" ∧ y.cls ≠ "java/lang/invoke/VarHandle" ∧ (parseMethodDescriptor y.desc).map (fun d => d.parameters.length) = some n)
    {b : Nat} (hM : Met l y (Cond.code y bytes maxL none :: q_W) ({ frames := fr, cells := mc, slots := ms, locals := lo } : Room) (c_Pc α β D κ (.ref b :: As) wc H.size) Qc mc ms (va_A wc H.size)) (hP : va_P D vwCl (w1 ++ wc) H) (hD : va_D A (w1 ++ wc)) (hS : va_S A s.heap H locs)
    (hst : st = As.reverse ++ .ref b :: rest) (hlen : As.length = n) (hdg : decode cc pc = .ok (.invokespecial idx, 3)) (hl : lv_has ls nL lv) (hrest : (rest.map fun v => v.category).sum ≤ 8) (hR : fr + 1 ≤ R.frames ∧ 8 + (maxL + 11) + lo ≤ R.locals) (hcs : n1 + mc ≤ R.cells ∧ n2 + ms ≤ R.slots) :
    va_Run p l e R s m args below meth c H locs n1 n2 mc ms (F0 m pc ls st) rest (Qc (Value.ref b :: As).toArray) (va_A wc H.size) := by
  have C0 := C
  obtain ⟨hx, hb, hml, hown, hts, hK, hE, hA, hlk⟩ := C
  exact va_runI (n := n) ⟨hx, hb, hml, hown, hts⟩ hM (cwI n hts (q_GI w4) rfl rfl rfl (hts _ w3) (hts _ w1') (hts _ w2) hy hd hR) ⟨c_FB, c_pre C0 hP hD hS⟩ rfl hlen hl.1 hst (lv_room hrest) hdg hcs
theorem c_arr {cA cB : ClassId} {ty : FieldType} {k : Nat} (hk : (q_tys κ)[k]? = some (cB, ty)) (hK : va_K D vwCl (q_tys κ) s) (hK2 : va_K D vwCl (q_tys κ ++ [(cA, ty)]) s) : cA = cB := by
  have h1 := (hK.2 k _ hk).2
  have h2 := (hK2.2 4 (cA, ty) rfl).2
  cases ty with
  | object C =>
    obtain ⟨kA, comp, a1, a2, a3, a4⟩ := h1
    obtain ⟨kB, comp2, b1, b2, b3, b4⟩ := h2
    exact Option.some.inj (b4.symm.trans a4)
  | _ => exact Option.some.inj (h2.symm.trans h1)
theorem c_atc {cA : ClassId} {a n : Nat} {f g : Nat → Int32} {H : Heap} (hfg : ∀ j, j < n → f j = g j) (h : va_at D vwCl (a, .inl (cA, n, .inl f)) H) : va_at D vwCl (a, .inl (cA, n, .inl g)) H := by
  have e9 : vp_cell cA (n, .inl f) = vp_cell cA (n, .inl g) := by
    rw [vp_cell_i, vp_cell_i]
    unfold arrV
    have : (fun j : Fin n => Value.int (f j.val)) = (fun j : Fin n => Value.int (g j.val)) := by funext j; rw [hfg j.val j.isLt]
    rw [this]
  show H[a]? = some (vp_cell cA (n, .inl g))
  rw [← e9]
  exact h
theorem c_atq {cA : ClassId} {a n : Nat} {f g : Nat → Option Nat} {H : Heap} (hfg : ∀ j, j < n → f j = g j) (h : va_at D vwCl (a, .inl (cA, n, .inr (.inr (.inr (.inr f))))) H) : va_at D vwCl (a, .inl (cA, n, .inr (.inr (.inr (.inr g))))) H := by
  have e9 : vp_cell cA (n, .inr (.inr (.inr (.inr f)))) = vp_cell cA (n, .inr (.inr (.inr (.inr g)))) := by
    rw [vp_cell_q, vp_cell_q]
    unfold arrV
    have : (fun j : Fin n => va_rf (f j.val)) = (fun j : Fin n => va_rf (g j.val)) := by funext j; rw [hfg j.val j.isLt]
    rw [this]
  show H[a]? = some (vp_cell cA (n, .inr (.inr (.inr (.inr g)))))
  rw [← e9]
  exact h
/-- a cell written another way -/
theorem c_fix {w1 w2 : va_W} {q q2 : Nat × va_E} {H : Heap} (ha : va_at D vwCl q H → va_at D vwCl q2 H) (h : va_P D vwCl (w1 ++ q :: w2) H) : va_P D vwCl (w1 ++ q2 :: w2) H := by
  intro k z hk
  rcases Nat.lt_trichotomy k w1.length with hl | hl | hl
  · exact h k z (by rw [List.getElem?_append_left hl] at hk ⊢; exact hk)
  · subst hl
    rw [List.getElem?_append_right (Nat.le_refl _), Nat.sub_self] at hk
    cases hk
    exact ha (h w1.length q (by rw [List.getElem?_append_right (Nat.le_refl _), Nat.sub_self]; rfl))
  · obtain ⟨j, rfl⟩ : ∃ j, k = w1.length + (j + 1) := ⟨k - w1.length - 1, by omega⟩
    exact h (w1.length + (j + 1)) z (by rw [List.getElem?_append_right (by omega), Nat.add_sub_cancel_left] at hk ⊢; exact hk)
theorem c_fixD {ws ws2 : va_W} (h : va_D A ws) (hm : ws2.map (·.1) = ws.map (·.1)) : va_D A ws2 := by
  have key : ∀ (k : Nat) (q : Nat × va_E), ws2[k]? = some q → ∃ q0, ws[k]? = some q0 ∧ q0.1 = q.1 := by
    intro k q hk
    have h1 : (ws2.map (·.1))[k]? = some q.1 := by rw [List.getElem?_map, hk]; rfl
    rw [hm, List.getElem?_map] at h1
    cases hz : ws[k]? with
    | none => rw [hz] at h1; cases h1
    | some q0 => rw [hz] at h1; exact ⟨q0, rfl, Option.some.inj h1⟩
  refine ⟨fun i j p q hi hj hpq => ?_, fun k q hk => ?_⟩
  · obtain ⟨p0, a1, a2⟩ := key i p hi
    obtain ⟨q0, b1, b2⟩ := key j q hj
    exact h.1 i j p0 q0 a1 b1 (by rw [a2, b2, hpq])
  · obtain ⟨q0, b1, b2⟩ := key k q hk
    rw [← b2]
    exact h.2 k q0 b1
end q47
/-- the memory at the start -/
def q_s0 : q_M := fun k j =>
  if k < 220 then
    (if k % 20 = 0 then (if j = 3 then 1000 else 0)
     else if k % 20 = 1 then 0
     else if k % 20 % 3 = 2 then (if j = 0 then nI ((k % 20 - 2) / 3) else if j = 4 then nI ((k % 20 - 2) / 3 + 1) else 0)
     else if k % 20 % 3 = 0 then 60 else 0)
  else match k with
    | 220 => (match j with | 8 => -1 | 9 => -1 | 10 => -1 | _ => 0)
    | 223 => (match j with | 5 => 20 | _ => 0)
    | _ => 0
abbrev c_t (β : Nat → Nat) (h v b1 b2 : Nat) : Nat × va_E := (h, .inr (7, [.int (nI v), .ref b1, .ref b2, .ref (β 0), .int (nI (v + 1)), .int 0, .int 0, .int 0, .int 0, .int 0, .int 0, .int 0, .int 0, .int 0]))
abbrev c_sp (κ : Nat → ClassId) (b : Nat) : Nat × va_E := (b, .inl (κ 0, 4, .inl (fun _ => 60)))
abbrev c_z (κ : Nat → ClassId) (n b : Nat) : Nat × va_E := (b, .inl (κ 0, n, .inl (fun _ => 0)))
abbrev q_Y0 : q_H := fun _ => (0, 0, fun _ => 0, 0)
def c_rb (β : Nat → Nat) (κ : Nat → ClassId) (a : Nat → Nat) : va_W := (List.range 20).map (fun o => (a o, q_pc a β κ q_Y0 o (q_s0 o)))

set_option maxRecDepth 100000 in
theorem ji_ml_0 : Cond.methodLink RX6 3 Lib.objectInit ∈ q_W := q_t4 134 rfl rfl
set_option maxRecDepth 100000 in
theorem ji_in_1 : Cond.instanceMethod Lib.objectInit ∈ q_W := q_t1 75 rfl rfl
set_option maxRecDepth 100000 in
theorem ji_co_2 : Cond.code Lib.objectInit ⟨#[0xb1]⟩ 1 none ∈ q_W := q_t1 76 rfl rfl
set_option maxRecDepth 100000 in
theorem ji_fl_3 : Cond.fieldLink RX6 9 "QuillRelay$Team" "number" "I" ∈ q_W := q_t4 136 rfl rfl
set_option maxRecDepth 100000 in
theorem ji_ac_4 : Cond.arrayClass .int ∈ q_W := q_t4 198 rfl rfl
set_option maxRecDepth 100000 in
theorem ji_fl_5 : Cond.fieldLink RX6 15 "QuillRelay$Team" "speeds" "[I" ∈ q_W := q_t4 138 rfl rfl
set_option maxRecDepth 100000 in
theorem ji_fl_6 : Cond.fieldLink RX6 19 "QuillRelay$Team" "splits" "[I" ∈ q_W := q_t4 139 rfl rfl
set_option maxRecDepth 100000 in
theorem ji_fl_7 : Cond.fieldLink RX6 22 "QuillRelay$Stage" "ABSENT" "LQuillRelay$Stage;" ∈ q_W := q_t4 135 rfl rfl
set_option maxRecDepth 100000 in
theorem ji_fl_8 : Cond.fieldLink RX6 28 "QuillRelay$Team" "stage" "LQuillRelay$Stage;" ∈ q_W := q_t4 141 rfl rfl
set_option maxRecDepth 100000 in
theorem ji_fl_9 : Cond.fieldLink RX6 31 "QuillRelay$Team" "lane" "I" ∈ q_W := q_t4 144 rfl rfl
set_option maxRecDepth 100000 in
theorem ji_ml_10 : Cond.methodLink RX4 3 Lib.objectInit ∈ q_W := q_t4 128 rfl rfl
set_option maxRecDepth 100000 in
theorem ji_cl_11 : Cond.classLink RX4 9 "QuillRelay$Team" ∈ q_W := q_t4 129 rfl rfl
set_option maxRecDepth 100000 in
theorem ji_fl_12 : Cond.fieldLink RX4 11 "QuillRelay$Race" "teams" "[LQuillRelay$Team;" ∈ q_W := q_t4 199 rfl rfl
set_option maxRecDepth 100000 in
theorem ji_is_13 : Cond.instantiable "QuillRelay$Team" 14 ∈ q_W := q_t3 128 rfl rfl
set_option maxRecDepth 100000 in
theorem ji_ii_14 : Cond.initialized "QuillRelay$Team" ∈ q_W := q_t1 3 rfl rfl
set_option maxRecDepth 100000 in
theorem ji_ml_15 : Cond.methodLink RX4 17 yX6_init ∈ q_W := q_t4 131 rfl rfl
set_option maxRecDepth 100000 in
theorem ji_in_16 : Cond.instanceMethod yX6_init ∈ q_W := q_t4 132 rfl rfl
set_option maxRecDepth 100000 in
theorem ji_co_17 : Cond.code yX6_init cX6_init 3 (Option.none : Option Jvm.ClassFile.FieldType) ∈ q_W := q_t4 133 rfl rfl
set_option maxRecDepth 100000 in
theorem ji_fl_18 : Cond.fieldLink RX4 20 "QuillRelay$Race" "legLength" "I" ∈ q_W := q_t4 204 rfl rfl
theorem dX4_init_0 : decode cX4_init 0 = .ok (.aload_n 0, 1) := by decide +kernel
theorem dX4_init_1 : decode cX4_init 1 = .ok (.invokespecial 3, 3) := by decide +kernel
theorem dX4_init_4 : decode cX4_init 4 = .ok (.aload_n 0, 1) := by decide +kernel
theorem dX4_init_5 : decode cX4_init 5 = .ok (.bipush 6, 2) := by decide +kernel
theorem dX4_init_7 : decode cX4_init 7 = .ok (.anewarray 9, 3) := by decide +kernel
theorem dX4_init_10 : decode cX4_init 10 = .ok (.putfield 11, 3) := by decide +kernel
theorem dX4_init_13 : decode cX4_init 13 = .ok (.iconst 0, 1) := by decide +kernel
theorem dX4_init_14 : decode cX4_init 14 = .ok (.istore_n 1, 1) := by decide +kernel
theorem dX4_init_15 : decode cX4_init 15 = .ok (.iload_n 1, 1) := by decide +kernel
theorem dX4_init_16 : decode cX4_init 16 = .ok (.aload_n 0, 1) := by decide +kernel
theorem dX4_init_17 : decode cX4_init 17 = .ok (.getfield 11, 3) := by decide +kernel
theorem dX4_init_20 : decode cX4_init 20 = .ok (.arraylength, 1) := by decide +kernel
theorem dX4_init_21 : decode cX4_init 21 = .ok (.if_icmp .ge 23, 3) := by decide +kernel
theorem dX4_init_24 : decode cX4_init 24 = .ok (.aload_n 0, 1) := by decide +kernel
theorem dX4_init_25 : decode cX4_init 25 = .ok (.getfield 11, 3) := by decide +kernel
theorem dX4_init_28 : decode cX4_init 28 = .ok (.iload_n 1, 1) := by decide +kernel
theorem dX4_init_29 : decode cX4_init 29 = .ok (.new 9, 3) := by decide +kernel
theorem dX4_init_32 : decode cX4_init 32 = .ok (.dup, 1) := by decide +kernel
theorem dX4_init_33 : decode cX4_init 33 = .ok (.iload_n 1, 1) := by decide +kernel
theorem dX4_init_34 : decode cX4_init 34 = .ok (.invokespecial 17, 3) := by decide +kernel
theorem dX4_init_37 : decode cX4_init 37 = .ok (.aastore, 1) := by decide +kernel
theorem dX4_init_38 : decode cX4_init 38 = .ok (.iinc 1 1, 3) := by decide +kernel
theorem dX4_init_41 : decode cX4_init 41 = .ok (.goto (-26), 3) := by decide +kernel
theorem dX4_init_44 : decode cX4_init 44 = .ok (.aload_n 0, 1) := by decide +kernel
theorem dX4_init_45 : decode cX4_init 45 = .ok (.sipush 1000, 3) := by decide +kernel
theorem dX4_init_48 : decode cX4_init 48 = .ok (.putfield 20, 3) := by decide +kernel
theorem dX4_init_51 : decode cX4_init 51 = .ok (.return_, 1) := by decide +kernel
theorem dX6_init_0 : decode cX6_init 0 = .ok (.aload_n 0, 1) := by decide +kernel
theorem dX6_init_1 : decode cX6_init 1 = .ok (.invokespecial 3, 3) := by decide +kernel
theorem dX6_init_4 : decode cX6_init 4 = .ok (.aload_n 0, 1) := by decide +kernel
theorem dX6_init_5 : decode cX6_init 5 = .ok (.iload_n 1, 1) := by decide +kernel
theorem dX6_init_6 : decode cX6_init 6 = .ok (.putfield 9, 3) := by decide +kernel
theorem dX6_init_9 : decode cX6_init 9 = .ok (.aload_n 0, 1) := by decide +kernel
theorem dX6_init_10 : decode cX6_init 10 = .ok (.iconst 4, 1) := by decide +kernel
theorem dX6_init_11 : decode cX6_init 11 = .ok (.newarray .int, 2) := by decide +kernel
theorem dX6_init_13 : decode cX6_init 13 = .ok (.putfield 15, 3) := by decide +kernel
theorem dX6_init_16 : decode cX6_init 16 = .ok (.aload_n 0, 1) := by decide +kernel
theorem dX6_init_17 : decode cX6_init 17 = .ok (.iconst 4, 1) := by decide +kernel
theorem dX6_init_18 : decode cX6_init 18 = .ok (.newarray .int, 2) := by decide +kernel
theorem dX6_init_20 : decode cX6_init 20 = .ok (.putfield 19, 3) := by decide +kernel
theorem dX6_init_23 : decode cX6_init 23 = .ok (.iconst 0, 1) := by decide +kernel
theorem dX6_init_24 : decode cX6_init 24 = .ok (.istore_n 2, 1) := by decide +kernel
theorem dX6_init_25 : decode cX6_init 25 = .ok (.iload_n 2, 1) := by decide +kernel
theorem dX6_init_26 : decode cX6_init 26 = .ok (.aload_n 0, 1) := by decide +kernel
theorem dX6_init_27 : decode cX6_init 27 = .ok (.getfield 15, 3) := by decide +kernel
theorem dX6_init_30 : decode cX6_init 30 = .ok (.arraylength, 1) := by decide +kernel
theorem dX6_init_31 : decode cX6_init 31 = .ok (.if_icmp .ge 17, 3) := by decide +kernel
theorem dX6_init_34 : decode cX6_init 34 = .ok (.aload_n 0, 1) := by decide +kernel
theorem dX6_init_35 : decode cX6_init 35 = .ok (.getfield 15, 3) := by decide +kernel
theorem dX6_init_38 : decode cX6_init 38 = .ok (.iload_n 2, 1) := by decide +kernel
theorem dX6_init_39 : decode cX6_init 39 = .ok (.bipush 60, 2) := by decide +kernel
theorem dX6_init_41 : decode cX6_init 41 = .ok (.iastore, 1) := by decide +kernel
theorem dX6_init_42 : decode cX6_init 42 = .ok (.iinc 2 1, 3) := by decide +kernel
theorem dX6_init_45 : decode cX6_init 45 = .ok (.goto (-20), 3) := by decide +kernel
theorem dX6_init_48 : decode cX6_init 48 = .ok (.aload_n 0, 1) := by decide +kernel
theorem dX6_init_49 : decode cX6_init 49 = .ok (.getstatic 22, 3) := by decide +kernel
theorem dX6_init_52 : decode cX6_init 52 = .ok (.putfield 28, 3) := by decide +kernel
theorem dX6_init_55 : decode cX6_init 55 = .ok (.aload_n 0, 1) := by decide +kernel
theorem dX6_init_56 : decode cX6_init 56 = .ok (.iload_n 1, 1) := by decide +kernel
theorem dX6_init_57 : decode cX6_init 57 = .ok (.iconst 1, 1) := by decide +kernel
theorem dX6_init_58 : decode cX6_init 58 = .ok (.iadd, 1) := by decide +kernel
theorem dX6_init_59 : decode cX6_init 59 = .ok (.putfield 31, 3) := by decide +kernel
theorem dX6_init_62 : decode cX6_init 62 = .ok (.return_, 1) := by decide +kernel
set_option maxRecDepth 100000 in
set_option maxHeartbeats 4000000 in
theorem c_initT {α β : Nat → Nat} {D : va_G} {κ : Nat → ClassId} (h v : Nat) (h0 : v < 6) (l : Launch) (sz : Nat) : Met l yX6_init (Cond.code yX6_init cX6_init 3 (Option.none : Option Jvm.ClassFile.FieldType) :: q_W) ({ frames := 1, cells := 2, slots := 8, locals := 21 } : Room) (c_Pc α β D κ [.ref h, .int (nI v)] [(h, .inr (7, [.int 0, .null, .null, .null, .int 0, .int 0, .int 0, .int 0, .int 0, .int 0, .int 0, .int 0, .int 0, .int 0]))] sz) (va_Qv (fun _ : Nat × Nat => True) (fun u t => va_P D vwCl [c_t β h v u.1 u.2, c_sp κ u.1, c_z κ 4 u.2] t.heap ∧ va_D (va_A [(h, .inr (7, [.int 0, .null, .null, .null, .int 0, .int 0, .int 0, .int 0, .int 0, .int 0, .int 0, .int 0, .int 0, .int 0]))] sz) [c_t β h v u.1 u.2, c_sp κ u.1, c_z κ 4 u.2]) (va_A [(h, .inr (7, [.int 0, .null, .null, .null, .int 0, .int 0, .int 0, .int 0, .int 0, .int 0, .int 0, .int 0, .int 0, .int 0]))] sz)) 2 8 (va_A [(h, .inr (7, [.int 0, .null, .null, .null, .int 0, .int 0, .int 0, .int 0, .int 0, .int 0, .int 0, .int 0, .int 0, .int 0]))] sz) := by
  refine Met.ofW (cc := cX6_init) (maxL := 3) (ret := (Option.none : Option Jvm.ClassFile.FieldType)) (by decide) rfl ?_
  intro p e s m args below meth c s₁ B hml hv
  obtain ⟨C, hr, ⟨ls, hle, hl⟩, hP, hD, hS⟩ := c_enter RX6 rfl (Nat.le_of_ble_eq_true rfl) B hml hv
  obtain rfl : s.heap.size = sz := hv.2.1
  clear hv
  have hin : meth.name = "<init>" := (name_of_methodNamed B.named B.method).1
  rw [hle]
  generalize va_A [(h, .inr (7, [.int 0, .null, .null, .null, .int 0, .int 0, .int 0, .int 0, .int 0, .int 0, .int 0, .int 0, .int 0, .int 0]))] s.heap.size = A0 at C hD hS ⊢
  have hl : lv_has ls 3 [(0, .ref h), (1, .int (nI v))] := hl
  have C0 := C
  obtain ⟨hx, hb, -, hown, hts, hK, ⟨hE, hAO6, hAO4⟩, hA, hlocks⟩ := C
  refine lv_aload_n hx hb dX6_init_0 rfl (lv_at hl 0 rfl) ?_
  refine W.objInit hx hb hown (hts _ ji_ml_0) (hts _ ji_in_1) (hts _ ji_co_2) rfl (by rw [C0.2.2.1]; exact hl.1) rfl dX6_init_1 (Nat.le_of_ble_eq_true rfl) (Nat.le_of_ble_eq_true rfl) ?_
  refine W.eq (g2 := F0 m 4 ls []) rfl ?_
  refine lv_aload_n hx hb dX6_init_4 rfl (lv_at hl 0 rfl) ?_
  refine lv_iload_n hx hb dX6_init_5 rfl (lv_at hl 1 rfl) ?_
  refine va_putF (ty := .int) (ci := 7) (C := RX6) (T := TX6) (N := 14) hx hb hts q_u_X6 tyX6 tyX6_ok nmX6 hown hK hP hD hS 0 rfl rfl 0 (by decide) (hts _ ji_fl_3) (fun _ h9 => h9) rfl hin rfl (by decide +kernel) rfl rfl (Nat.le_of_ble_eq_true rfl) dX6_init_6 (fun H locs hP hD hS => ?_)
  have hP : va_P D vwCl [(h, .inr (7, [.int (nI v), .null, .null, .null, .int 0, .int 0, .int 0, .int 0, .int 0, .int 0, .int 0, .int 0, .int 0, .int 0]))] H := hP
  have hD : va_D A0 [(h, .inr (7, [.int (nI v), .null, .null, .null, .int 0, .int 0, .int 0, .int 0, .int 0, .int 0, .int 0, .int 0, .int 0, .int 0]))] := hD
  refine lv_aload_n hx hb dX6_init_9 rfl (lv_at hl 0 rfl) ?_
  refine lv_iconst hx hb dX6_init_10 (by decide : Int32.ofInt 4 = 4) ?_
  refine va_newa (atype := .int) (ty := .int) (a0 := (4, .inl (fun _ => 0))) (N' := 4) hx hb (hts _ ji_ac_4) rfl hK hP hD hS hA (fun cA => rfl) (by decide) (by decide) (by decide) (by show 0 + 1 ≤ 2; omega) (by show 0 + 4 ≤ 8; omega) dX6_init_11 (fun q1 cA H hK2 hP hD hS => ?_)
  obtain rfl := c_arr (k := 0) rfl hK hK2
  clear hK2
  have hP : va_P D vwCl [(h, .inr (7, [.int (nI v), .null, .null, .null, .int 0, .int 0, .int 0, .int 0, .int 0, .int 0, .int 0, .int 0, .int 0, .int 0])), (q1, .inl (κ 0, 4, .inl (fun _ => 0)))] H := hP
  have hD : va_D A0 [(h, .inr (7, [.int (nI v), .null, .null, .null, .int 0, .int 0, .int 0, .int 0, .int 0, .int 0, .int 0, .int 0, .int 0, .int 0])), (q1, .inl (κ 0, 4, .inl (fun _ => 0)))] := hD
  refine va_putF (ty := (.array .int)) (ci := 7) (C := RX6) (T := TX6) (N := 14) hx hb hts q_u_X6 tyX6 tyX6_ok nmX6 hown hK hP hD hS 0 rfl rfl 1 (by decide) (hts _ ji_fl_5) (fun _ h9 => h9) rfl hin rfl (by decide +kernel) rfl rfl (Nat.le_of_ble_eq_true rfl) dX6_init_13 (fun H locs hP hD hS => ?_)
  have hP : va_P D vwCl [(h, .inr (7, [.int (nI v), .ref q1, .null, .null, .int 0, .int 0, .int 0, .int 0, .int 0, .int 0, .int 0, .int 0, .int 0, .int 0])), (q1, .inl (κ 0, 4, .inl (fun _ => 0)))] H := hP
  have hD : va_D A0 [(h, .inr (7, [.int (nI v), .ref q1, .null, .null, .int 0, .int 0, .int 0, .int 0, .int 0, .int 0, .int 0, .int 0, .int 0, .int 0])), (q1, .inl (κ 0, 4, .inl (fun _ => 0)))] := hD
  refine lv_aload_n hx hb dX6_init_16 rfl (lv_at hl 0 rfl) ?_
  refine lv_iconst hx hb dX6_init_17 (by decide : Int32.ofInt 4 = 4) ?_
  refine va_newa (atype := .int) (ty := .int) (a0 := (4, .inl (fun _ => 0))) (N' := 4) hx hb (hts _ ji_ac_4) rfl hK hP hD hS hA (fun cA => rfl) (by decide) (by decide) (by decide) (by show 0 + 1 + 1 ≤ 2; omega) (by show 0 + 4 + 4 ≤ 8; omega) dX6_init_18 (fun q2 cA H hK2 hP hD hS => ?_)
  obtain rfl := c_arr (k := 0) rfl hK hK2
  clear hK2
  have hP : va_P D vwCl [(h, .inr (7, [.int (nI v), .ref q1, .null, .null, .int 0, .int 0, .int 0, .int 0, .int 0, .int 0, .int 0, .int 0, .int 0, .int 0])), (q1, .inl (κ 0, 4, .inl (fun _ => 0))), (q2, .inl (κ 0, 4, .inl (fun _ => 0)))] H := hP
  have hD : va_D A0 [(h, .inr (7, [.int (nI v), .ref q1, .null, .null, .int 0, .int 0, .int 0, .int 0, .int 0, .int 0, .int 0, .int 0, .int 0, .int 0])), (q1, .inl (κ 0, 4, .inl (fun _ => 0))), (q2, .inl (κ 0, 4, .inl (fun _ => 0)))] := hD
  refine va_putF (ty := (.array .int)) (ci := 7) (C := RX6) (T := TX6) (N := 14) hx hb hts q_u_X6 tyX6 tyX6_ok nmX6 hown hK hP hD hS 0 rfl rfl 2 (by decide) (hts _ ji_fl_6) (fun _ h9 => h9) rfl hin rfl (by decide +kernel) rfl rfl (Nat.le_of_ble_eq_true rfl) dX6_init_20 (fun H locs hP hD hS => ?_)
  have hP : va_P D vwCl [(h, .inr (7, [.int (nI v), .ref q1, .ref q2, .null, .int 0, .int 0, .int 0, .int 0, .int 0, .int 0, .int 0, .int 0, .int 0, .int 0])), (q1, .inl (κ 0, 4, .inl (fun _ => 0))), (q2, .inl (κ 0, 4, .inl (fun _ => 0)))] H := hP
  have hD : va_D A0 [(h, .inr (7, [.int (nI v), .ref q1, .ref q2, .null, .int 0, .int 0, .int 0, .int 0, .int 0, .int 0, .int 0, .int 0, .int 0, .int 0])), (q1, .inl (κ 0, 4, .inl (fun _ => 0))), (q2, .inl (κ 0, 4, .inl (fun _ => 0)))] := hD
  refine lv_iconst hx hb dX6_init_23 (by decide : Int32.ofInt 0 = 0) ?_
  refine lv_istore_n hx hb dX6_init_24 rfl hl (Nat.le_of_ble_eq_true rfl) (lv' := [(2, .int 0), (0, .ref h), (1, .int (nI v))]) rfl (fun ls hl => ?_)
  refine lv_iload_n hx hb dX6_init_25 rfl (lv_at hl 0 rfl) ?_
  refine lv_aload_n hx hb dX6_init_26 rfl (lv_at hl 1 rfl) ?_
  refine va_get (ci := 7) (C := RX6) (T := TX6) (N := 14) hx hb hts q_u_X6 hown hK hP 0 rfl rfl 1 (by decide) (hts _ ji_fl_5) (fun _ h9 => h9) rfl dX6_init_27 ?_
  refine va_alen hx hb hK hP 1 0 rfl rfl (v := nI 4) rfl dX6_init_30 ?_
  refine lv_topi (fun x3 hx4 => ?_)
  obtain rfl : x3 = 4 := by rw [hx4]; exact (by decide +kernel)
  refine lv_icmp_ge hx hb dX6_init_31 (tgt := 48) (by decide) (fun hq9 => absurd hq9 ((by decide : ¬ (4 : Int32) ≤ 0))) (fun _ => ?_)
  refine lv_aload_n hx hb dX6_init_34 rfl (lv_at hl 1 rfl) ?_
  refine va_get (ci := 7) (C := RX6) (T := TX6) (N := 14) hx hb hts q_u_X6 hown hK hP 0 rfl rfl 1 (by decide) (hts _ ji_fl_5) (fun _ h9 => h9) rfl dX6_init_35 ?_
  refine lv_iload_n hx hb dX6_init_38 rfl (lv_at hl 0 rfl) ?_
  refine lv_bipush hx hb dX6_init_39 (by decide : (Int8.ofInt 60).toInt32 = 60) ?_
  refine va_iast hx hb hK hP hD hS 1 0 rfl rfl (by unfold vp_in; decide) dX6_init_41 (fun H locs hP hD hS => ?_)
  have hP : va_P D vwCl [(h, .inr (7, [.int (nI v), .ref q1, .ref q2, .null, .int 0, .int 0, .int 0, .int 0, .int 0, .int 0, .int 0, .int 0, .int 0, .int 0])), (q1, .inl (κ 0, 4, .inl (upd (fun _ => 0) 0 60))), (q2, .inl (κ 0, 4, .inl (fun _ => 0)))] H := hP
  have hD : va_D A0 [(h, .inr (7, [.int (nI v), .ref q1, .ref q2, .null, .int 0, .int 0, .int 0, .int 0, .int 0, .int 0, .int 0, .int 0, .int 0, .int 0])), (q1, .inl (κ 0, 4, .inl (upd (fun _ => 0) 0 60))), (q2, .inl (κ 0, 4, .inl (fun _ => 0)))] := hD
  refine lv_iinc hx hb dX6_init_42 hl (k := 0) rfl (by decide) (Nat.le_of_ble_eq_true rfl) (lv' := [(2, .int 1), (0, .ref h), (1, .int (nI v))]) rfl (fun ls hl => ?_)
  refine lv_goto hx hb dX6_init_45 (tgt := 25) (by decide) ?_
  refine lv_iload_n hx hb dX6_init_25 rfl (lv_at hl 0 rfl) ?_
  refine lv_aload_n hx hb dX6_init_26 rfl (lv_at hl 1 rfl) ?_
  refine va_get (ci := 7) (C := RX6) (T := TX6) (N := 14) hx hb hts q_u_X6 hown hK hP 0 rfl rfl 1 (by decide) (hts _ ji_fl_5) (fun _ h9 => h9) rfl dX6_init_27 ?_
  refine va_alen hx hb hK hP 1 0 rfl rfl (v := nI 4) rfl dX6_init_30 ?_
  refine lv_topi (fun x5 hx6 => ?_)
  obtain rfl : x5 = 4 := by rw [hx6]; exact (by decide +kernel)
  refine lv_icmp_ge hx hb dX6_init_31 (tgt := 48) (by decide) (fun hq9 => absurd hq9 ((by decide : ¬ (4 : Int32) ≤ 1))) (fun _ => ?_)
  refine lv_aload_n hx hb dX6_init_34 rfl (lv_at hl 1 rfl) ?_
  refine va_get (ci := 7) (C := RX6) (T := TX6) (N := 14) hx hb hts q_u_X6 hown hK hP 0 rfl rfl 1 (by decide) (hts _ ji_fl_5) (fun _ h9 => h9) rfl dX6_init_35 ?_
  refine lv_iload_n hx hb dX6_init_38 rfl (lv_at hl 0 rfl) ?_
  refine lv_bipush hx hb dX6_init_39 (by decide : (Int8.ofInt 60).toInt32 = 60) ?_
  refine va_iast hx hb hK hP hD hS 1 0 rfl rfl (by unfold vp_in; decide) dX6_init_41 (fun H locs hP hD hS => ?_)
  have hP : va_P D vwCl [(h, .inr (7, [.int (nI v), .ref q1, .ref q2, .null, .int 0, .int 0, .int 0, .int 0, .int 0, .int 0, .int 0, .int 0, .int 0, .int 0])), (q1, .inl (κ 0, 4, .inl (upd (upd (fun _ => 0) 0 60) 1 60))), (q2, .inl (κ 0, 4, .inl (fun _ => 0)))] H := hP
  have hD : va_D A0 [(h, .inr (7, [.int (nI v), .ref q1, .ref q2, .null, .int 0, .int 0, .int 0, .int 0, .int 0, .int 0, .int 0, .int 0, .int 0, .int 0])), (q1, .inl (κ 0, 4, .inl (upd (upd (fun _ => 0) 0 60) 1 60))), (q2, .inl (κ 0, 4, .inl (fun _ => 0)))] := hD
  refine lv_iinc hx hb dX6_init_42 hl (k := 0) rfl (by decide) (Nat.le_of_ble_eq_true rfl) (lv' := [(2, .int 2), (0, .ref h), (1, .int (nI v))]) rfl (fun ls hl => ?_)
  refine lv_goto hx hb dX6_init_45 (tgt := 25) (by decide) ?_
  refine lv_iload_n hx hb dX6_init_25 rfl (lv_at hl 0 rfl) ?_
  refine lv_aload_n hx hb dX6_init_26 rfl (lv_at hl 1 rfl) ?_
  refine va_get (ci := 7) (C := RX6) (T := TX6) (N := 14) hx hb hts q_u_X6 hown hK hP 0 rfl rfl 1 (by decide) (hts _ ji_fl_5) (fun _ h9 => h9) rfl dX6_init_27 ?_
  refine va_alen hx hb hK hP 1 0 rfl rfl (v := nI 4) rfl dX6_init_30 ?_
  refine lv_topi (fun x7 hx8 => ?_)
  obtain rfl : x7 = 4 := by rw [hx8]; exact (by decide +kernel)
  refine lv_icmp_ge hx hb dX6_init_31 (tgt := 48) (by decide) (fun hq9 => absurd hq9 ((by decide : ¬ (4 : Int32) ≤ 2))) (fun _ => ?_)
  refine lv_aload_n hx hb dX6_init_34 rfl (lv_at hl 1 rfl) ?_
  refine va_get (ci := 7) (C := RX6) (T := TX6) (N := 14) hx hb hts q_u_X6 hown hK hP 0 rfl rfl 1 (by decide) (hts _ ji_fl_5) (fun _ h9 => h9) rfl dX6_init_35 ?_
  refine lv_iload_n hx hb dX6_init_38 rfl (lv_at hl 0 rfl) ?_
  refine lv_bipush hx hb dX6_init_39 (by decide : (Int8.ofInt 60).toInt32 = 60) ?_
  refine va_iast hx hb hK hP hD hS 1 0 rfl rfl (by unfold vp_in; decide) dX6_init_41 (fun H locs hP hD hS => ?_)
  have hP : va_P D vwCl [(h, .inr (7, [.int (nI v), .ref q1, .ref q2, .null, .int 0, .int 0, .int 0, .int 0, .int 0, .int 0, .int 0, .int 0, .int 0, .int 0])), (q1, .inl (κ 0, 4, .inl (upd (upd (upd (fun _ => 0) 0 60) 1 60) 2 60))), (q2, .inl (κ 0, 4, .inl (fun _ => 0)))] H := hP
  have hD : va_D A0 [(h, .inr (7, [.int (nI v), .ref q1, .ref q2, .null, .int 0, .int 0, .int 0, .int 0, .int 0, .int 0, .int 0, .int 0, .int 0, .int 0])), (q1, .inl (κ 0, 4, .inl (upd (upd (upd (fun _ => 0) 0 60) 1 60) 2 60))), (q2, .inl (κ 0, 4, .inl (fun _ => 0)))] := hD
  refine lv_iinc hx hb dX6_init_42 hl (k := 0) rfl (by decide) (Nat.le_of_ble_eq_true rfl) (lv' := [(2, .int 3), (0, .ref h), (1, .int (nI v))]) rfl (fun ls hl => ?_)
  refine lv_goto hx hb dX6_init_45 (tgt := 25) (by decide) ?_
  refine lv_iload_n hx hb dX6_init_25 rfl (lv_at hl 0 rfl) ?_
  refine lv_aload_n hx hb dX6_init_26 rfl (lv_at hl 1 rfl) ?_
  refine va_get (ci := 7) (C := RX6) (T := TX6) (N := 14) hx hb hts q_u_X6 hown hK hP 0 rfl rfl 1 (by decide) (hts _ ji_fl_5) (fun _ h9 => h9) rfl dX6_init_27 ?_
  refine va_alen hx hb hK hP 1 0 rfl rfl (v := nI 4) rfl dX6_init_30 ?_
  refine lv_topi (fun x9 hx10 => ?_)
  obtain rfl : x9 = 4 := by rw [hx10]; exact (by decide +kernel)
  refine lv_icmp_ge hx hb dX6_init_31 (tgt := 48) (by decide) (fun hq9 => absurd hq9 ((by decide : ¬ (4 : Int32) ≤ 3))) (fun _ => ?_)
  refine lv_aload_n hx hb dX6_init_34 rfl (lv_at hl 1 rfl) ?_
  refine va_get (ci := 7) (C := RX6) (T := TX6) (N := 14) hx hb hts q_u_X6 hown hK hP 0 rfl rfl 1 (by decide) (hts _ ji_fl_5) (fun _ h9 => h9) rfl dX6_init_35 ?_
  refine lv_iload_n hx hb dX6_init_38 rfl (lv_at hl 0 rfl) ?_
  refine lv_bipush hx hb dX6_init_39 (by decide : (Int8.ofInt 60).toInt32 = 60) ?_
  refine va_iast hx hb hK hP hD hS 1 0 rfl rfl (by unfold vp_in; decide) dX6_init_41 (fun H locs hP hD hS => ?_)
  have hP : va_P D vwCl [(h, .inr (7, [.int (nI v), .ref q1, .ref q2, .null, .int 0, .int 0, .int 0, .int 0, .int 0, .int 0, .int 0, .int 0, .int 0, .int 0])), (q1, .inl (κ 0, 4, .inl (upd (upd (upd (upd (fun _ => 0) 0 60) 1 60) 2 60) 3 60))), (q2, .inl (κ 0, 4, .inl (fun _ => 0)))] H := hP
  have hD : va_D A0 [(h, .inr (7, [.int (nI v), .ref q1, .ref q2, .null, .int 0, .int 0, .int 0, .int 0, .int 0, .int 0, .int 0, .int 0, .int 0, .int 0])), (q1, .inl (κ 0, 4, .inl (upd (upd (upd (upd (fun _ => 0) 0 60) 1 60) 2 60) 3 60))), (q2, .inl (κ 0, 4, .inl (fun _ => 0)))] := hD
  refine lv_iinc hx hb dX6_init_42 hl (k := 0) rfl (by decide) (Nat.le_of_ble_eq_true rfl) (lv' := [(2, .int 4), (0, .ref h), (1, .int (nI v))]) rfl (fun ls hl => ?_)
  refine lv_goto hx hb dX6_init_45 (tgt := 25) (by decide) ?_
  refine lv_iload_n hx hb dX6_init_25 rfl (lv_at hl 0 rfl) ?_
  refine lv_aload_n hx hb dX6_init_26 rfl (lv_at hl 1 rfl) ?_
  refine va_get (ci := 7) (C := RX6) (T := TX6) (N := 14) hx hb hts q_u_X6 hown hK hP 0 rfl rfl 1 (by decide) (hts _ ji_fl_5) (fun _ h9 => h9) rfl dX6_init_27 ?_
  refine va_alen hx hb hK hP 1 0 rfl rfl (v := nI 4) rfl dX6_init_30 ?_
  refine lv_topi (fun x11 hx12 => ?_)
  obtain rfl : x11 = 4 := by rw [hx12]; exact (by decide +kernel)
  refine lv_icmp_ge hx hb dX6_init_31 (tgt := 48) (by decide) (fun _ => ?_) (fun hq9 => absurd ((by decide : (4 : Int32) ≤ 4)) hq9)
  refine lv_aload_n hx hb dX6_init_48 rfl (lv_at hl 1 rfl) ?_
  refine va_gets hx hb (q_stat (n := 0) hE (Or.inl (by decide))) hS hown (hts _ ji_fl_7) (fun _ h9 => h9) dX6_init_49 ?_
  refine va_put (ty := (.object "QuillRelay$Stage")) (ci := 7) (C := RX6) (T := TX6) (N := 14) hx hb hts q_u_X6 tyX6 tyX6_ok nmX6 hown hK hP hD hS 0 rfl rfl 3 (by decide) (hts _ ji_fl_8) (fun _ h9 => h9) rfl (by decide +kernel) rfl rfl (Nat.le_of_ble_eq_true rfl) dX6_init_52 (fun H locs hP hD hS => ?_)
  have hP : va_P D vwCl [(h, .inr (7, [.int (nI v), .ref q1, .ref q2, .ref (β 0), .int 0, .int 0, .int 0, .int 0, .int 0, .int 0, .int 0, .int 0, .int 0, .int 0])), (q1, .inl (κ 0, 4, .inl (upd (upd (upd (upd (fun _ => 0) 0 60) 1 60) 2 60) 3 60))), (q2, .inl (κ 0, 4, .inl (fun _ => 0)))] H := hP
  have hD : va_D A0 [(h, .inr (7, [.int (nI v), .ref q1, .ref q2, .ref (β 0), .int 0, .int 0, .int 0, .int 0, .int 0, .int 0, .int 0, .int 0, .int 0, .int 0])), (q1, .inl (κ 0, 4, .inl (upd (upd (upd (upd (fun _ => 0) 0 60) 1 60) 2 60) 3 60))), (q2, .inl (κ 0, 4, .inl (fun _ => 0)))] := hD
  refine lv_aload_n hx hb dX6_init_55 rfl (lv_at hl 1 rfl) ?_
  refine lv_iload_n hx hb dX6_init_56 rfl (lv_at hl 2 rfl) ?_
  refine lv_iconst hx hb dX6_init_57 (by decide : Int32.ofInt 1 = 1) ?_
  refine lv_iadd hx hb dX6_init_58 ?_
  refine lv_topi (fun x13 hx14 => ?_)
  obtain rfl : x13 = nI (v + 1) := by rw [hx14]; exact (nI_1 v)
  refine va_put (ty := .int) (ci := 7) (C := RX6) (T := TX6) (N := 14) hx hb hts q_u_X6 tyX6 tyX6_ok nmX6 hown hK hP hD hS 0 rfl rfl 4 (by decide) (hts _ ji_fl_9) (fun _ h9 => h9) rfl (by decide +kernel) rfl rfl (Nat.le_of_ble_eq_true rfl) dX6_init_59 (fun H locs hP hD hS => ?_)
  have hP : va_P D vwCl [(h, .inr (7, [.int (nI v), .ref q1, .ref q2, .ref (β 0), .int (nI (v + 1)), .int 0, .int 0, .int 0, .int 0, .int 0, .int 0, .int 0, .int 0, .int 0])), (q1, .inl (κ 0, 4, .inl (upd (upd (upd (upd (fun _ => 0) 0 60) 1 60) 2 60) 3 60))), (q2, .inl (κ 0, 4, .inl (fun _ => 0)))] H := hP
  have hD : va_D A0 [(h, .inr (7, [.int (nI v), .ref q1, .ref q2, .ref (β 0), .int (nI (v + 1)), .int 0, .int 0, .int 0, .int 0, .int 0, .int 0, .int 0, .int 0, .int 0])), (q1, .inl (κ 0, 4, .inl (upd (upd (upd (upd (fun _ => 0) 0 60) 1 60) 2 60) 3 60))), (q2, .inl (κ 0, 4, .inl (fun _ => 0)))] := hD
  have hP := c_fix (w1 := [c_t β h v q1 q2]) (q2 := c_sp κ q1) (c_atc (fun j hj => by rcases (show j = 0 ∨ j = 1 ∨ j = 2 ∨ j = 3 by omega) with rfl | rfl | rfl | rfl <;> rfl)) hP
  have hD := c_fixD (ws2 := [c_t β h v q1 q2, c_sp κ q1, c_z κ 4 q2]) hD rfl
  exact W.vret hx hb hr (fun t ht hW => ⟨⟨(q1, q2), rfl, trivial, by rw [ht]; exact hP, hD⟩, hS.F ht⟩) hS.2.2 dX6_init_62 hlocks
set_option maxRecDepth 100000 in
set_option maxHeartbeats 4000000 in
theorem c_initR {α β : Nat → Nat} {D : va_G} {κ : Nat → ClassId} (h : Nat) (l : Launch) (sz : Nat) : Met l yX4_init (Cond.code yX4_init cX4_init 2 (Option.none : Option Jvm.ClassFile.FieldType) :: q_W) ({ frames := 2, cells := 19, slots := 138, locals := 45 } : Room) (c_Pc α β D κ [.ref h] [(h, .inr (6, [.null, .int 0, .int 0, .int 0]))] sz) (va_Qv (fun a : Nat → Nat => a 0 = h) (fun a t => va_P D vwCl (c_rb β κ a) t.heap ∧ va_D (va_A [(h, .inr (6, [.null, .int 0, .int 0, .int 0]))] sz) (c_rb β κ a)) (va_A [(h, .inr (6, [.null, .int 0, .int 0, .int 0]))] sz)) 19 138 (va_A [(h, .inr (6, [.null, .int 0, .int 0, .int 0]))] sz) := by
  refine Met.ofW (cc := cX4_init) (maxL := 2) (ret := (Option.none : Option Jvm.ClassFile.FieldType)) (by decide) rfl ?_
  intro p e s m args below meth c s₁ B hml hv
  obtain ⟨C, hr, ⟨ls, hle, hl⟩, hP, hD, hS⟩ := c_enter RX4 rfl (Nat.le_of_ble_eq_true rfl) B hml hv
  obtain rfl : s.heap.size = sz := hv.2.1
  clear hv
  have hin : meth.name = "<init>" := (name_of_methodNamed B.named B.method).1
  rw [hle]
  generalize va_A [(h, .inr (6, [.null, .int 0, .int 0, .int 0]))] s.heap.size = A0 at C hD hS ⊢
  have hl : lv_has ls 2 [(0, .ref h)] := hl
  have C0 := C
  obtain ⟨hx, hb, -, hown, hts, hK, ⟨hE, hAO6, hAO4⟩, hA, hlocks⟩ := C
  refine lv_aload_n hx hb dX4_init_0 rfl (lv_at hl 0 rfl) ?_
  refine W.objInit hx hb hown (hts _ ji_ml_10) (hts _ ji_in_1) (hts _ ji_co_2) rfl (by rw [C0.2.2.1]; exact hl.1) rfl dX4_init_1 (Nat.le_of_ble_eq_true rfl) (Nat.le_of_ble_eq_true rfl) ?_
  refine W.eq (g2 := F0 m 4 ls []) rfl ?_
  refine lv_aload_n hx hb dX4_init_4 rfl (lv_at hl 0 rfl) ?_
  refine lv_bipush hx hb dX4_init_5 (by decide : (Int8.ofInt 6).toInt32 = 6) ?_
  refine va_newq (N' := 6) hx hb hown (hts _ ji_cl_11) (hAO6) hK hP hD hS hA (by decide) (by decide) (by decide) (by show 0 + 1 ≤ 19; omega) (by show 0 + 6 ≤ 138; omega) dX4_init_7 (fun q1 cA H hK2 hP hD hS => ?_)
  obtain rfl := c_arr (k := 2) rfl hK hK2
  clear hK2
  have hP : va_P D vwCl [(h, .inr (6, [.null, .int 0, .int 0, .int 0])), (q1, .inl (κ 4, 6, .inr (.inr (.inr (.inr (fun _ => none))))))] H := hP
  have hD : va_D A0 [(h, .inr (6, [.null, .int 0, .int 0, .int 0])), (q1, .inl (κ 4, 6, .inr (.inr (.inr (.inr (fun _ => none))))))] := hD
  refine va_putF (ty := (.array (.object "QuillRelay$Team"))) (ci := 6) (C := RX4) (T := TX4) (N := 4) hx hb hts q_u_X4 tyX4 tyX4_ok nmX4 hown hK hP hD hS 0 rfl rfl 0 (by decide) (hts _ ji_fl_12) (fun _ h9 => h9) rfl hin rfl (by decide +kernel) rfl rfl (Nat.le_of_ble_eq_true rfl) dX4_init_10 (fun H locs hP hD hS => ?_)
  have hP : va_P D vwCl [(h, .inr (6, [.ref q1, .int 0, .int 0, .int 0])), (q1, .inl (κ 4, 6, .inr (.inr (.inr (.inr (fun _ => none))))))] H := hP
  have hD : va_D A0 [(h, .inr (6, [.ref q1, .int 0, .int 0, .int 0])), (q1, .inl (κ 4, 6, .inr (.inr (.inr (.inr (fun _ => none))))))] := hD
  refine lv_iconst hx hb dX4_init_13 (by decide : Int32.ofInt 0 = 0) ?_
  refine lv_istore_n hx hb dX4_init_14 rfl hl (Nat.le_of_ble_eq_true rfl) (lv' := [(1, .int 0), (0, .ref h)]) rfl (fun ls hl => ?_)
  refine lv_iload_n hx hb dX4_init_15 rfl (lv_at hl 0 rfl) ?_
  refine lv_aload_n hx hb dX4_init_16 rfl (lv_at hl 1 rfl) ?_
  refine va_get (ci := 6) (C := RX4) (T := TX4) (N := 4) hx hb hts q_u_X4 hown hK hP 0 rfl rfl 0 (by decide) (hts _ ji_fl_12) (fun _ h9 => h9) rfl dX4_init_17 ?_
  refine va_alen hx hb hK hP 1 2 rfl rfl (v := nI 6) rfl dX4_init_20 ?_
  refine lv_topi (fun x2 hx3 => ?_)
  obtain rfl : x2 = 6 := by rw [hx3]; exact (by decide +kernel)
  refine lv_icmp_ge hx hb dX4_init_21 (tgt := 44) (by decide) (fun hq9 => absurd hq9 ((by decide : ¬ (6 : Int32) ≤ 0))) (fun _ => ?_)
  refine lv_aload_n hx hb dX4_init_24 rfl (lv_at hl 1 rfl) ?_
  refine va_get (ci := 6) (C := RX4) (T := TX4) (N := 4) hx hb hts q_u_X4 hown hK hP 0 rfl rfl 0 (by decide) (hts _ ji_fl_12) (fun _ h9 => h9) rfl dX4_init_25 ?_
  refine lv_iload_n hx hb dX4_init_28 rfl (lv_at hl 0 rfl) ?_
  refine va_new (ci := 7) (fs := [.int 0, .null, .null, .null, .int 0, .int 0, .int 0, .int 0, .int 0, .int 0, .int 0, .int 0, .int 0, .int 0]) (C := RX6) (T := TX6) (N := 14) hx hb hts q_u_X6 tyX6 tyX6_ok hown (hts _ ji_cl_11) (hts _ ji_is_13) (hts _ ji_ii_14) hK hP hD hS hA rfl (fun j hj => by rcases (show j = 0 ∨ j = 1 ∨ j = 2 ∨ j = 3 ∨ j = 4 ∨ j = 5 ∨ j = 6 ∨ j = 7 ∨ j = 8 ∨ j = 9 ∨ j = 10 ∨ j = 11 ∨ j = 12 ∨ j = 13 by omega) with rfl | rfl | rfl | rfl | rfl | rfl | rfl | rfl | rfl | rfl | rfl | rfl | rfl | rfl <;> rfl) (by show 0 + 1 + 1 ≤ 19; omega) (by show 0 + 6 + 14 ≤ 138; omega) dX4_init_29 (fun q4 H hP hD hS => ?_)
  have hP : va_P D vwCl ([(h, .inr (6, [.ref q1, .int 0, .int 0, .int 0])), (q1, .inl (κ 4, 6, .inr (.inr (.inr (.inr (fun _ => none))))))] ++ [(q4, .inr (7, [.int 0, .null, .null, .null, .int 0, .int 0, .int 0, .int 0, .int 0, .int 0, .int 0, .int 0, .int 0, .int 0]))]) H := hP
  have hD : va_D A0 ([(h, .inr (6, [.ref q1, .int 0, .int 0, .int 0])), (q1, .inl (κ 4, 6, .inr (.inr (.inr (.inr (fun _ => none))))))] ++ [(q4, .inr (7, [.int 0, .null, .null, .null, .int 0, .int 0, .int 0, .int 0, .int 0, .int 0, .int 0, .int 0, .int 0, .int 0]))]) := hD
  refine lv_dup hx hb dX4_init_32 rfl ?_
  refine lv_iload_n hx hb dX4_init_33 rfl (lv_at hl 0 rfl) ?_
  refine W.eq (g2 := F0 m 34 ls [.int (nI 0), .ref q4, .ref q4, .int 0, .ref q1]) rfl ?_
  have hfree := c_free C0 hD hS
  refine va_callv (c_runI C0 (n := 1) (As := [.int (nI 0)]) (rest := [.ref q4, .int 0, .ref q1]) ji_ml_15 ji_in_16 ji_ii_14 ji_co_17 rfl (by decide +kernel) (c_initT (α := α) (β := β) (D := D) (κ := κ) q4 0 (by decide) l H.size) hP hD hS rfl rfl dX4_init_34 hl (Nat.le_of_ble_eq_true rfl) ⟨(Nat.le_of_ble_eq_true rfl), (Nat.le_of_ble_eq_true rfl)⟩ ⟨(by show 0 + 1 + 1 + 2 ≤ 19; omega), (by show 0 + 6 + 14 + 8 ≤ 138; omega)⟩) hS (fun q _ hq => hfree q hq) hfree (fun u t H locs ht hvm hpost hB hz hk hS => ?_)
  obtain ⟨hP1, hD1⟩ := hB
  rw [ht] at hP1
  obtain ⟨hP, hD⟩ := c_join hP hD hk hfree hP1 hD1
  obtain ⟨p0, r0⟩ := u
  have hP : va_P D vwCl [(h, .inr (6, [.ref q1, .int 0, .int 0, .int 0])), (q1, .inl (κ 4, 6, .inr (.inr (.inr (.inr (fun _ => none)))))), c_t β q4 0 p0 r0, c_sp κ p0, c_z κ 4 r0] H := hP
  have hD : va_D A0 [(h, .inr (6, [.ref q1, .int 0, .int 0, .int 0])), (q1, .inl (κ 4, 6, .inr (.inr (.inr (.inr (fun _ => none)))))), c_t β q4 0 p0 r0, c_sp κ p0, c_z κ 4 r0] := hD
  refine W.eq (g2 := F0 m 37 ls [.ref q4, .int 0, .ref q1]) rfl ?_
  refine va_astq hx hb hK hP hD hS 1 2 2 7 rfl rfl rfl rfl (by unfold vp_in; decide) dX4_init_37 (fun H locs hP hD hS => ?_)
  have hP : va_P D vwCl [(h, .inr (6, [.ref q1, .int 0, .int 0, .int 0])), (q1, .inl (κ 4, 6, .inr (.inr (.inr (.inr (va_up (fun _ => none) 0 (some q4))))))), c_t β q4 0 p0 r0, c_sp κ p0, c_z κ 4 r0] H := hP
  have hD : va_D A0 [(h, .inr (6, [.ref q1, .int 0, .int 0, .int 0])), (q1, .inl (κ 4, 6, .inr (.inr (.inr (.inr (va_up (fun _ => none) 0 (some q4))))))), c_t β q4 0 p0 r0, c_sp κ p0, c_z κ 4 r0] := hD
  refine lv_iinc hx hb dX4_init_38 hl (k := 0) rfl (by decide) (Nat.le_of_ble_eq_true rfl) (lv' := [(1, .int 1), (0, .ref h)]) rfl (fun ls hl => ?_)
  refine lv_goto hx hb dX4_init_41 (tgt := 15) (by decide) ?_
  refine lv_iload_n hx hb dX4_init_15 rfl (lv_at hl 0 rfl) ?_
  refine lv_aload_n hx hb dX4_init_16 rfl (lv_at hl 1 rfl) ?_
  refine va_get (ci := 6) (C := RX4) (T := TX4) (N := 4) hx hb hts q_u_X4 hown hK hP 0 rfl rfl 0 (by decide) (hts _ ji_fl_12) (fun _ h9 => h9) rfl dX4_init_17 ?_
  refine va_alen hx hb hK hP 1 2 rfl rfl (v := nI 6) rfl dX4_init_20 ?_
  refine lv_topi (fun x5 hx6 => ?_)
  obtain rfl : x5 = 6 := by rw [hx6]; exact (by decide +kernel)
  refine lv_icmp_ge hx hb dX4_init_21 (tgt := 44) (by decide) (fun hq9 => absurd hq9 ((by decide : ¬ (6 : Int32) ≤ 1))) (fun _ => ?_)
  refine lv_aload_n hx hb dX4_init_24 rfl (lv_at hl 1 rfl) ?_
  refine va_get (ci := 6) (C := RX4) (T := TX4) (N := 4) hx hb hts q_u_X4 hown hK hP 0 rfl rfl 0 (by decide) (hts _ ji_fl_12) (fun _ h9 => h9) rfl dX4_init_25 ?_
  refine lv_iload_n hx hb dX4_init_28 rfl (lv_at hl 0 rfl) ?_
  refine va_new (ci := 7) (fs := [.int 0, .null, .null, .null, .int 0, .int 0, .int 0, .int 0, .int 0, .int 0, .int 0, .int 0, .int 0, .int 0]) (C := RX6) (T := TX6) (N := 14) hx hb hts q_u_X6 tyX6 tyX6_ok hown (hts _ ji_cl_11) (hts _ ji_is_13) (hts _ ji_ii_14) hK hP hD hS hA rfl (fun j hj => by rcases (show j = 0 ∨ j = 1 ∨ j = 2 ∨ j = 3 ∨ j = 4 ∨ j = 5 ∨ j = 6 ∨ j = 7 ∨ j = 8 ∨ j = 9 ∨ j = 10 ∨ j = 11 ∨ j = 12 ∨ j = 13 by omega) with rfl | rfl | rfl | rfl | rfl | rfl | rfl | rfl | rfl | rfl | rfl | rfl | rfl | rfl <;> rfl) (by show 0 + 1 + 1 + 2 + 1 ≤ 19; omega) (by show 0 + 6 + 14 + 8 + 14 ≤ 138; omega) dX4_init_29 (fun q7 H hP hD hS => ?_)
  have hP : va_P D vwCl ([(h, .inr (6, [.ref q1, .int 0, .int 0, .int 0])), (q1, .inl (κ 4, 6, .inr (.inr (.inr (.inr (va_up (fun _ => none) 0 (some q4))))))), c_t β q4 0 p0 r0, c_sp κ p0, c_z κ 4 r0] ++ [(q7, .inr (7, [.int 0, .null, .null, .null, .int 0, .int 0, .int 0, .int 0, .int 0, .int 0, .int 0, .int 0, .int 0, .int 0]))]) H := hP
  have hD : va_D A0 ([(h, .inr (6, [.ref q1, .int 0, .int 0, .int 0])), (q1, .inl (κ 4, 6, .inr (.inr (.inr (.inr (va_up (fun _ => none) 0 (some q4))))))), c_t β q4 0 p0 r0, c_sp κ p0, c_z κ 4 r0] ++ [(q7, .inr (7, [.int 0, .null, .null, .null, .int 0, .int 0, .int 0, .int 0, .int 0, .int 0, .int 0, .int 0, .int 0, .int 0]))]) := hD
  refine lv_dup hx hb dX4_init_32 rfl ?_
  refine lv_iload_n hx hb dX4_init_33 rfl (lv_at hl 0 rfl) ?_
  refine W.eq (g2 := F0 m 34 ls [.int (nI 1), .ref q7, .ref q7, .int 1, .ref q1]) rfl ?_
  have hfree := c_free C0 hD hS
  refine va_callv (c_runI C0 (n := 1) (As := [.int (nI 1)]) (rest := [.ref q7, .int 1, .ref q1]) ji_ml_15 ji_in_16 ji_ii_14 ji_co_17 rfl (by decide +kernel) (c_initT (α := α) (β := β) (D := D) (κ := κ) q7 1 (by decide) l H.size) hP hD hS rfl rfl dX4_init_34 hl (Nat.le_of_ble_eq_true rfl) ⟨(Nat.le_of_ble_eq_true rfl), (Nat.le_of_ble_eq_true rfl)⟩ ⟨(by show 0 + 1 + 1 + 2 + 1 + 2 ≤ 19; omega), (by show 0 + 6 + 14 + 8 + 14 + 8 ≤ 138; omega)⟩) hS (fun q _ hq => hfree q hq) hfree (fun u t H locs ht hvm hpost hB hz hk hS => ?_)
  obtain ⟨hP1, hD1⟩ := hB
  rw [ht] at hP1
  obtain ⟨hP, hD⟩ := c_join hP hD hk hfree hP1 hD1
  obtain ⟨p1, r1⟩ := u
  have hP : va_P D vwCl [(h, .inr (6, [.ref q1, .int 0, .int 0, .int 0])), (q1, .inl (κ 4, 6, .inr (.inr (.inr (.inr (va_up (fun _ => none) 0 (some q4))))))), c_t β q4 0 p0 r0, c_sp κ p0, c_z κ 4 r0, c_t β q7 1 p1 r1, c_sp κ p1, c_z κ 4 r1] H := hP
  have hD : va_D A0 [(h, .inr (6, [.ref q1, .int 0, .int 0, .int 0])), (q1, .inl (κ 4, 6, .inr (.inr (.inr (.inr (va_up (fun _ => none) 0 (some q4))))))), c_t β q4 0 p0 r0, c_sp κ p0, c_z κ 4 r0, c_t β q7 1 p1 r1, c_sp κ p1, c_z κ 4 r1] := hD
  refine W.eq (g2 := F0 m 37 ls [.ref q7, .int 1, .ref q1]) rfl ?_
  refine va_astq hx hb hK hP hD hS 1 2 5 7 rfl rfl rfl rfl (by unfold vp_in; decide) dX4_init_37 (fun H locs hP hD hS => ?_)
  have hP : va_P D vwCl [(h, .inr (6, [.ref q1, .int 0, .int 0, .int 0])), (q1, .inl (κ 4, 6, .inr (.inr (.inr (.inr (va_up (va_up (fun _ => none) 0 (some q4)) 1 (some q7))))))), c_t β q4 0 p0 r0, c_sp κ p0, c_z κ 4 r0, c_t β q7 1 p1 r1, c_sp κ p1, c_z κ 4 r1] H := hP
  have hD : va_D A0 [(h, .inr (6, [.ref q1, .int 0, .int 0, .int 0])), (q1, .inl (κ 4, 6, .inr (.inr (.inr (.inr (va_up (va_up (fun _ => none) 0 (some q4)) 1 (some q7))))))), c_t β q4 0 p0 r0, c_sp κ p0, c_z κ 4 r0, c_t β q7 1 p1 r1, c_sp κ p1, c_z κ 4 r1] := hD
  refine lv_iinc hx hb dX4_init_38 hl (k := 0) rfl (by decide) (Nat.le_of_ble_eq_true rfl) (lv' := [(1, .int 2), (0, .ref h)]) rfl (fun ls hl => ?_)
  refine lv_goto hx hb dX4_init_41 (tgt := 15) (by decide) ?_
  refine lv_iload_n hx hb dX4_init_15 rfl (lv_at hl 0 rfl) ?_
  refine lv_aload_n hx hb dX4_init_16 rfl (lv_at hl 1 rfl) ?_
  refine va_get (ci := 6) (C := RX4) (T := TX4) (N := 4) hx hb hts q_u_X4 hown hK hP 0 rfl rfl 0 (by decide) (hts _ ji_fl_12) (fun _ h9 => h9) rfl dX4_init_17 ?_
  refine va_alen hx hb hK hP 1 2 rfl rfl (v := nI 6) rfl dX4_init_20 ?_
  refine lv_topi (fun x8 hx9 => ?_)
  obtain rfl : x8 = 6 := by rw [hx9]; exact (by decide +kernel)
  refine lv_icmp_ge hx hb dX4_init_21 (tgt := 44) (by decide) (fun hq9 => absurd hq9 ((by decide : ¬ (6 : Int32) ≤ 2))) (fun _ => ?_)
  refine lv_aload_n hx hb dX4_init_24 rfl (lv_at hl 1 rfl) ?_
  refine va_get (ci := 6) (C := RX4) (T := TX4) (N := 4) hx hb hts q_u_X4 hown hK hP 0 rfl rfl 0 (by decide) (hts _ ji_fl_12) (fun _ h9 => h9) rfl dX4_init_25 ?_
  refine lv_iload_n hx hb dX4_init_28 rfl (lv_at hl 0 rfl) ?_
  refine va_new (ci := 7) (fs := [.int 0, .null, .null, .null, .int 0, .int 0, .int 0, .int 0, .int 0, .int 0, .int 0, .int 0, .int 0, .int 0]) (C := RX6) (T := TX6) (N := 14) hx hb hts q_u_X6 tyX6 tyX6_ok hown (hts _ ji_cl_11) (hts _ ji_is_13) (hts _ ji_ii_14) hK hP hD hS hA rfl (fun j hj => by rcases (show j = 0 ∨ j = 1 ∨ j = 2 ∨ j = 3 ∨ j = 4 ∨ j = 5 ∨ j = 6 ∨ j = 7 ∨ j = 8 ∨ j = 9 ∨ j = 10 ∨ j = 11 ∨ j = 12 ∨ j = 13 by omega) with rfl | rfl | rfl | rfl | rfl | rfl | rfl | rfl | rfl | rfl | rfl | rfl | rfl | rfl <;> rfl) (by show 0 + 1 + 1 + 2 + 1 + 2 + 1 ≤ 19; omega) (by show 0 + 6 + 14 + 8 + 14 + 8 + 14 ≤ 138; omega) dX4_init_29 (fun q10 H hP hD hS => ?_)
  have hP : va_P D vwCl ([(h, .inr (6, [.ref q1, .int 0, .int 0, .int 0])), (q1, .inl (κ 4, 6, .inr (.inr (.inr (.inr (va_up (va_up (fun _ => none) 0 (some q4)) 1 (some q7))))))), c_t β q4 0 p0 r0, c_sp κ p0, c_z κ 4 r0, c_t β q7 1 p1 r1, c_sp κ p1, c_z κ 4 r1] ++ [(q10, .inr (7, [.int 0, .null, .null, .null, .int 0, .int 0, .int 0, .int 0, .int 0, .int 0, .int 0, .int 0, .int 0, .int 0]))]) H := hP
  have hD : va_D A0 ([(h, .inr (6, [.ref q1, .int 0, .int 0, .int 0])), (q1, .inl (κ 4, 6, .inr (.inr (.inr (.inr (va_up (va_up (fun _ => none) 0 (some q4)) 1 (some q7))))))), c_t β q4 0 p0 r0, c_sp κ p0, c_z κ 4 r0, c_t β q7 1 p1 r1, c_sp κ p1, c_z κ 4 r1] ++ [(q10, .inr (7, [.int 0, .null, .null, .null, .int 0, .int 0, .int 0, .int 0, .int 0, .int 0, .int 0, .int 0, .int 0, .int 0]))]) := hD
  refine lv_dup hx hb dX4_init_32 rfl ?_
  refine lv_iload_n hx hb dX4_init_33 rfl (lv_at hl 0 rfl) ?_
  refine W.eq (g2 := F0 m 34 ls [.int (nI 2), .ref q10, .ref q10, .int 2, .ref q1]) rfl ?_
  have hfree := c_free C0 hD hS
  refine va_callv (c_runI C0 (n := 1) (As := [.int (nI 2)]) (rest := [.ref q10, .int 2, .ref q1]) ji_ml_15 ji_in_16 ji_ii_14 ji_co_17 rfl (by decide +kernel) (c_initT (α := α) (β := β) (D := D) (κ := κ) q10 2 (by decide) l H.size) hP hD hS rfl rfl dX4_init_34 hl (Nat.le_of_ble_eq_true rfl) ⟨(Nat.le_of_ble_eq_true rfl), (Nat.le_of_ble_eq_true rfl)⟩ ⟨(by show 0 + 1 + 1 + 2 + 1 + 2 + 1 + 2 ≤ 19; omega), (by show 0 + 6 + 14 + 8 + 14 + 8 + 14 + 8 ≤ 138; omega)⟩) hS (fun q _ hq => hfree q hq) hfree (fun u t H locs ht hvm hpost hB hz hk hS => ?_)
  obtain ⟨hP1, hD1⟩ := hB
  rw [ht] at hP1
  obtain ⟨hP, hD⟩ := c_join hP hD hk hfree hP1 hD1
  obtain ⟨p2, r2⟩ := u
  have hP : va_P D vwCl [(h, .inr (6, [.ref q1, .int 0, .int 0, .int 0])), (q1, .inl (κ 4, 6, .inr (.inr (.inr (.inr (va_up (va_up (fun _ => none) 0 (some q4)) 1 (some q7))))))), c_t β q4 0 p0 r0, c_sp κ p0, c_z κ 4 r0, c_t β q7 1 p1 r1, c_sp κ p1, c_z κ 4 r1, c_t β q10 2 p2 r2, c_sp κ p2, c_z κ 4 r2] H := hP
  have hD : va_D A0 [(h, .inr (6, [.ref q1, .int 0, .int 0, .int 0])), (q1, .inl (κ 4, 6, .inr (.inr (.inr (.inr (va_up (va_up (fun _ => none) 0 (some q4)) 1 (some q7))))))), c_t β q4 0 p0 r0, c_sp κ p0, c_z κ 4 r0, c_t β q7 1 p1 r1, c_sp κ p1, c_z κ 4 r1, c_t β q10 2 p2 r2, c_sp κ p2, c_z κ 4 r2] := hD
  refine W.eq (g2 := F0 m 37 ls [.ref q10, .int 2, .ref q1]) rfl ?_
  refine va_astq hx hb hK hP hD hS 1 2 8 7 rfl rfl rfl rfl (by unfold vp_in; decide) dX4_init_37 (fun H locs hP hD hS => ?_)
  have hP : va_P D vwCl [(h, .inr (6, [.ref q1, .int 0, .int 0, .int 0])), (q1, .inl (κ 4, 6, .inr (.inr (.inr (.inr (va_up (va_up (va_up (fun _ => none) 0 (some q4)) 1 (some q7)) 2 (some q10))))))), c_t β q4 0 p0 r0, c_sp κ p0, c_z κ 4 r0, c_t β q7 1 p1 r1, c_sp κ p1, c_z κ 4 r1, c_t β q10 2 p2 r2, c_sp κ p2, c_z κ 4 r2] H := hP
  have hD : va_D A0 [(h, .inr (6, [.ref q1, .int 0, .int 0, .int 0])), (q1, .inl (κ 4, 6, .inr (.inr (.inr (.inr (va_up (va_up (va_up (fun _ => none) 0 (some q4)) 1 (some q7)) 2 (some q10))))))), c_t β q4 0 p0 r0, c_sp κ p0, c_z κ 4 r0, c_t β q7 1 p1 r1, c_sp κ p1, c_z κ 4 r1, c_t β q10 2 p2 r2, c_sp κ p2, c_z κ 4 r2] := hD
  refine lv_iinc hx hb dX4_init_38 hl (k := 0) rfl (by decide) (Nat.le_of_ble_eq_true rfl) (lv' := [(1, .int 3), (0, .ref h)]) rfl (fun ls hl => ?_)
  refine lv_goto hx hb dX4_init_41 (tgt := 15) (by decide) ?_
  refine lv_iload_n hx hb dX4_init_15 rfl (lv_at hl 0 rfl) ?_
  refine lv_aload_n hx hb dX4_init_16 rfl (lv_at hl 1 rfl) ?_
  refine va_get (ci := 6) (C := RX4) (T := TX4) (N := 4) hx hb hts q_u_X4 hown hK hP 0 rfl rfl 0 (by decide) (hts _ ji_fl_12) (fun _ h9 => h9) rfl dX4_init_17 ?_
  refine va_alen hx hb hK hP 1 2 rfl rfl (v := nI 6) rfl dX4_init_20 ?_
  refine lv_topi (fun x11 hx12 => ?_)
  obtain rfl : x11 = 6 := by rw [hx12]; exact (by decide +kernel)
  refine lv_icmp_ge hx hb dX4_init_21 (tgt := 44) (by decide) (fun hq9 => absurd hq9 ((by decide : ¬ (6 : Int32) ≤ 3))) (fun _ => ?_)
  refine lv_aload_n hx hb dX4_init_24 rfl (lv_at hl 1 rfl) ?_
  refine va_get (ci := 6) (C := RX4) (T := TX4) (N := 4) hx hb hts q_u_X4 hown hK hP 0 rfl rfl 0 (by decide) (hts _ ji_fl_12) (fun _ h9 => h9) rfl dX4_init_25 ?_
  refine lv_iload_n hx hb dX4_init_28 rfl (lv_at hl 0 rfl) ?_
  refine va_new (ci := 7) (fs := [.int 0, .null, .null, .null, .int 0, .int 0, .int 0, .int 0, .int 0, .int 0, .int 0, .int 0, .int 0, .int 0]) (C := RX6) (T := TX6) (N := 14) hx hb hts q_u_X6 tyX6 tyX6_ok hown (hts _ ji_cl_11) (hts _ ji_is_13) (hts _ ji_ii_14) hK hP hD hS hA rfl (fun j hj => by rcases (show j = 0 ∨ j = 1 ∨ j = 2 ∨ j = 3 ∨ j = 4 ∨ j = 5 ∨ j = 6 ∨ j = 7 ∨ j = 8 ∨ j = 9 ∨ j = 10 ∨ j = 11 ∨ j = 12 ∨ j = 13 by omega) with rfl | rfl | rfl | rfl | rfl | rfl | rfl | rfl | rfl | rfl | rfl | rfl | rfl | rfl <;> rfl) (by show 0 + 1 + 1 + 2 + 1 + 2 + 1 + 2 + 1 ≤ 19; omega) (by show 0 + 6 + 14 + 8 + 14 + 8 + 14 + 8 + 14 ≤ 138; omega) dX4_init_29 (fun q13 H hP hD hS => ?_)
  have hP : va_P D vwCl ([(h, .inr (6, [.ref q1, .int 0, .int 0, .int 0])), (q1, .inl (κ 4, 6, .inr (.inr (.inr (.inr (va_up (va_up (va_up (fun _ => none) 0 (some q4)) 1 (some q7)) 2 (some q10))))))), c_t β q4 0 p0 r0, c_sp κ p0, c_z κ 4 r0, c_t β q7 1 p1 r1, c_sp κ p1, c_z κ 4 r1, c_t β q10 2 p2 r2, c_sp κ p2, c_z κ 4 r2] ++ [(q13, .inr (7, [.int 0, .null, .null, .null, .int 0, .int 0, .int 0, .int 0, .int 0, .int 0, .int 0, .int 0, .int 0, .int 0]))]) H := hP
  have hD : va_D A0 ([(h, .inr (6, [.ref q1, .int 0, .int 0, .int 0])), (q1, .inl (κ 4, 6, .inr (.inr (.inr (.inr (va_up (va_up (va_up (fun _ => none) 0 (some q4)) 1 (some q7)) 2 (some q10))))))), c_t β q4 0 p0 r0, c_sp κ p0, c_z κ 4 r0, c_t β q7 1 p1 r1, c_sp κ p1, c_z κ 4 r1, c_t β q10 2 p2 r2, c_sp κ p2, c_z κ 4 r2] ++ [(q13, .inr (7, [.int 0, .null, .null, .null, .int 0, .int 0, .int 0, .int 0, .int 0, .int 0, .int 0, .int 0, .int 0, .int 0]))]) := hD
  refine lv_dup hx hb dX4_init_32 rfl ?_
  refine lv_iload_n hx hb dX4_init_33 rfl (lv_at hl 0 rfl) ?_
  refine W.eq (g2 := F0 m 34 ls [.int (nI 3), .ref q13, .ref q13, .int 3, .ref q1]) rfl ?_
  have hfree := c_free C0 hD hS
  refine va_callv (c_runI C0 (n := 1) (As := [.int (nI 3)]) (rest := [.ref q13, .int 3, .ref q1]) ji_ml_15 ji_in_16 ji_ii_14 ji_co_17 rfl (by decide +kernel) (c_initT (α := α) (β := β) (D := D) (κ := κ) q13 3 (by decide) l H.size) hP hD hS rfl rfl dX4_init_34 hl (Nat.le_of_ble_eq_true rfl) ⟨(Nat.le_of_ble_eq_true rfl), (Nat.le_of_ble_eq_true rfl)⟩ ⟨(by show 0 + 1 + 1 + 2 + 1 + 2 + 1 + 2 + 1 + 2 ≤ 19; omega), (by show 0 + 6 + 14 + 8 + 14 + 8 + 14 + 8 + 14 + 8 ≤ 138; omega)⟩) hS (fun q _ hq => hfree q hq) hfree (fun u t H locs ht hvm hpost hB hz hk hS => ?_)
  obtain ⟨hP1, hD1⟩ := hB
  rw [ht] at hP1
  obtain ⟨hP, hD⟩ := c_join hP hD hk hfree hP1 hD1
  obtain ⟨p3, r3⟩ := u
  have hP : va_P D vwCl [(h, .inr (6, [.ref q1, .int 0, .int 0, .int 0])), (q1, .inl (κ 4, 6, .inr (.inr (.inr (.inr (va_up (va_up (va_up (fun _ => none) 0 (some q4)) 1 (some q7)) 2 (some q10))))))), c_t β q4 0 p0 r0, c_sp κ p0, c_z κ 4 r0, c_t β q7 1 p1 r1, c_sp κ p1, c_z κ 4 r1, c_t β q10 2 p2 r2, c_sp κ p2, c_z κ 4 r2, c_t β q13 3 p3 r3, c_sp κ p3, c_z κ 4 r3] H := hP
  have hD : va_D A0 [(h, .inr (6, [.ref q1, .int 0, .int 0, .int 0])), (q1, .inl (κ 4, 6, .inr (.inr (.inr (.inr (va_up (va_up (va_up (fun _ => none) 0 (some q4)) 1 (some q7)) 2 (some q10))))))), c_t β q4 0 p0 r0, c_sp κ p0, c_z κ 4 r0, c_t β q7 1 p1 r1, c_sp κ p1, c_z κ 4 r1, c_t β q10 2 p2 r2, c_sp κ p2, c_z κ 4 r2, c_t β q13 3 p3 r3, c_sp κ p3, c_z κ 4 r3] := hD
  refine W.eq (g2 := F0 m 37 ls [.ref q13, .int 3, .ref q1]) rfl ?_
  refine va_astq hx hb hK hP hD hS 1 2 11 7 rfl rfl rfl rfl (by unfold vp_in; decide) dX4_init_37 (fun H locs hP hD hS => ?_)
  have hP : va_P D vwCl [(h, .inr (6, [.ref q1, .int 0, .int 0, .int 0])), (q1, .inl (κ 4, 6, .inr (.inr (.inr (.inr (va_up (va_up (va_up (va_up (fun _ => none) 0 (some q4)) 1 (some q7)) 2 (some q10)) 3 (some q13))))))), c_t β q4 0 p0 r0, c_sp κ p0, c_z κ 4 r0, c_t β q7 1 p1 r1, c_sp κ p1, c_z κ 4 r1, c_t β q10 2 p2 r2, c_sp κ p2, c_z κ 4 r2, c_t β q13 3 p3 r3, c_sp κ p3, c_z κ 4 r3] H := hP
  have hD : va_D A0 [(h, .inr (6, [.ref q1, .int 0, .int 0, .int 0])), (q1, .inl (κ 4, 6, .inr (.inr (.inr (.inr (va_up (va_up (va_up (va_up (fun _ => none) 0 (some q4)) 1 (some q7)) 2 (some q10)) 3 (some q13))))))), c_t β q4 0 p0 r0, c_sp κ p0, c_z κ 4 r0, c_t β q7 1 p1 r1, c_sp κ p1, c_z κ 4 r1, c_t β q10 2 p2 r2, c_sp κ p2, c_z κ 4 r2, c_t β q13 3 p3 r3, c_sp κ p3, c_z κ 4 r3] := hD
  refine lv_iinc hx hb dX4_init_38 hl (k := 0) rfl (by decide) (Nat.le_of_ble_eq_true rfl) (lv' := [(1, .int 4), (0, .ref h)]) rfl (fun ls hl => ?_)
  refine lv_goto hx hb dX4_init_41 (tgt := 15) (by decide) ?_
  refine lv_iload_n hx hb dX4_init_15 rfl (lv_at hl 0 rfl) ?_
  refine lv_aload_n hx hb dX4_init_16 rfl (lv_at hl 1 rfl) ?_
  refine va_get (ci := 6) (C := RX4) (T := TX4) (N := 4) hx hb hts q_u_X4 hown hK hP 0 rfl rfl 0 (by decide) (hts _ ji_fl_12) (fun _ h9 => h9) rfl dX4_init_17 ?_
  refine va_alen hx hb hK hP 1 2 rfl rfl (v := nI 6) rfl dX4_init_20 ?_
  refine lv_topi (fun x14 hx15 => ?_)
  obtain rfl : x14 = 6 := by rw [hx15]; exact (by decide +kernel)
  refine lv_icmp_ge hx hb dX4_init_21 (tgt := 44) (by decide) (fun hq9 => absurd hq9 ((by decide : ¬ (6 : Int32) ≤ 4))) (fun _ => ?_)
  refine lv_aload_n hx hb dX4_init_24 rfl (lv_at hl 1 rfl) ?_
  refine va_get (ci := 6) (C := RX4) (T := TX4) (N := 4) hx hb hts q_u_X4 hown hK hP 0 rfl rfl 0 (by decide) (hts _ ji_fl_12) (fun _ h9 => h9) rfl dX4_init_25 ?_
  refine lv_iload_n hx hb dX4_init_28 rfl (lv_at hl 0 rfl) ?_
  refine va_new (ci := 7) (fs := [.int 0, .null, .null, .null, .int 0, .int 0, .int 0, .int 0, .int 0, .int 0, .int 0, .int 0, .int 0, .int 0]) (C := RX6) (T := TX6) (N := 14) hx hb hts q_u_X6 tyX6 tyX6_ok hown (hts _ ji_cl_11) (hts _ ji_is_13) (hts _ ji_ii_14) hK hP hD hS hA rfl (fun j hj => by rcases (show j = 0 ∨ j = 1 ∨ j = 2 ∨ j = 3 ∨ j = 4 ∨ j = 5 ∨ j = 6 ∨ j = 7 ∨ j = 8 ∨ j = 9 ∨ j = 10 ∨ j = 11 ∨ j = 12 ∨ j = 13 by omega) with rfl | rfl | rfl | rfl | rfl | rfl | rfl | rfl | rfl | rfl | rfl | rfl | rfl | rfl <;> rfl) (by show 0 + 1 + 1 + 2 + 1 + 2 + 1 + 2 + 1 + 2 + 1 ≤ 19; omega) (by show 0 + 6 + 14 + 8 + 14 + 8 + 14 + 8 + 14 + 8 + 14 ≤ 138; omega) dX4_init_29 (fun q16 H hP hD hS => ?_)
  have hP : va_P D vwCl ([(h, .inr (6, [.ref q1, .int 0, .int 0, .int 0])), (q1, .inl (κ 4, 6, .inr (.inr (.inr (.inr (va_up (va_up (va_up (va_up (fun _ => none) 0 (some q4)) 1 (some q7)) 2 (some q10)) 3 (some q13))))))), c_t β q4 0 p0 r0, c_sp κ p0, c_z κ 4 r0, c_t β q7 1 p1 r1, c_sp κ p1, c_z κ 4 r1, c_t β q10 2 p2 r2, c_sp κ p2, c_z κ 4 r2, c_t β q13 3 p3 r3, c_sp κ p3, c_z κ 4 r3] ++ [(q16, .inr (7, [.int 0, .null, .null, .null, .int 0, .int 0, .int 0, .int 0, .int 0, .int 0, .int 0, .int 0, .int 0, .int 0]))]) H := hP
  have hD : va_D A0 ([(h, .inr (6, [.ref q1, .int 0, .int 0, .int 0])), (q1, .inl (κ 4, 6, .inr (.inr (.inr (.inr (va_up (va_up (va_up (va_up (fun _ => none) 0 (some q4)) 1 (some q7)) 2 (some q10)) 3 (some q13))))))), c_t β q4 0 p0 r0, c_sp κ p0, c_z κ 4 r0, c_t β q7 1 p1 r1, c_sp κ p1, c_z κ 4 r1, c_t β q10 2 p2 r2, c_sp κ p2, c_z κ 4 r2, c_t β q13 3 p3 r3, c_sp κ p3, c_z κ 4 r3] ++ [(q16, .inr (7, [.int 0, .null, .null, .null, .int 0, .int 0, .int 0, .int 0, .int 0, .int 0, .int 0, .int 0, .int 0, .int 0]))]) := hD
  refine lv_dup hx hb dX4_init_32 rfl ?_
  refine lv_iload_n hx hb dX4_init_33 rfl (lv_at hl 0 rfl) ?_
  refine W.eq (g2 := F0 m 34 ls [.int (nI 4), .ref q16, .ref q16, .int 4, .ref q1]) rfl ?_
  have hfree := c_free C0 hD hS
  refine va_callv (c_runI C0 (n := 1) (As := [.int (nI 4)]) (rest := [.ref q16, .int 4, .ref q1]) ji_ml_15 ji_in_16 ji_ii_14 ji_co_17 rfl (by decide +kernel) (c_initT (α := α) (β := β) (D := D) (κ := κ) q16 4 (by decide) l H.size) hP hD hS rfl rfl dX4_init_34 hl (Nat.le_of_ble_eq_true rfl) ⟨(Nat.le_of_ble_eq_true rfl), (Nat.le_of_ble_eq_true rfl)⟩ ⟨(by show 0 + 1 + 1 + 2 + 1 + 2 + 1 + 2 + 1 + 2 + 1 + 2 ≤ 19; omega), (by show 0 + 6 + 14 + 8 + 14 + 8 + 14 + 8 + 14 + 8 + 14 + 8 ≤ 138; omega)⟩) hS (fun q _ hq => hfree q hq) hfree (fun u t H locs ht hvm hpost hB hz hk hS => ?_)
  obtain ⟨hP1, hD1⟩ := hB
  rw [ht] at hP1
  obtain ⟨hP, hD⟩ := c_join hP hD hk hfree hP1 hD1
  obtain ⟨p4, r4⟩ := u
  have hP : va_P D vwCl [(h, .inr (6, [.ref q1, .int 0, .int 0, .int 0])), (q1, .inl (κ 4, 6, .inr (.inr (.inr (.inr (va_up (va_up (va_up (va_up (fun _ => none) 0 (some q4)) 1 (some q7)) 2 (some q10)) 3 (some q13))))))), c_t β q4 0 p0 r0, c_sp κ p0, c_z κ 4 r0, c_t β q7 1 p1 r1, c_sp κ p1, c_z κ 4 r1, c_t β q10 2 p2 r2, c_sp κ p2, c_z κ 4 r2, c_t β q13 3 p3 r3, c_sp κ p3, c_z κ 4 r3, c_t β q16 4 p4 r4, c_sp κ p4, c_z κ 4 r4] H := hP
  have hD : va_D A0 [(h, .inr (6, [.ref q1, .int 0, .int 0, .int 0])), (q1, .inl (κ 4, 6, .inr (.inr (.inr (.inr (va_up (va_up (va_up (va_up (fun _ => none) 0 (some q4)) 1 (some q7)) 2 (some q10)) 3 (some q13))))))), c_t β q4 0 p0 r0, c_sp κ p0, c_z κ 4 r0, c_t β q7 1 p1 r1, c_sp κ p1, c_z κ 4 r1, c_t β q10 2 p2 r2, c_sp κ p2, c_z κ 4 r2, c_t β q13 3 p3 r3, c_sp κ p3, c_z κ 4 r3, c_t β q16 4 p4 r4, c_sp κ p4, c_z κ 4 r4] := hD
  refine W.eq (g2 := F0 m 37 ls [.ref q16, .int 4, .ref q1]) rfl ?_
  refine va_astq hx hb hK hP hD hS 1 2 14 7 rfl rfl rfl rfl (by unfold vp_in; decide) dX4_init_37 (fun H locs hP hD hS => ?_)
  have hP : va_P D vwCl [(h, .inr (6, [.ref q1, .int 0, .int 0, .int 0])), (q1, .inl (κ 4, 6, .inr (.inr (.inr (.inr (va_up (va_up (va_up (va_up (va_up (fun _ => none) 0 (some q4)) 1 (some q7)) 2 (some q10)) 3 (some q13)) 4 (some q16))))))), c_t β q4 0 p0 r0, c_sp κ p0, c_z κ 4 r0, c_t β q7 1 p1 r1, c_sp κ p1, c_z κ 4 r1, c_t β q10 2 p2 r2, c_sp κ p2, c_z κ 4 r2, c_t β q13 3 p3 r3, c_sp κ p3, c_z κ 4 r3, c_t β q16 4 p4 r4, c_sp κ p4, c_z κ 4 r4] H := hP
  have hD : va_D A0 [(h, .inr (6, [.ref q1, .int 0, .int 0, .int 0])), (q1, .inl (κ 4, 6, .inr (.inr (.inr (.inr (va_up (va_up (va_up (va_up (va_up (fun _ => none) 0 (some q4)) 1 (some q7)) 2 (some q10)) 3 (some q13)) 4 (some q16))))))), c_t β q4 0 p0 r0, c_sp κ p0, c_z κ 4 r0, c_t β q7 1 p1 r1, c_sp κ p1, c_z κ 4 r1, c_t β q10 2 p2 r2, c_sp κ p2, c_z κ 4 r2, c_t β q13 3 p3 r3, c_sp κ p3, c_z κ 4 r3, c_t β q16 4 p4 r4, c_sp κ p4, c_z κ 4 r4] := hD
  refine lv_iinc hx hb dX4_init_38 hl (k := 0) rfl (by decide) (Nat.le_of_ble_eq_true rfl) (lv' := [(1, .int 5), (0, .ref h)]) rfl (fun ls hl => ?_)
  refine lv_goto hx hb dX4_init_41 (tgt := 15) (by decide) ?_
  refine lv_iload_n hx hb dX4_init_15 rfl (lv_at hl 0 rfl) ?_
  refine lv_aload_n hx hb dX4_init_16 rfl (lv_at hl 1 rfl) ?_
  refine va_get (ci := 6) (C := RX4) (T := TX4) (N := 4) hx hb hts q_u_X4 hown hK hP 0 rfl rfl 0 (by decide) (hts _ ji_fl_12) (fun _ h9 => h9) rfl dX4_init_17 ?_
  refine va_alen hx hb hK hP 1 2 rfl rfl (v := nI 6) rfl dX4_init_20 ?_
  refine lv_topi (fun x17 hx18 => ?_)
  obtain rfl : x17 = 6 := by rw [hx18]; exact (by decide +kernel)
  refine lv_icmp_ge hx hb dX4_init_21 (tgt := 44) (by decide) (fun hq9 => absurd hq9 ((by decide : ¬ (6 : Int32) ≤ 5))) (fun _ => ?_)
  refine lv_aload_n hx hb dX4_init_24 rfl (lv_at hl 1 rfl) ?_
  refine va_get (ci := 6) (C := RX4) (T := TX4) (N := 4) hx hb hts q_u_X4 hown hK hP 0 rfl rfl 0 (by decide) (hts _ ji_fl_12) (fun _ h9 => h9) rfl dX4_init_25 ?_
  refine lv_iload_n hx hb dX4_init_28 rfl (lv_at hl 0 rfl) ?_
  refine va_new (ci := 7) (fs := [.int 0, .null, .null, .null, .int 0, .int 0, .int 0, .int 0, .int 0, .int 0, .int 0, .int 0, .int 0, .int 0]) (C := RX6) (T := TX6) (N := 14) hx hb hts q_u_X6 tyX6 tyX6_ok hown (hts _ ji_cl_11) (hts _ ji_is_13) (hts _ ji_ii_14) hK hP hD hS hA rfl (fun j hj => by rcases (show j = 0 ∨ j = 1 ∨ j = 2 ∨ j = 3 ∨ j = 4 ∨ j = 5 ∨ j = 6 ∨ j = 7 ∨ j = 8 ∨ j = 9 ∨ j = 10 ∨ j = 11 ∨ j = 12 ∨ j = 13 by omega) with rfl | rfl | rfl | rfl | rfl | rfl | rfl | rfl | rfl | rfl | rfl | rfl | rfl | rfl <;> rfl) (by show 0 + 1 + 1 + 2 + 1 + 2 + 1 + 2 + 1 + 2 + 1 + 2 + 1 ≤ 19; omega) (by show 0 + 6 + 14 + 8 + 14 + 8 + 14 + 8 + 14 + 8 + 14 + 8 + 14 ≤ 138; omega) dX4_init_29 (fun q19 H hP hD hS => ?_)
  have hP : va_P D vwCl ([(h, .inr (6, [.ref q1, .int 0, .int 0, .int 0])), (q1, .inl (κ 4, 6, .inr (.inr (.inr (.inr (va_up (va_up (va_up (va_up (va_up (fun _ => none) 0 (some q4)) 1 (some q7)) 2 (some q10)) 3 (some q13)) 4 (some q16))))))), c_t β q4 0 p0 r0, c_sp κ p0, c_z κ 4 r0, c_t β q7 1 p1 r1, c_sp κ p1, c_z κ 4 r1, c_t β q10 2 p2 r2, c_sp κ p2, c_z κ 4 r2, c_t β q13 3 p3 r3, c_sp κ p3, c_z κ 4 r3, c_t β q16 4 p4 r4, c_sp κ p4, c_z κ 4 r4] ++ [(q19, .inr (7, [.int 0, .null, .null, .null, .int 0, .int 0, .int 0, .int 0, .int 0, .int 0, .int 0, .int 0, .int 0, .int 0]))]) H := hP
  have hD : va_D A0 ([(h, .inr (6, [.ref q1, .int 0, .int 0, .int 0])), (q1, .inl (κ 4, 6, .inr (.inr (.inr (.inr (va_up (va_up (va_up (va_up (va_up (fun _ => none) 0 (some q4)) 1 (some q7)) 2 (some q10)) 3 (some q13)) 4 (some q16))))))), c_t β q4 0 p0 r0, c_sp κ p0, c_z κ 4 r0, c_t β q7 1 p1 r1, c_sp κ p1, c_z κ 4 r1, c_t β q10 2 p2 r2, c_sp κ p2, c_z κ 4 r2, c_t β q13 3 p3 r3, c_sp κ p3, c_z κ 4 r3, c_t β q16 4 p4 r4, c_sp κ p4, c_z κ 4 r4] ++ [(q19, .inr (7, [.int 0, .null, .null, .null, .int 0, .int 0, .int 0, .int 0, .int 0, .int 0, .int 0, .int 0, .int 0, .int 0]))]) := hD
  refine lv_dup hx hb dX4_init_32 rfl ?_
  refine lv_iload_n hx hb dX4_init_33 rfl (lv_at hl 0 rfl) ?_
  refine W.eq (g2 := F0 m 34 ls [.int (nI 5), .ref q19, .ref q19, .int 5, .ref q1]) rfl ?_
  have hfree := c_free C0 hD hS
  refine va_callv (c_runI C0 (n := 1) (As := [.int (nI 5)]) (rest := [.ref q19, .int 5, .ref q1]) ji_ml_15 ji_in_16 ji_ii_14 ji_co_17 rfl (by decide +kernel) (c_initT (α := α) (β := β) (D := D) (κ := κ) q19 5 (by decide) l H.size) hP hD hS rfl rfl dX4_init_34 hl (Nat.le_of_ble_eq_true rfl) ⟨(Nat.le_of_ble_eq_true rfl), (Nat.le_of_ble_eq_true rfl)⟩ ⟨(by show 0 + 1 + 1 + 2 + 1 + 2 + 1 + 2 + 1 + 2 + 1 + 2 + 1 + 2 ≤ 19; omega), (by show 0 + 6 + 14 + 8 + 14 + 8 + 14 + 8 + 14 + 8 + 14 + 8 + 14 + 8 ≤ 138; omega)⟩) hS (fun q _ hq => hfree q hq) hfree (fun u t H locs ht hvm hpost hB hz hk hS => ?_)
  obtain ⟨hP1, hD1⟩ := hB
  rw [ht] at hP1
  obtain ⟨hP, hD⟩ := c_join hP hD hk hfree hP1 hD1
  obtain ⟨p5, r5⟩ := u
  have hP : va_P D vwCl [(h, .inr (6, [.ref q1, .int 0, .int 0, .int 0])), (q1, .inl (κ 4, 6, .inr (.inr (.inr (.inr (va_up (va_up (va_up (va_up (va_up (fun _ => none) 0 (some q4)) 1 (some q7)) 2 (some q10)) 3 (some q13)) 4 (some q16))))))), c_t β q4 0 p0 r0, c_sp κ p0, c_z κ 4 r0, c_t β q7 1 p1 r1, c_sp κ p1, c_z κ 4 r1, c_t β q10 2 p2 r2, c_sp κ p2, c_z κ 4 r2, c_t β q13 3 p3 r3, c_sp κ p3, c_z κ 4 r3, c_t β q16 4 p4 r4, c_sp κ p4, c_z κ 4 r4, c_t β q19 5 p5 r5, c_sp κ p5, c_z κ 4 r5] H := hP
  have hD : va_D A0 [(h, .inr (6, [.ref q1, .int 0, .int 0, .int 0])), (q1, .inl (κ 4, 6, .inr (.inr (.inr (.inr (va_up (va_up (va_up (va_up (va_up (fun _ => none) 0 (some q4)) 1 (some q7)) 2 (some q10)) 3 (some q13)) 4 (some q16))))))), c_t β q4 0 p0 r0, c_sp κ p0, c_z κ 4 r0, c_t β q7 1 p1 r1, c_sp κ p1, c_z κ 4 r1, c_t β q10 2 p2 r2, c_sp κ p2, c_z κ 4 r2, c_t β q13 3 p3 r3, c_sp κ p3, c_z κ 4 r3, c_t β q16 4 p4 r4, c_sp κ p4, c_z κ 4 r4, c_t β q19 5 p5 r5, c_sp κ p5, c_z κ 4 r5] := hD
  refine W.eq (g2 := F0 m 37 ls [.ref q19, .int 5, .ref q1]) rfl ?_
  refine va_astq hx hb hK hP hD hS 1 2 17 7 rfl rfl rfl rfl (by unfold vp_in; decide) dX4_init_37 (fun H locs hP hD hS => ?_)
  have hP : va_P D vwCl [(h, .inr (6, [.ref q1, .int 0, .int 0, .int 0])), (q1, .inl (κ 4, 6, .inr (.inr (.inr (.inr (va_up (va_up (va_up (va_up (va_up (va_up (fun _ => none) 0 (some q4)) 1 (some q7)) 2 (some q10)) 3 (some q13)) 4 (some q16)) 5 (some q19))))))), c_t β q4 0 p0 r0, c_sp κ p0, c_z κ 4 r0, c_t β q7 1 p1 r1, c_sp κ p1, c_z κ 4 r1, c_t β q10 2 p2 r2, c_sp κ p2, c_z κ 4 r2, c_t β q13 3 p3 r3, c_sp κ p3, c_z κ 4 r3, c_t β q16 4 p4 r4, c_sp κ p4, c_z κ 4 r4, c_t β q19 5 p5 r5, c_sp κ p5, c_z κ 4 r5] H := hP
  have hD : va_D A0 [(h, .inr (6, [.ref q1, .int 0, .int 0, .int 0])), (q1, .inl (κ 4, 6, .inr (.inr (.inr (.inr (va_up (va_up (va_up (va_up (va_up (va_up (fun _ => none) 0 (some q4)) 1 (some q7)) 2 (some q10)) 3 (some q13)) 4 (some q16)) 5 (some q19))))))), c_t β q4 0 p0 r0, c_sp κ p0, c_z κ 4 r0, c_t β q7 1 p1 r1, c_sp κ p1, c_z κ 4 r1, c_t β q10 2 p2 r2, c_sp κ p2, c_z κ 4 r2, c_t β q13 3 p3 r3, c_sp κ p3, c_z κ 4 r3, c_t β q16 4 p4 r4, c_sp κ p4, c_z κ 4 r4, c_t β q19 5 p5 r5, c_sp κ p5, c_z κ 4 r5] := hD
  refine lv_iinc hx hb dX4_init_38 hl (k := 0) rfl (by decide) (Nat.le_of_ble_eq_true rfl) (lv' := [(1, .int 6), (0, .ref h)]) rfl (fun ls hl => ?_)
  refine lv_goto hx hb dX4_init_41 (tgt := 15) (by decide) ?_
  refine lv_iload_n hx hb dX4_init_15 rfl (lv_at hl 0 rfl) ?_
  refine lv_aload_n hx hb dX4_init_16 rfl (lv_at hl 1 rfl) ?_
  refine va_get (ci := 6) (C := RX4) (T := TX4) (N := 4) hx hb hts q_u_X4 hown hK hP 0 rfl rfl 0 (by decide) (hts _ ji_fl_12) (fun _ h9 => h9) rfl dX4_init_17 ?_
  refine va_alen hx hb hK hP 1 2 rfl rfl (v := nI 6) rfl dX4_init_20 ?_
  refine lv_topi (fun x20 hx21 => ?_)
  obtain rfl : x20 = 6 := by rw [hx21]; exact (by decide +kernel)
  refine lv_icmp_ge hx hb dX4_init_21 (tgt := 44) (by decide) (fun _ => ?_) (fun hq9 => absurd ((by decide : (6 : Int32) ≤ 6)) hq9)
  refine lv_aload_n hx hb dX4_init_44 rfl (lv_at hl 1 rfl) ?_
  refine lv_sipush hx hb dX4_init_45 (by decide : (Int16.ofInt 1000).toInt32 = 1000) ?_
  refine va_put (ty := .int) (ci := 6) (C := RX4) (T := TX4) (N := 4) hx hb hts q_u_X4 tyX4 tyX4_ok nmX4 hown hK hP hD hS 0 rfl rfl 3 (by decide) (hts _ ji_fl_18) (fun _ h9 => h9) rfl (by decide +kernel) rfl rfl (Nat.le_of_ble_eq_true rfl) dX4_init_48 (fun H locs hP hD hS => ?_)
  have hP : va_P D vwCl [(h, .inr (6, [.ref q1, .int 0, .int 0, .int 1000])), (q1, .inl (κ 4, 6, .inr (.inr (.inr (.inr (va_up (va_up (va_up (va_up (va_up (va_up (fun _ => none) 0 (some q4)) 1 (some q7)) 2 (some q10)) 3 (some q13)) 4 (some q16)) 5 (some q19))))))), c_t β q4 0 p0 r0, c_sp κ p0, c_z κ 4 r0, c_t β q7 1 p1 r1, c_sp κ p1, c_z κ 4 r1, c_t β q10 2 p2 r2, c_sp κ p2, c_z κ 4 r2, c_t β q13 3 p3 r3, c_sp κ p3, c_z κ 4 r3, c_t β q16 4 p4 r4, c_sp κ p4, c_z κ 4 r4, c_t β q19 5 p5 r5, c_sp κ p5, c_z κ 4 r5] H := hP
  have hD : va_D A0 [(h, .inr (6, [.ref q1, .int 0, .int 0, .int 1000])), (q1, .inl (κ 4, 6, .inr (.inr (.inr (.inr (va_up (va_up (va_up (va_up (va_up (va_up (fun _ => none) 0 (some q4)) 1 (some q7)) 2 (some q10)) 3 (some q13)) 4 (some q16)) 5 (some q19))))))), c_t β q4 0 p0 r0, c_sp κ p0, c_z κ 4 r0, c_t β q7 1 p1 r1, c_sp κ p1, c_z κ 4 r1, c_t β q10 2 p2 r2, c_sp κ p2, c_z κ 4 r2, c_t β q13 3 p3 r3, c_sp κ p3, c_z κ 4 r3, c_t β q16 4 p4 r4, c_sp κ p4, c_z κ 4 r4, c_t β q19 5 p5 r5, c_sp κ p5, c_z κ 4 r5] := hD
  have hP := c_fix (w1 := [(h, .inr (6, [.ref q1, .int 0, .int 0, .int 1000]))]) (q2 := (q1, .inl (κ 4, 6, .inr (.inr (.inr (.inr (fun i => some ((fun o => ([h, q1, q4, p0, r0, q7, p1, r1, q10, p2, r2, q13, p3, r3, q16, p4, r4, q19, p5, r5] : List Nat).getD o 0) (2 + 3 * i))))))))) (c_atq (fun j hj => by rcases (show j = 0 ∨ j = 1 ∨ j = 2 ∨ j = 3 ∨ j = 4 ∨ j = 5 by omega) with rfl | rfl | rfl | rfl | rfl | rfl <;> rfl)) hP
  have hP : va_P D vwCl (c_rb β κ (fun o => ([h, q1, q4, p0, r0, q7, p1, r1, q10, p2, r2, q13, p3, r3, q16, p4, r4, q19, p5, r5] : List Nat).getD o 0)) H := hP
  have hD := c_fixD (ws2 := c_rb β κ (fun o => ([h, q1, q4, p0, r0, q7, p1, r1, q10, p2, r2, q13, p3, r3, q16, p4, r4, q19, p5, r5] : List Nat).getD o 0)) hD rfl
  refine W.widen (k := 19) (n := 138) (by show 0 + 1 + 1 + 2 + 1 + 2 + 1 + 2 + 1 + 2 + 1 + 2 + 1 + 2 ≤ 19; omega) (by show 0 + 6 + 14 + 8 + 14 + 8 + 14 + 8 + 14 + 8 + 14 + 8 + 14 + 8 ≤ 138; omega) ?_
  exact W.vret hx hb hr (fun t ht hW => ⟨⟨(fun o => ([h, q1, q4, p0, r0, q7, p1, r1, q10, p2, r2, q13, p3, r3, q16, p4, r4, q19, p5, r5] : List Nat).getD o 0), rfl, rfl, by rw [ht]; exact hP, hD⟩, hS.F ht⟩) hS.2.2 dX4_init_51 hlocks
