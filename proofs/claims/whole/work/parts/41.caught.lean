/-! The law's forty helpers: the class called, what it throws caught. -/
def q_CW (α β : Nat → Nat) (D : va_G) (κ : Nat → ClassId) (y : MethodName) (cc : ByteArray) (maxL : Nat) (ret : Option FieldType) (hh : List (Nat × Nat × Nat × Nat)) (fr lo mc ms : Nat) (vs : List Value) (σ : q_M) (v : Option Value) (σ' : q_M) : Prop :=
  ∀ l : Launch, l.flags = flags0 → ∀ (Y : q_H) (sz : Nat), Met l y (Cond.codeWith y cc maxL ret hh :: q_W) ({ frames := fr, cells := mc, slots := ms, locals := lo } : Room) (q_Pc α β D κ vs σ Y sz) (q_Qc α β D κ (q_A α Y sz) (.inl v) σ') mc ms (q_A α Y sz)
def q_code : List String → String → Int32
  | [], _ => 0
  | n :: t, E => if E = n then 1 else 1 + q_code t E
theorem Fok_L : q_Fok RL (fun _ => none) := fun i a b h => by cases h
theorem Gok_L : q_Gok RL (fun _ => none) := fun i x h => by cases h
section q41
variable {α β : Nat → Nat} {D : va_G} {κ : Nat → ClassId} {p : Program} {l : Launch} {e : Env} {R : Room} {s : State} {m : MethodId} {args : Array Value} {below : List Frame} {meth : Method} {c : Code} {cc : ByteArray} {own : String} {F : Nat → Option (Nat × Nat)} {G : Nat → Option Int32} {nL : Nat} {A : Nat → Prop} {Q : State → Prop} {n1 n2 : Nat}
variable {y : MethodName} {ret : Option FieldType} {hh : List (Nat × Nat × Nat × Nat)} {fr lo mc ms : Nat} {vs : List Value} {σ σ' : q_M} {v : Option Value} {pc : Nat} {lv : q_Lv} {rest : List Value}
theorem q_enterW (hy : plainName y.cls = true) (ho : y.cls = own) (hF : q_Fok own F) (hG : q_Gok own G) (hlen : (lg_sl (vs.map (q_cv α β))).length ≤ nL)
    (body : ∀ (p : Program) (l : Launch) (e : Env) (s : State) (m : MethodId) (args : Array Value) (below : List Frame) (meth : Method) (c : Code) (A : Nat → Prop), l.flags = flags0 → q_Cx α β D κ p s m args meth c cc own F G nL A → meth.sig.returnType = ret → c.exceptionTable.toList = tableOf hh →
      q_St α β D κ p l e ({ frames := fr, cells := mc, slots := ms, locals := lo } : Room) s m args below meth c nL A (vx_MQ below (q_Qc α β D κ A (.inl v) σ') (q_XC α β D κ A (.inl v) σ') args s mc ms A) 0 0 σ (lv_args 0 vs) 0 []) :
    q_CW α β D κ y cc nL ret hh fr lo mc ms vs σ v σ' := by
  intro l hfl Y sz
  have hv : vx_Met l y (Cond.codeWith y cc nL ret hh :: q_W) ({ frames := fr, cells := mc, slots := ms, locals := lo } : Room) (q_Pc α β D κ vs σ Y sz) (q_Qc α β D κ (q_A α Y sz) (.inl v) σ') (q_XC α β D κ (q_A α Y sz) (.inl v) σ') mc ms (q_A α Y sz) := by
    refine vx_ofWH (cc := cc) (maxL := nL) (ret := ret) (hh := hh) hy rfl ?_
    intro p e s m args below meth c s₁ B hml hv
    obtain ⟨rfl, hsz, hY, hP, hD, hK, hE⟩ := hv
    subst hsz
    have hts := atoms_spec (ws := Cond.codeWith y cc nL ret hh :: q_W) B.pre
    have hown : s.vm.findClass own = some m.cls := ho ▸ findClass_of_methodNamed B.named
    have hl := lv_entry (vs.map (q_cv α β)) (n := nL) hlen
    rw [lg_entry_eq]
    generalize (lg_sl (vs.map (q_cv α β)) ++ List.replicate (nL - (lg_sl (vs.map (q_cv α β))).length) Slot.unset).toArray = ls at hl ⊢
    rw [q_args_map] at hl
    exact body p l e s m _ below meth c (q_A α Y s.heap.size) hfl ⟨B.exec, B.bytes, hml, hown, fun w h => hts w (List.mem_cons_of_mem _ h), hK, hE, fun q h => Or.inr h, B.notSynchronized, hF, hG⟩ B.returns (vx_table (x := y) B (hts _ List.mem_cons_self)) Y s.heap [] ls hY hP hD va_S.rf hl
  intro p e ha hc hk s m args below hf happ hP hK
  obtain ⟨n, o, h1, h2, h3, h4⟩ := hv p e ha hc hk s m args below hf happ hP hK
  refine ⟨n, o, h1, h2, h3, ?_⟩
  rcases h4 with ⟨h5, h6⟩ | ⟨q, -, E, ce, L, ⟨hx, -⟩, -⟩
  · exact ⟨h5, h6⟩
  · cases hx
theorem q_ldel_has {α β : Nat → Nat} {ls : Array Slot} {nL : Nat} {l : q_Lv} {i : Nat} {w : Value} (h : lv_has ls nL ((i, w) :: (q_lm α β l).filter (fun q => !(q.1 == i) && !(q.1 + 1 == i && q.2.category == 2)))) : lv_has ls nL (q_lm α β (q_ldel l i)) := by
  refine q_has_sub h (fun q hq => ?_)
  obtain ⟨z, hz, rfl⟩ := List.mem_map.mp hq
  obtain ⟨a, b, c⟩ := q_ldel_in hz
  refine List.mem_cons_of_mem _ (List.mem_filter.mpr ⟨List.mem_map.mpr ⟨z, a, rfl⟩, ?_⟩)
  simp only [q_cat]
  have h1 : (z.1 == i) = false := by simpa using b
  rw [h1]
  simp only [Bool.not_false, Bool.true_and, Bool.not_eq_true', Bool.and_eq_false_iff, beq_eq_false_iff_ne, ne_eq]
  by_cases e : z.1 + 1 = i
  · exact Or.inr (fun q => c ⟨e, q⟩)
  · exact Or.inl e
theorem q_last (C : q_Cx α β D κ p s m args meth c cc own F G nL A) {x : Int32} (hd : decode cc pc = .ok (.lastore, 1)) (kk : q_St α β D κ p l e R s m args below meth c nL A Q n1 n2 (q_up σ 237 0 x) lv (pc + 1) rest) : q_St α β D κ p l e R s m args below meth c nL A Q n1 n2 σ lv pc (.long x.toInt64 :: .int 0 :: .ref 237 :: rest) := by
  obtain ⟨hx, hb, hml, hown, hts, hK, hE, hA, hlk, hF, hG⟩ := C
  intro Y H locs ls hY hP hD hS hl
  refine va_last hx hb hK hP hD hS 237 2 (q_at_l rfl) rfl (by unfold vp_in; decide) hd (fun H1 locs1 hP1 hD1 hS1 => ?_)
  have e : (q_ws α β κ Y σ).set 237 (α 237, .inl (κ 2, 1, .inr (.inl (vp_updL (fun j => (σ 237 j).toInt64) (0 : Int32).toNatClampNeg x.toInt64)))) = q_ws α β κ Y (q_up σ 237 0 x) := by
    have h9 := q_ws_set (α := α) (β := β) (κ := κ) (Y := Y) (σ := σ) (k := 237) (j := 0) (v := x) (by decide) rfl
    rw [q_ad_of (α := α) (Y := Y) (show q_kd 237 = 21 from rfl) (by decide), q_pc_l rfl] at h9
    rw [← h9]
    have e2 : vp_updL (fun j => (σ 237 j).toInt64) (0 : Int32).toNatClampNeg x.toInt64 = (fun j => (upd (σ 237) 0 x j).toInt64) := by
      funext j
      show (if j = 0 then x.toInt64 else (σ 237 j).toInt64) = ((if j = 0 then x else σ 237 j) : Int32).toInt64
      split <;> rfl
    rw [e2]
  rw [e] at hP1 hD1
  exact kk Y H1 locs1 ls (hY.up (Or.inr (by decide))) hP1 hD1 hS1 hl
def q_lo (r : UInt64) : Int32 := ⟨r.toUInt32⟩
def q_hi (r : UInt64) : Int32 := ⟨(r >>> 32).toUInt32⟩
def q_up2 (σ : q_M) (r : UInt64) : q_M := q_up (q_up σ 238 0 (q_lo r)) 238 1 (q_hi r)
theorem q_dv_up (σ : q_M) (r : UInt64) : q_dv (q_up2 σ r 238) = r := by
  have h1 : q_up2 σ r 238 1 = q_hi r := q_up_eq _ _ _ _
  have h0 : q_up2 σ r 238 0 = q_lo r := by unfold q_up2; rw [q_up_nj (by decide), q_up_eq]
  unfold q_dv
  rw [h1, h0]
  show ((r >>> 32).toUInt32.toUInt64 <<< 32) ||| r.toUInt32.toUInt64 = r
  apply UInt64.toNat_inj.mp
  have hr := r.toNat_lt
  rw [UInt64.toNat_or, UInt64.toNat_shiftLeft]
  simp only [UInt32.toNat_toUInt64, UInt64.toNat_toUInt32, UInt64.toNat_shiftRight]
  have e : (32 : UInt64).toNat % 64 = 32 := by decide
  rw [e, Nat.shiftRight_eq_div_pow, Nat.shiftLeft_eq]
  have h2 : r.toNat / 2 ^ 32 < 2 ^ 32 := by omega
  rw [Nat.mod_eq_of_lt h2, Nat.mod_eq_of_lt (show r.toNat / 2 ^ 32 * 2 ^ 32 < 2 ^ 64 by omega), ← Nat.shiftLeft_eq, ← Nat.shiftLeft_add_eq_or_of_lt (Nat.mod_lt _ (by decide)), Nat.shiftLeft_eq]
  omega
theorem q_dast (C : q_Cx α β D κ p s m args meth c cc own F G nL A) {x : UInt64} (hd : decode cc pc = .ok (.dastore, 1)) (kk : q_St α β D κ p l e R s m args below meth c nL A Q n1 n2 (q_up2 σ x) lv (pc + 1) rest) : q_St α β D κ p l e R s m args below meth c nL A Q n1 n2 σ lv pc (.double x :: .int 0 :: .ref 238 :: rest) := by
  obtain ⟨hx, hb, hml, hown, hts, hK, hE, hA, hlk, hF, hG⟩ := C
  intro Y H locs ls hY hP hD hS hl
  refine va_dast hx hb hK hP hD hS 238 3 (q_at_d rfl) rfl (by unfold vp_in; decide) hd (fun H1 locs1 hP1 hD1 hS1 => ?_)
  have e : q_ws α β κ Y (q_up2 σ x) = (q_ws α β κ Y σ).set 238 (α 238, .inl (κ 3, 1, .inr (.inr (.inr (.inl (fun _ => x)))))) := by
    unfold q_up2
    have h1 := q_ws_set (α := α) (β := β) (κ := κ) (Y := Y) (σ := σ) (k := 238) (j := 0) (v := q_lo x) (by decide) rfl
    have h2 := q_ws_set (α := α) (β := β) (κ := κ) (Y := Y) (σ := q_up σ 238 0 (q_lo x)) (k := 238) (j := 1) (v := q_hi x) (by decide) rfl
    rw [← h2, ← h1, List.set_set, q_ad_of (α := α) (Y := Y) (show q_kd 238 = 23 from rfl) (by decide), q_pc_d rfl]
    have e3 : upd (q_up σ 238 0 (q_lo x) 238) 1 (q_hi x) = q_up2 σ x 238 := (q_up_row (σ := q_up σ 238 0 (q_lo x))).symm
    rw [e3, q_dv_up]
  have fx : ∀ (H9 : Heap), va_P D vwCl ((q_ws α β κ Y σ).set 238 (α 238, .inl (κ 3, 1, .inr (.inr (.inr (.inl (vf_upd (fun _ => q_dv (σ 238)) (0 : Int32).toNatClampNeg x))))))) H9 → va_P D vwCl ((q_ws α β κ Y σ).set 238 (α 238, .inl (κ 3, 1, .inr (.inr (.inr (.inl (fun _ => x))))))) H9 := by
    intro H9 h k q hk
    rw [List.getElem?_set] at hk
    by_cases hk2 : 238 = k
    · rw [if_pos hk2] at hk
      subst hk2
      rw [if_pos (by simp [q_ws])] at hk
      cases hk
      have h8 := h 238 (α 238, .inl (κ 3, 1, .inr (.inr (.inr (.inl (vf_upd (fun _ => q_dv (σ 238)) (0 : Int32).toNatClampNeg x)))))) (by rw [List.getElem?_set, if_pos rfl, if_pos (by simp [q_ws])])
      show H9[α 238]? = some (vp_cell (κ 3) (1, .inr (.inr (.inr (.inl (fun _ => x))))))
      have h7 : H9[α 238]? = some (vp_cell (κ 3) (1, .inr (.inr (.inr (.inl (vf_upd (fun _ => q_dv (σ 238)) (0 : Int32).toNatClampNeg x)))))) := h8
      rw [h7, vp_cell_d, vp_cell_d]
      congr 1
    · rw [if_neg hk2] at hk
      exact h k q (by rw [List.getElem?_set, if_neg hk2]; exact hk)
  have fd : va_D A ((q_ws α β κ Y σ).set 238 (α 238, .inl (κ 3, 1, .inr (.inr (.inr (.inl (fun _ => x))))))) := by
    have get : ∀ (E1 E2 : va_E) (k : Nat) (q : Nat × va_E), ((q_ws α β κ Y σ).set 238 (α 238, E1))[k]? = some q → ∃ q2, ((q_ws α β κ Y σ).set 238 (α 238, E2))[k]? = some q2 ∧ q2.1 = q.1 := by
      intro E1 E2 k q hk
      rw [List.getElem?_set] at hk ⊢
      by_cases hk2 : 238 = k
      · rw [if_pos hk2] at hk ⊢
        rw [if_pos (by subst hk2; simp [q_ws])] at hk ⊢
        cases hk
        exact ⟨_, rfl, rfl⟩
      · rw [if_neg hk2] at hk ⊢
        exact ⟨q, hk, rfl⟩
    refine ⟨fun i j a b hi hj hab => ?_, fun k q hk => ?_⟩
    · obtain ⟨a2, ha2, ea⟩ := get _ _ i a hi
      obtain ⟨b2, hb2, eb⟩ := get _ _ j b hj
      exact hD1.1 i j a2 b2 ha2 hb2 (by rw [ea, eb, hab])
    · obtain ⟨q2, hq2, eq2⟩ := get _ _ k q hk
      rw [← eq2]
      exact hD1.2 k q2 hq2
  refine kk Y H1 locs1 ls ?_ (by rw [e]; exact fx H1 hP1) (by rw [e]; exact fd) hS1 hl
  unfold q_up2
  exact (hY.up (Or.inr (by decide))).up (Or.inr (by decide))
theorem q_catch (C : q_Cx α β D κ p s m args meth c cc own F G nL A) (pre : List ExceptionTableEntry) (x : ExceptionTableEntry) (suf : List ExceptionTableEntry) (hT : c.exceptionTable.toList = pre ++ x :: suf) {E : String} (hE : E ∈ q_XS) (hpass : ∀ z ∈ pre, z.catchType ≠ 0 ∧ ∃ nm : String, nm ∈ q_XS ∧ E ≠ nm ∧ Cond.classLink own z.catchType nm ∈ q_W) (hcov : covers x pc = true) (h0 : x.catchType ≠ 0) (hlnk : Cond.classLink own x.catchType E ∈ q_W) (hcast : Cond.castable E E ∈ q_XW)
    {I : Instr} {i len : Nat} (hd : decode cc x.handlerPc = .ok (I, len)) (hI : (∃ k : Fin 4, I = .astore_n k ∧ (k : Nat) = i ∧ len = 1) ∨ (I = .astore i ∧ len = 2)) (hi : i < nL)
    (kk : q_St α β D κ p l e R s m args below meth c nL A Q n1 n2 σ (q_ldel lv i) (x.handlerPc + len) []) : q_Sx α β D κ p l e R s m args below meth c nL A Q n1 n2 σ lv pc rest E := by
  obtain ⟨hx, hb, hml, hown, hts, hK, hEF, hA, hlk, hF, hG⟩ := C
  intro Y H locs ls q ce hY hP hD hS hl h1 h2 h3
  have hNc := hEF.2.2.2.2.2.2.2.2.2.2.2.2.2.2.2.1
  refine vx_catch hown pre x suf hT (fun z hz => ?_) hcov h0 (hts _ hlnk) (q_nw (hEF.2.2.2.2.2.2.2.2.2.2.2.2.2.2.2.2 _ hcast) hcast) h1 h2 h3 ?_
  · obtain ⟨z0, nm, n1, n2, n3⟩ := hpass z hz
    exact Or.inr ⟨z0, nm, hts _ n3, hNc E hE nm n1 n2⟩
  rcases hI with ⟨k, rfl, rfl, rfl⟩ | ⟨rfl, rfl⟩
  · exact lv_astore_n hx hb hd rfl hl hi rfl (fun ls' hl' => kk Y H locs ls' hY hP hD hS (q_ldel_has hl'))
  · exact lv_astore hx hb hd hl hi rfl (fun ls' hl' => kk Y H locs ls' hY hP hD hS (q_ldel_has hl'))
end q41
set_option maxRecDepth 100000 in
theorem cl_L_13 : Cond.classLink RL 13 "java/lang/IllegalStateException" ∈ q_W := q_t2 77 rfl rfl
set_option maxRecDepth 100000 in
theorem cl_L_19 : Cond.classLink RL 19 "java/lang/IndexOutOfBoundsException" ∈ q_W := q_t2 238 rfl rfl
set_option maxRecDepth 100000 in
theorem cl_L_21 : Cond.classLink RL 21 "java/lang/IllegalArgumentException" ∈ q_W := q_t3 19 rfl rfl
set_option maxRecDepth 100000 in
theorem cl_L_39 : Cond.classLink RL 39 "java/lang/UnsupportedOperationException" ∈ q_W := q_t3 144 rfl rfl
set_option maxRecDepth 100000 in
theorem cl_L_58 : Cond.classLink RL 58 "java/util/NoSuchElementException" ∈ q_W := q_t3 234 rfl rfl
set_option maxRecDepth 100000 in
theorem cl_L_108 : Cond.classLink RL 108 "java/lang/ArithmeticException" ∈ q_W := q_t4 164 rfl rfl
