/-! Constants of Verb: their ordinal. -/
set_option maxRecDepth 100000 in
theorem q_o1 : Cond.methodLink RX8 412 (⟨RX7, "ordinal", "()I"⟩ : MethodName) ∈ q_W := q_t6 19 rfl rfl
set_option maxRecDepth 100000 in
theorem q_o2 : Cond.sameMethod RX7 "java/lang/Enum" "ordinal" "()I" ∈ q_W := q_t6 20 rfl rfl
set_option maxRecDepth 100000 in
theorem q_o3 : Cond.selects RX7 (⟨RX7, "ordinal", "()I"⟩ : MethodName) yJx29ce0_ordinal_8abf5 ∈ q_W := q_t6 22 rfl rfl
set_option maxRecDepth 100000 in
theorem q_o4 : Cond.instanceMethod yJx29ce0_ordinal_8abf5 ∈ q_W := q_t6 23 rfl rfl
set_option maxRecDepth 100000 in
theorem q_o5 : Cond.initialized "java/lang/Enum" ∈ q_W := q_t1 4 rfl rfl
set_option maxRecDepth 100000 in
theorem q_o6 : Cond.code yJx29ce0_ordinal_8abf5 cJx29ce0_ordinal_8abf5 1 (some .int) ∈ q_W := q_t6 24 rfl rfl
set_option maxRecDepth 100000 in
theorem q_o7 : Cond.fieldLink "java/lang/Enum" 7 "java/lang/Enum" "ordinal" "I" ∈ q_W := q_t6 204 rfl rfl
def tb_ord : List q_E := [(0, .aload_n 0, 1, 0, 0), (1, .getfield 7, 3, 0, 0), (4, .ireturn, 1, 0, 0)]
theorem tk_ord : q_tb cJx29ce0_ordinal_8abf5 1 tb_ord = true := by decide +kernel
def q_okV (x : Int32) : Prop := 20 ≤ x.toUInt32.toNat ∧ x.toUInt32.toNat < 28
def q_ord (x : Int32) : Int32 := [0, 1, 2, 3, 4, 5, 6, 7].getD (x.toUInt32.toNat - 20) 0
section q21
variable {α β : Nat → Nat} {D : va_G} {κ : Nat → ClassId} {p : Program} {l : Launch} {e : Env} {R : Room} {s : State} {m : MethodId} {args : Array Value} {below : List Frame} {meth : Method} {c : Code} {cc : ByteArray} {own : String} {F : Nat → Option (Nat × Nat)} {G : Nat → Option Int32} {nL : Nat} {A : Nat → Prop} {Q : State → Prop} {n1 n2 : Nat}
theorem q_getO (C : q_Cx α β D κ p s m args meth c cc own F G nL A) {idx pc : Nat} {σ : q_M} {lv : q_Lv} {rest : List Value} {x : Int32} (hlnk : Cond.fieldLink own idx "java/lang/Enum" "ordinal" "I" ∈ q_W) (hd : decode cc pc = .ok (.getfield idx, 3)) (hx : q_okV x) (kk : q_St α β D κ p l e R s m args below meth c nL A Q (n1) (n2) σ lv (pc + 3) (.int (q_ord x) :: rest)) : q_St α β D κ p l e R s m args below meth c nL A Q (n1) (n2) σ lv pc (q_e x :: rest) := by
  obtain ⟨ha, hb, hml, hown, hts, hK, hE, hA, hlk, hF, hG⟩ := C
  intro Y H locs ls hY hP hD hS hl
  obtain ⟨h1, h2⟩ := hx
  have e9 : x.toUInt32.toNat = 20 + (x.toUInt32.toNat - 20) := by omega
  have k := va_getE (p := p) (l := l) (e := e) (R := R) (args := args) (below := below) (meth := meth) (cells := n1) (slots := n2) (Q := Q) (ls := ls) (rest := rest.map (q_cv α β)) ha hb hE.2.2.1 (i := x.toUInt32.toNat - 20) (show x.toUInt32.toNat - 20 < 8 by omega) hS hown (q := ("java/lang/Enum", "ordinal", "I", [0, 1, 2, 3, 4, 5, 6, 7])) List.mem_cons_self (hts _ hlnk) (fun _ h9 => h9) hd (kk Y H locs ls hY hP hD hS hl)

  rw [← e9] at k
  exact k
theorem k_ord (x : Int32) (σ : q_M) (hx : q_okV x) : q_C α β D κ yJx29ce0_ordinal_8abf5 cJx29ce0_ordinal_8abf5 1 (some .int) 0 0 0 0 [q_e x] σ (q_oi (q_ord x)) σ := by
  refine q_enter (own := "java/lang/Enum") (F := fun _ => none) (G := fun _ => none) (by decide +kernel) rfl (fun i a b h => nomatch h) (fun i x h => nomatch h) (Nat.le_of_ble_eq_true rfl) (fun p l e s m args below meth c A hfl C hr hT => ?_)
  refine q_go C tk_ord [(0, 1)] [] (pc1 := 1) (σ1 := σ) (lv1 := [(0, q_e x)]) (st1 := [q_e x]) rfl trivial ?_
  refine q_getO C q_o7 (q_dc (z := (1, .getfield 7, 3, 0, 0)) tk_ord 1 rfl) hx ?_
  exact q_iret C hr (q_dc (z := (4, .ireturn, 1, 0, 0)) tk_ord 2 rfl) rfl rfl (Nat.le_of_ble_eq_true rfl) (Nat.le_of_ble_eq_true rfl)
theorem q_callO (C : q_Cx α β D κ p s m args meth c cc RX8 F G nL A) (hfl : l.flags = flags0) {pc : Nat} {σ : q_M} {lv : q_Lv} {rest : List Value} {x : Int32} (hv : q_okV x) (hd : decode cc pc = .ok (.invokevirtual 412, 3)) (hrest : (rest.map fun v => v.category).sum ≤ 8) (hR : 1 ≤ R.frames ∧ 20 ≤ R.locals) (hcs : n1 ≤ R.cells ∧ n2 ≤ R.slots)
    (kk : q_St α β D κ p l e R s m args below meth c nL A Q (n1) (n2) σ lv (pc + 3) (.int (q_ord x) :: rest)) : q_St α β D κ p l e R s m args below meth c nL A Q (n1) (n2) σ lv pc (q_e x :: rest) := by
  have C0 := C
  obtain ⟨hx, hb, hml, hown, hts, hK, hE, hA, hlk, hF, hG⟩ := C
  have hG2 : GoodIn q_W (va_wsU RX8 412 RX7 "java/lang/Enum" (⟨RX7, "ordinal", "()I"⟩ : MethodName) yJx29ce0_ordinal_8abf5 (Cond.code yJx29ce0_ordinal_8abf5 cJx29ce0_ordinal_8abf5 1 (some .int) :: q_W)) := by
    have g := q_GI q_o6
    intro w hw
    unfold va_wsU at hw
    rcases List.mem_append.mp hw with h | h
    · have hw' : w ∈ q_W := by
        simp only [List.mem_cons, List.not_mem_nil, or_false] at h
        rcases h with rfl | rfl | rfl | rfl | rfl
        · exact q_o1
        · exact q_o2
        · exact q_o3
        · exact q_o4
        · exact q_o5
      exact ⟨hw', good_of_word (List.mem_filter.mp hw').2⟩
    · exact g w h
  intro Y H locs ls hY hP hD hS hl
  have hrecv : ∃ cell : Cell, H[β x.toUInt32.toNat]? = some cell ∧ cell.vm.isStatics = false ∧ s.vm.findClass RX7 = some cell.cls := by
    obtain ⟨h1, h2⟩ := hv
    have e9 : x.toUInt32.toNat = 20 + (x.toUInt32.toNat - 20) := by omega
    have k := va_recvE hE.2.2.1 (i := x.toUInt32.toNat - 20) (show x.toUInt32.toNat - 20 < 8 by omega) hS

    rw [← e9] at k
    exact k
  have hr := va_runU (e := e) (meth := meth) (R := R) (n := 0) (rest := rest.map (q_cv α β)) (As := []) (b := β x.toUInt32.toNat) (C := RX7) (g := F0 m pc ls (.ref (β x.toUInt32.toNat) :: rest.map (q_cv α β))) (below := below) (locs := locs) (cells := n1) (slots := n2) ⟨hx, hb, hml, hown, hts⟩ ((k_ord x σ hv).met hfl Y H.size) (va_cwU 0 hts hG2 rfl rfl rfl rfl (by decide +kernel) hR) ⟨q_FB, hrecv, q_pre C0 (vs := [q_e x]) hY hP hD hS⟩ rfl rfl hl.1 rfl (lv_room (q_sum_cat hrest)) hd hcs
  have hsub := q_A_sub (α := α) (β := β) (κ := κ) hA hD hS
  intro T hT X
  obtain ⟨v9, st₀, t, T', L, h0, X', hL, e1, e2, ⟨⟨v2, hv2, hv3⟩, ⟨Y', hY', hP', hD'⟩, hFr⟩, st⟩ := hr T hT X
  cases hv2
  cases hv3
  obtain ⟨k1, k2, k3⟩ := vx_keep h0 e1 hS (fun q _ h => hsub q h) hsub hL hFr
  have hkk := kk Y' T'.heap (locs ++ L) ls hY' (by rw [e1]; exact hP') (hD'.weaken (fun _ _ _ h => hsub _ h)) k3 hl
  obtain ⟨t2, a1, b1⟩ := hkk T' rfl X'
  exact ⟨t2, st t2 a1, b1⟩
end q21
