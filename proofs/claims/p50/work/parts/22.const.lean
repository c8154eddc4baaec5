/-! The constant arrays: the switch map, VERBS; the patterns. -/
set_option maxRecDepth 100000 in
theorem q_c1s : Cond.fieldLink RX8 407 "QuillRelay$1" "$SwitchMap$QuillRelay$Verb" "[I" ∈ q_W := q_t6 17 rfl rfl
set_option maxRecDepth 100000 in
theorem q_c2s : Cond.fieldLink RX3 53 RX3 "VERBS" "[LQuillRelay$Verb;" ∈ q_W := q_t5 219 rfl rfl
set_option maxRecDepth 100000 in
theorem q_c3s : Cond.fieldLink RX3 57 RX7 "pattern" "Ljava/lang/String;" ∈ q_W := q_t6 203 rfl rfl
def q_sw (x : Int32) : Int32 := [1, 2, 3, 4, 5, 6, 7, 0].getD (x.toUInt32.toNat - 20) 0
section q22
variable {α β : Nat → Nat} {D : va_G} {κ : Nat → ClassId} {p : Program} {l : Launch} {e : Env} {R : Room} {s : State} {m : MethodId} {args : Array Value} {below : List Frame} {meth : Method} {c : Code} {cc : ByteArray} {own : String} {F : Nat → Option (Nat × Nat)} {G : Nat → Option Int32} {nL : Nat} {A : Nat → Prop} {Q : State → Prop} {n1 n2 : Nat} {pc : Nat} {σ : q_M} {lv : q_Lv} {rest : List Value} {x i : Int32}
theorem q_gS (C : q_Cx α β D κ p s m args meth c cc RX8 F G nL A) (hd : decode cc pc = .ok (.getstatic 407, 3)) (kk : q_St α β D κ p l e R s m args below meth c nL A Q (n1) (n2) σ lv (pc + 3) (.ref 331 :: rest)) : q_St α β D κ p l e R s m args below meth c nL A Q (n1) (n2) σ lv pc rest := by
  obtain ⟨ha, hb, hml, hown, hts, hK, hE, hA, hlk, hF, hG⟩ := C
  intro Y H locs ls hY hP hD hS hl
  exact va_gets ha hb hE.2.2.2.2.2.2.2.1 hS hown (hts _ q_c1s) (fun _ h9 => h9) hd (kk Y H locs ls hY hP hD hS hl)
theorem q_gV (C : q_Cx α β D κ p s m args meth c cc RX3 F G nL A) (hd : decode cc pc = .ok (.getstatic 53, 3)) (kk : q_St α β D κ p l e R s m args below meth c nL A Q (n1) (n2) σ lv (pc + 3) (.ref 330 :: rest)) : q_St α β D κ p l e R s m args below meth c nL A Q (n1) (n2) σ lv pc rest := by
  obtain ⟨ha, hb, hml, hown, hts, hK, hE, hA, hlk, hF, hG⟩ := C
  intro Y H locs ls hY hP hD hS hl
  exact va_gets ha hb hE.2.2.2.2.2.1 hS hown (hts _ q_c2s) (fun _ h9 => h9) hd (kk Y H locs ls hY hP hD hS hl)
theorem q_lV (C : q_Cx α β D κ p s m args meth c cc own F G nL A) (hd : decode cc pc = .ok (.arraylength, 1)) (kk : q_St α β D κ p l e R s m args below meth c nL A Q (n1) (n2) σ lv (pc + 1) (.int 8 :: rest)) : q_St α β D κ p l e R s m args below meth c nL A Q (n1) (n2) σ lv pc (.ref 330 :: rest) := by
  obtain ⟨ha, hb, hml, hown, hts, hK, hE, hA, hlk, hF, hG⟩ := C
  intro Y H locs ls hY hP hD hS hl
  exact va_tlen ha hb hE.2.2.2.2.2.2.1 hS (v := 8) rfl hd (kk Y H locs ls hY hP hD hS hl)
theorem q_iS (C : q_Cx α β D κ p s m args meth c cc own F G nL A) (hv : q_okV x) (hd : decode cc pc = .ok (.iaload, 1)) (kk : q_St α β D κ p l e R s m args below meth c nL A Q (n1) (n2) σ lv (pc + 1) (.int (q_sw x) :: rest)) : q_St α β D κ p l e R s m args below meth c nL A Q (n1) (n2) σ lv pc (.int (q_ord x) :: .ref 331 :: rest) := by
  obtain ⟨ha, hb, hml, hown, hts, hK, hE, hA, hlk, hF, hG⟩ := C
  intro Y H locs ls hY hP hD hS hl
  have h : vp_in (q_ord x) 8 ∧ nI (((q_ord x).toNatClampNeg + 1) % 8) = q_sw x := by
    obtain ⟨h1, h2⟩ := hv
    unfold q_ord q_sw
    generalize x.toUInt32.toNat = n at h1 h2
    have : n = 20 ∨ n = 21 ∨ n = 22 ∨ n = 23 ∨ n = 24 ∨ n = 25 ∨ n = 26 ∨ n = 27 := by omega
    rcases this with rfl | rfl | rfl | rfl | rfl | rfl | rfl | rfl <;> exact ⟨by unfold vp_in; decide +kernel, by decide +kernel⟩
  exact va_ti ha hb hE.2.2.2.2.2.2.2.2.1 hS (i := q_ord x) h.1 (v := .int (q_sw x)) (congrArg Value.int h.2) hd (kk Y H locs ls hY hP hD hS hl)
theorem q_a20 (h : vp_in i 8) : (i + 20).toUInt32.toNat = 20 + i.toNatClampNeg := by
  obtain ⟨j, hj, rfl⟩ := vp_in_of h (by decide)
  have : j = 0 ∨ j = 1 ∨ j = 2 ∨ j = 3 ∨ j = 4 ∨ j = 5 ∨ j = 6 ∨ j = 7 := by omega
  rcases this with rfl | rfl | rfl | rfl | rfl | rfl | rfl | rfl <;> decide +kernel
theorem q_aV (C : q_Cx α β D κ p s m args meth c cc own F G nL A) (hi : vp_in i 8) (hd : decode cc pc = .ok (.aaload, 1)) (kk : q_St α β D κ p l e R s m args below meth c nL A Q (n1) (n2) σ lv (pc + 1) (q_e (i + 20) :: rest)) : q_St α β D κ p l e R s m args below meth c nL A Q (n1) (n2) σ lv pc (.int i :: .ref 330 :: rest) := by
  obtain ⟨ha, hb, hml, hown, hts, hK, hE, hA, hlk, hF, hG⟩ := C
  intro Y H locs ls hY hP hD hS hl
  refine vb_tq ha hb hE.2.2.2.2.2.2.1 hS (i := i) hi (v := .ref (β (i + 20).toUInt32.toNat)) ?_ hd (kk Y H locs ls hY hP hD hS hl)
  rw [q_a20 hi]
theorem q_gP (C : q_Cx α β D κ p s m args meth c cc RX3 F G nL A) (hv : q_okV x) (hd : decode cc pc = .ok (.getfield 57, 3)) (kk : q_St α β D κ p l e R s m args below meth c nL A Q (n1) (n2) σ lv (pc + 3) (.ref (340 + (x.toUInt32.toNat - 20)) :: rest)) : q_St α β D κ p l e R s m args below meth c nL A Q (n1) (n2) σ lv pc (q_e x :: rest) := by
  obtain ⟨ha, hb, hml, hown, hts, hK, hE, hA, hlk, hF, hG⟩ := C
  intro Y H locs ls hY hP hD hS hl
  obtain ⟨h1, h2⟩ := hv
  have e9 : x.toUInt32.toNat = 20 + (x.toUInt32.toNat - 20) := by omega
  have k := va_getX (p := p) (l := l) (e := e) (R := R) (args := args) (below := below) (meth := meth) (cells := n1) (slots := n2) (Q := Q) (ls := ls) (rest := rest.map (q_cv α β)) ha hb hE.2.2.2.2.1 (i := x.toUInt32.toNat - 20) (by omega) hS hown (hts _ q_c3s) (fun _ h9 => h9) hd (kk Y H locs ls hY hP hD hS hl)
  rw [← e9] at k
  exact k
theorem q_sw0 (hv : q_okV x) (h0 : ¬ x = 20) (h1 : ¬ x = 21) (h2 : ¬ x = 22) (h3 : ¬ x = 23) (h4 : ¬ x = 24) (h5 : ¬ x = 25) (h6 : ¬ x = 26) : q_sw x = 0 := by
  obtain ⟨a, b⟩ := hv
  have g : ∀ k : Nat, k < 28 → x.toUInt32.toNat = k → x = Int32.ofUInt32 (UInt32.ofNat k) := by
    intro k _ hk
    subst hk
    rw [UInt32.ofNat_toNat]
  have e27 : x.toUInt32.toNat = 27 := by
    have hh : x.toUInt32.toNat = 20 ∨ x.toUInt32.toNat = 21 ∨ x.toUInt32.toNat = 22 ∨ x.toUInt32.toNat = 23 ∨ x.toUInt32.toNat = 24 ∨ x.toUInt32.toNat = 25 ∨ x.toUInt32.toNat = 26 ∨ x.toUInt32.toNat = 27 := by omega
    rcases hh with h | h | h | h | h | h | h | h
    · exact absurd (g _ (by decide) h) h0
    · exact absurd (g _ (by decide) h) h1
    · exact absurd (g _ (by decide) h) h2
    · exact absurd (g _ (by decide) h) h3
    · exact absurd (g _ (by decide) h) h4
    · exact absurd (g _ (by decide) h) h5
    · exact absurd (g _ (by decide) h) h6
    · exact h
  unfold q_sw
  rw [e27]
  rfl
end q22
