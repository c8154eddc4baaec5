/-! The law's start: a race made and begun. -/
theorem t_TX0 {α α0 : Nat → Nat} {A : Nat → Prop} {U : State} {H : Heap} (h : ∀ k, 229 ≤ k → α k = α0 k) (hT : q_TX α0 A U H) : q_TX α A U H := by
  unfold q_TX at hT ⊢
  have e : ∀ i, q_scr α i = q_scr α0 i := fun i => by unfold q_scr; rw [h _ (by omega)]
  have e7 : ∀ i, α (701 + i) = α0 (701 + i) := fun i => h _ (by omega)
  rw [h 700 (by decide), h 356 (by decide), h 376 (by decide), h 335 (by decide), h 336 (by decide), h 329 (by decide)]
  simp only [e, e7]
  exact hT
/-- begun's end: the memory stands under some numbering -/
def q_Qb (α0 β : Nat → Nat) (D : va_G) (κ : Nat → ClassId) (A : Nat → Prop) : Array Value → State → Outcome → State → Prop := fun _ st oc t => ∃ α : Nat → Nat, (∀ k, 229 ≤ k → α k = α0 k) ∧ oc = .returned (some (.ref (α 220))) ∧ q_WP α β D κ A (F_L_begun α q_s0).2 t ∧ va_F A st t

set_option maxRecDepth 100000 in
theorem jb_cl_75 : Cond.classLink RL 10 "QuillRelay" ∈ q_W := q_t4 119 rfl rfl
set_option maxRecDepth 100000 in
theorem jb_is_76 : Cond.instantiable "QuillRelay" 11 ∈ q_W := q_t1 41 rfl rfl
set_option maxRecDepth 100000 in
theorem jb_ii_77 : Cond.initialized "QuillRelay" ∈ q_W := q_t1 1 rfl rfl
set_option maxRecDepth 100000 in
theorem jb_ml_78 : Cond.methodLink RL 113 yX8_init ∈ q_W := q_t4 120 rfl rfl
set_option maxRecDepth 100000 in
theorem jb_in_79 : Cond.instanceMethod yX8_init ∈ q_W := q_t4 121 rfl rfl
set_option maxRecDepth 100000 in
theorem jb_co_80 : Cond.code yX8_init cX8_init 1 (Option.none : Option Jvm.ClassFile.FieldType) ∈ q_W := q_t4 122 rfl rfl
theorem dL_begun_0 : decode cL_begun 0 = .ok (.new 10, 3) := by decide +kernel
theorem dL_begun_3 : decode cL_begun 3 = .ok (.dup, 1) := by decide +kernel
theorem dL_begun_4 : decode cL_begun 4 = .ok (.invokespecial 113, 3) := by decide +kernel
theorem dL_begun_7 : decode cL_begun 7 = .ok (.astore_n 1, 1) := by decide +kernel
theorem d9L_begun_182 : decode cL_begun 182 = .ok (.iload_n 3, 1) := by decide +kernel
theorem d9L_begun_183 : decode cL_begun 183 = .ok (.ldc 132, 2) := by decide +kernel
theorem d9L_begun_185 : decode cL_begun 185 = .ok (.if_icmp .ge 7, 3) := by decide +kernel
theorem d9L_begun_192 : decode cL_begun 192 = .ok (.aload_n 1, 1) := by decide +kernel
theorem d9L_begun_193 : decode cL_begun 193 = .ok (.areturn, 1) := by decide +kernel
set_option maxRecDepth 100000 in
set_option maxHeartbeats 4000000 in
theorem b_begun {α β : Nat → Nat} {D : va_G} {κ : Nat → ClassId} (hP0 : ∀ α1 : Nat → Nat, (∀ k, 229 ≤ k → α1 k = α k) → P_L_begun α1 q_s0 ∧ ¬ (F_L_begun α1 q_s0).1 < -90000000) (h329 : α 329 = 0) (l : Launch) (hfl : l.flags = flags0) (sz : Nat) : Met l yL_begun (Cond.code yL_begun cL_begun 5 (Option.some (Jvm.ClassFile.FieldType.object "QuillRelay")) :: q_W) ({ frames := 20, cells := 400, slots := 3000, locals := 400 } : Room) (c_Pc α β D κ [.ref (α 335)] [] sz) (q_Qb α β D κ (va_A [] sz)) 400 3000 (va_A [] sz) := by
  refine Met.ofW (cc := cL_begun) (maxL := 5) (ret := (Option.some (Jvm.ClassFile.FieldType.object "QuillRelay"))) (by decide) rfl ?_
  intro p e s m args below meth c s₁ B hml hv
  obtain ⟨C, hr, ⟨ls, hle, hl⟩, hP, hD, hS⟩ := c_enter RL rfl (Nat.le_of_ble_eq_true rfl) B hml hv
  obtain rfl : s.heap.size = sz := hv.2.1
  clear hv
  rw [hle]
  generalize hA0 : va_A [] s.heap.size = A0 at C hD hS ⊢
  have hl : lv_has ls 5 [(0, .ref (α 335))] := hl
  have C0 := C
  obtain ⟨hx, hb, -, hown, hts, hK, ⟨hE, hAO6, hAO4⟩, hA, hlocks⟩ := C
  refine va_new (ci := 8) (fs := [.null, .null, .null, .null, .null, .null, .int 0, .int 0, .int 0, .int 0, .int 0]) (C := RX8) (T := TX8) (N := 11) hx hb hts q_u_X8 tyX8 tyX8_ok hown (hts _ jb_cl_75) (hts _ jb_is_76) (hts _ jb_ii_77) hK hP hD hS hA rfl (fun j hj => by rcases (show j = 0 ∨ j = 1 ∨ j = 2 ∨ j = 3 ∨ j = 4 ∨ j = 5 ∨ j = 6 ∨ j = 7 ∨ j = 8 ∨ j = 9 ∨ j = 10 by omega) with rfl | rfl | rfl | rfl | rfl | rfl | rfl | rfl | rfl | rfl | rfl <;> rfl) (by show 0 + 1 ≤ 400; omega) (by show 0 + 11 ≤ 3000; omega) dL_begun_0 (fun q1 H hP hD hS => ?_)
  have hP : va_P D vwCl ([] ++ [(q1, .inr (8, [.null, .null, .null, .null, .null, .null, .int 0, .int 0, .int 0, .int 0, .int 0]))]) H := hP
  have hD : va_D A0 ([] ++ [(q1, .inr (8, [.null, .null, .null, .null, .null, .null, .int 0, .int 0, .int 0, .int 0, .int 0]))]) := hD
  refine lv_dup hx hb dL_begun_3 rfl ?_
  have hfree := c_free C0 hD hS
  refine va_callv (c_runI C0 (n := 0) (As := []) (rest := [.ref q1]) jb_ml_78 jb_in_79 jb_ii_77 jb_co_80 rfl (by decide +kernel) (c_initQ (α := α) (β := β) (D := D) (κ := κ) q1 l H.size) hP hD hS rfl rfl dL_begun_4 hl (Nat.le_of_ble_eq_true rfl) ⟨(Nat.le_of_ble_eq_true rfl), (Nat.le_of_ble_eq_true rfl)⟩ ⟨(by show 0 + 1 + 228 ≤ 400; omega), (by show 0 + 11 + 1622 ≤ 3000; omega)⟩) hS (fun q _ hq => hfree q hq) hfree (fun u t H locs ht hvm hpost hB hz hk hS => ?_)
  obtain ⟨hP1, hD1⟩ := hB
  rw [ht] at hP1
  obtain ⟨hP, hD⟩ := c_join hP hD hk hfree hP1 hD1
  obtain ⟨a, g⟩ := u
  have hg : g 220 = q1 := hpost
  have hP : va_P D vwCl ([] ++ c_qb β κ a g) H := hP
  have hD : va_D A0 ([] ++ c_qb β κ a g) := hD
  refine W.eq (g2 := F0 m 7 ls [.ref q1]) rfl ?_
  refine lv_astore_n hx hb dL_begun_7 rfl hl (Nat.le_of_ble_eq_true rfl) (lv' := [(1, .ref q1), (0, .ref (α 335))]) rfl (fun ls hl => ?_)
  refine W.widen (k := 300) (n := 2000) (by show 0 + 1 + 228 ≤ 300; omega) (by show 0 + 11 + 1622 ≤ 2000; omega) ?_
  rw [← hg] at hl
  have hal : ∀ k, 229 ≤ k → c_al a g α k = α k := fun k hk => by
    unfold c_al
    rw [if_neg (by omega), if_neg (by omega)]
  obtain ⟨hP2, hD2⟩ := c_PD (α0 := α) h329 hP hD
  obtain ⟨hPb, hnb⟩ := hP0 (c_al a g α) hal
  have hE2 : q_EF (c_al a g α) β A0 s s.heap := t_EF (fun k h1 h2 h3 h4 => hal k (by omega)) (t_TX0 hal hE.tx) hE
  have C1 : q_Cx (c_al a g α) β D κ p s m args meth c cL_begun RL (fun _ => none) (fun _ => none) 5 A0 := ⟨hx, hb, C0.2.2.1, hown, hts, hK, hE2, hA, hlocks, Fok_L, Gok_L⟩
  have h335 : c_al a g α 335 = α 335 := hal 335 (by decide)
  refine kp_L_begun (α := c_al a g α) q_s0 hfl C1 (by show 10 ≤ 20; decide) (by show 196 ≤ 400; decide) 300 2000 (by show 300 + 34 ≤ 400; decide) (by show 2000 + 204 ≤ 3000; decide) hPb (fun x9 τ hF => ?_) (c_Y g) H locs ls c_Yok hP2 hD2 hS (by
    have e : q_lm (c_al a g α) β [(0, .ref 335), (1, .ref 220)] = [(0, .ref (α 335)), (1, .ref (g 220))] := by
      show [(0, Value.ref (c_al a g α 335)), (1, Value.ref (c_al a g α 220))] = _
      rw [h335]
      rfl
    rw [e]
    exact lv_sub hl [1, 0] rfl)
  rw [hF] at hnb
  intro Y H locs ls hY hP hD hS hl
  refine lv_iload_n hx hb d9L_begun_182 rfl (q_lget_has hl (show q_lget [(1, .ref 220), (3, .int x9)] 3 = some (.int x9) from rfl)) ?_
  refine lv_ldc hx hb hown (hts _ ck_L_132) d9L_begun_183 ?_
  refine lv_icmp_ge hx hb d9L_begun_185 (tgt := 192) (by decide) (fun _ => ?_) (fun hq9 => absurd (Int32.not_lt.mp hnb) hq9)
  refine lv_aload_n hx hb d9L_begun_192 rfl (q_lget_has hl (show q_lget [(1, .ref 220), (3, .int x9)] 1 = some (.ref 220) from rfl)) ?_
  refine W.widen (k := 400) (n := 3000) (by decide) (by decide) ?_
  refine W.aret (v := .ref (c_al a g α 220)) hx hb hr (Or.inl ⟨_, rfl⟩) (Or.inr ⟨_, rfl⟩) (fun t ht hW => ?_) hS.2.2 d9L_begun_193 hlocks
  refine ⟨c_al a g α, hal, rfl, ?_, hS.F ht⟩
  rw [hF]
  exact ⟨Y, hY, by rw [ht]; exact hP, hD⟩
