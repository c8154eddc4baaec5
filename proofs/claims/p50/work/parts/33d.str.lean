/-! The library's own methods: a new builder. -/
set_option maxRecDepth 100000 in
theorem jw_ml_148 : Cond.methodLink RJ5 3 Lib.objectInit ∈ q_W := q_t1 145 rfl rfl
set_option maxRecDepth 100000 in
theorem jw_ml_149 : Cond.methodLink RJ4 1 yJ5_init_d00df ∈ q_W := q_t1 142 rfl rfl
set_option maxRecDepth 100000 in
theorem jw_in_150 : Cond.instanceMethod yJ5_init_d00df ∈ q_W := q_t1 143 rfl rfl
set_option maxRecDepth 100000 in
theorem jw_co_151 : Cond.code yJ5_init_d00df cJ5_init_d00df 2 (Option.none : Option Jvm.ClassFile.FieldType) ∈ q_W := q_t1 144 rfl rfl
theorem dJ4_init_da8c8_0 : decode cJ4_init_da8c8 0 = .ok (.aload_n 0, 1) := by decide +kernel
theorem dJ4_init_da8c8_1 : decode cJ4_init_da8c8 1 = .ok (.bipush 16, 2) := by decide +kernel
theorem dJ4_init_da8c8_3 : decode cJ4_init_da8c8 3 = .ok (.invokespecial 1, 3) := by decide +kernel
theorem dJ4_init_da8c8_6 : decode cJ4_init_da8c8 6 = .ok (.return_, 1) := by decide +kernel
theorem dJ5_init_d00df_0 : decode cJ5_init_d00df 0 = .ok (.aload_n 0, 1) := by decide +kernel
theorem dJ5_init_d00df_1 : decode cJ5_init_d00df 1 = .ok (.invokespecial 3, 3) := by decide +kernel
theorem dJ5_init_d00df_4 : decode cJ5_init_d00df 4 = .ok (.getstatic 18, 3) := by decide +kernel
theorem dJ5_init_d00df_7 : decode cJ5_init_d00df 7 = .ok (.ifCond .eq 18, 3) := by decide +kernel
theorem dJ5_init_d00df_10 : decode cJ5_init_d00df 10 = .ok (.aload_n 0, 1) := by decide +kernel
theorem dJ5_init_d00df_11 : decode cJ5_init_d00df 11 = .ok (.iload_n 1, 1) := by decide +kernel
theorem dJ5_init_d00df_12 : decode cJ5_init_d00df 12 = .ok (.newarray .byte, 2) := by decide +kernel
theorem dJ5_init_d00df_14 : decode cJ5_init_d00df 14 = .ok (.putfield 15, 3) := by decide +kernel
theorem dJ5_init_d00df_17 : decode cJ5_init_d00df 17 = .ok (.aload_n 0, 1) := by decide +kernel
theorem dJ5_init_d00df_18 : decode cJ5_init_d00df 18 = .ok (.iconst 0, 1) := by decide +kernel
theorem dJ5_init_d00df_19 : decode cJ5_init_d00df 19 = .ok (.putfield 22, 3) := by decide +kernel
theorem dJ5_init_d00df_22 : decode cJ5_init_d00df 22 = .ok (.goto 16, 3) := by decide +kernel
theorem dJ5_init_d00df_38 : decode cJ5_init_d00df 38 = .ok (.return_, 1) := by decide +kernel
set_option maxRecDepth 100000 in
set_option maxHeartbeats 4000000 in
theorem s_initA {α : Nat → Nat} {D : va_G} {κ : Nat → ClassId} (h : Nat) (l : Launch) (sz : Nat) : Met l yJ5_init_d00df (Cond.code yJ5_init_d00df cJ5_init_d00df 2 (Option.none : Option Jvm.ClassFile.FieldType) :: q_W) ({ frames := 1, cells := 1, slots := 16, locals := 21 } : Room) (s_Pc α D κ [.ref h, .int 16] [(h, .inr (1, [.null, .int 0, .int 0, .int 0]))] sz) (va_Qv (fun _ : Nat => True) (fun u t => va_P D vwCl [(h, .inr (1, [.ref u, .int 0, .int 0, .int 0])), (u, .inl (κ 1, 16, .inl (fun _ => 0)))] t.heap ∧ va_D (va_A [(h, .inr (1, [.null, .int 0, .int 0, .int 0]))] sz) [(h, .inr (1, [.ref u, .int 0, .int 0, .int 0])), (u, .inl (κ 1, 16, .inl (fun _ => 0)))]) (va_A [(h, .inr (1, [.null, .int 0, .int 0, .int 0]))] sz)) 1 (16) (va_A [(h, .inr (1, [.null, .int 0, .int 0, .int 0]))] sz) := by
  refine Met.ofW (cc := cJ5_init_d00df) (maxL := 2) (ret := (Option.none : Option Jvm.ClassFile.FieldType)) (by decide) rfl ?_
  intro p e s m args below meth c s₁ B hml hv
  obtain ⟨C, hr, ⟨ls, hle, hl⟩, hP, hD, hS⟩ := s_enter RJ5 rfl (Nat.le_of_ble_eq_true rfl) B hml hv
  obtain rfl : s.heap.size = sz := hv.2.1
  clear hv
  have hin : meth.name = "<init>" := (name_of_methodNamed B.named B.method).1
  rw [hle]
  generalize va_A [(h, .inr (1, [.null, .int 0, .int 0, .int 0]))] s.heap.size = A0 at C hD hS ⊢
  have hl : lv_has ls 2 [(0, .ref h), (1, .int 16)] := hl
  have C0 := C
  obtain ⟨hx, hb, -, hown, hts, hK, hE, hA, hlocks⟩ := C
  refine lv_aload_n hx hb dJ5_init_d00df_0 rfl (lv_at hl 0 rfl) ?_
  refine W.objInit hx hb hown (hts _ jw_ml_148) (hts _ jw_in_124) (hts _ jw_co_125) rfl (by rw [C0.2.2.1]; exact hl.1) rfl dJ5_init_d00df_1 (Nat.le_of_ble_eq_true rfl) (Nat.le_of_ble_eq_true rfl) ?_
  refine W.eq (g2 := F0 m 4 ls []) rfl ?_
  refine va_gets hx hb (hE.2.1.1) hS hown (hts _ jw_fl_0) (fun _ h9 => h9) dJ5_init_d00df_4 ?_
  refine lv_if_eq hx hb dJ5_init_d00df_7 (tgt := 25) (by decide) (fun hq9 => absurd hq9 ((by decide : ¬ (1 : Int32) = 0))) (fun _ => ?_)
  refine lv_aload_n hx hb dJ5_init_d00df_10 rfl (lv_at hl 0 rfl) ?_
  refine lv_iload_n hx hb dJ5_init_d00df_11 rfl (lv_at hl 1 rfl) ?_
  refine va_newa (atype := .byte) (ty := .byte) (a0 := (16, .inl (fun _ => 0))) (N' := 16) hx hb (hts _ jw_ac_10) rfl hK hP hD hS hA (fun cA => rfl) (by decide) (by decide) (by decide) (by show 0 + 1 ≤ 1; omega) (by show 0 + 16 ≤ 16; omega) dJ5_init_d00df_12 (fun b2 cA H hK2 hP hD hS => ?_)
  obtain rfl := s_byte hK hK2
  have hP : va_P D vwCl [(h, .inr (1, [.null, .int 0, .int 0, .int 0])), (b2, .inl (κ 1, 16, .inl (fun _ => 0)))] H := hP
  have hD : va_D A0 [(h, .inr (1, [.null, .int 0, .int 0, .int 0])), (b2, .inl (κ 1, 16, .inl (fun _ => 0)))] := hD
  refine va_put (ty := (.array .byte)) (ci := 1) (C := RJ4) (T := TJ4) (N := 4) hx hb hts q_u_J4 tyJ4 tyJ4_ok nmJ4 hown hK hP hD hS 0 rfl rfl 0 (by decide) (hts _ jw_fl_4) (fun _ h9 => h9) rfl (by decide +kernel) rfl rfl (Nat.le_of_ble_eq_true rfl) dJ5_init_d00df_14 (fun H locs hP hD hS => ?_)
  have hP : va_P D vwCl [(h, .inr (1, [.ref b2, .int 0, .int 0, .int 0])), (b2, .inl (κ 1, 16, .inl (fun _ => 0)))] H := hP
  have hD : va_D A0 [(h, .inr (1, [.ref b2, .int 0, .int 0, .int 0])), (b2, .inl (κ 1, 16, .inl (fun _ => 0)))] := hD
  refine lv_aload_n hx hb dJ5_init_d00df_17 rfl (lv_at hl 0 rfl) ?_
  refine lv_iconst hx hb dJ5_init_d00df_18 (by decide : Int32.ofInt 0 = 0) ?_
  refine va_put (ty := .byte) (ci := 1) (C := RJ4) (T := TJ4) (N := 4) hx hb hts q_u_J4 tyJ4 tyJ4_ok nmJ4 hown hK hP hD hS 0 rfl rfl 1 (by decide) (hts _ jw_fl_1) (fun _ h9 => h9) rfl (by decide +kernel) rfl rfl (Nat.le_of_ble_eq_true rfl) dJ5_init_d00df_19 (fun H locs hP hD hS => ?_)
  have hP : va_P D vwCl [(h, .inr (1, [.ref b2, .int 0, .int 0, .int 0])), (b2, .inl (κ 1, 16, .inl (fun _ => 0)))] H := hP
  have hD : va_D A0 [(h, .inr (1, [.ref b2, .int 0, .int 0, .int 0])), (b2, .inl (κ 1, 16, .inl (fun _ => 0)))] := hD
  refine lv_goto hx hb dJ5_init_d00df_22 (tgt := 38) (by decide) ?_
  exact W.vret hx hb hr (fun t ht hW => ⟨⟨b2, rfl, trivial, by rw [ht]; exact hP, hD⟩, hS.F ht⟩) hS.2.2 dJ5_init_d00df_38 hlocks
set_option maxRecDepth 100000 in
set_option maxHeartbeats 4000000 in
theorem s_initS {α : Nat → Nat} {D : va_G} {κ : Nat → ClassId} (h : Nat) (l : Launch) (sz : Nat) : Met l yJ4_init_da8c8 (Cond.code yJ4_init_da8c8 cJ4_init_da8c8 1 (Option.none : Option Jvm.ClassFile.FieldType) :: q_W) ({ frames := 2, cells := 1, slots := 16, locals := 45 } : Room) (s_Pc α D κ [.ref h] [(h, .inr (1, [.null, .int 0, .int 0, .int 0]))] sz) (va_Qv (fun _ : Nat => True) (fun u t => va_P D vwCl [(h, .inr (1, [.ref u, .int 0, .int 0, .int 0])), (u, .inl (κ 1, 16, .inl (fun _ => 0)))] t.heap ∧ va_D (va_A [(h, .inr (1, [.null, .int 0, .int 0, .int 0]))] sz) [(h, .inr (1, [.ref u, .int 0, .int 0, .int 0])), (u, .inl (κ 1, 16, .inl (fun _ => 0)))]) (va_A [(h, .inr (1, [.null, .int 0, .int 0, .int 0]))] sz)) 1 (16) (va_A [(h, .inr (1, [.null, .int 0, .int 0, .int 0]))] sz) := by
  refine Met.ofW (cc := cJ4_init_da8c8) (maxL := 1) (ret := (Option.none : Option Jvm.ClassFile.FieldType)) (by decide) rfl ?_
  intro p e s m args below meth c s₁ B hml hv
  obtain ⟨C, hr, ⟨ls, hle, hl⟩, hP, hD, hS⟩ := s_enter RJ4 rfl (Nat.le_of_ble_eq_true rfl) B hml hv
  obtain rfl : s.heap.size = sz := hv.2.1
  clear hv
  have hin : meth.name = "<init>" := (name_of_methodNamed B.named B.method).1
  rw [hle]
  generalize va_A [(h, .inr (1, [.null, .int 0, .int 0, .int 0]))] s.heap.size = A0 at C hD hS ⊢
  have hl : lv_has ls 1 [(0, .ref h)] := hl
  have C0 := C
  obtain ⟨hx, hb, -, hown, hts, hK, hE, hA, hlocks⟩ := C
  refine lv_aload_n hx hb dJ4_init_da8c8_0 rfl (lv_at hl 0 rfl) ?_
  refine lv_bipush hx hb dJ4_init_da8c8_1 (by decide : (Int8.ofInt 16).toInt32 = 16) ?_
  have hfree := s_free C0 (wc := [(h, .inr (1, [.null, .int 0, .int 0, .int 0]))]) hD hS [0] rfl
  refine va_callv (s_runI C0 (n := 1) (wc := [(h, .inr (1, [.null, .int 0, .int 0, .int 0]))]) (As := [.int 16]) (rest := []) jw_ml_149 jw_in_150 jw_ii_19 jw_co_151 rfl (by decide +kernel) (s_initA (α := α) (D := D) (κ := κ) h l s.heap.size) hP hD hS [0] rfl rfl (by decide) rfl rfl dJ4_init_da8c8_3 hl (Nat.le_of_ble_eq_true rfl) ⟨(Nat.le_of_ble_eq_true rfl), (Nat.le_of_ble_eq_true rfl)⟩ ⟨(by show 0 + 1 ≤ 1; omega), (by show 0 + 16 ≤ 16; omega)⟩) hS (fun q _ hq => hfree q hq) hfree (fun u t H locs ht hvm hpost hB hz hk hS => ?_)
  obtain ⟨hP1, hD1⟩ := hB
  rw [ht] at hP1
  have hP := hP1
  have hD := hD1.weaken (fun _ _ _ hq => hfree _ hq)
  have hP : va_P D vwCl [(h, .inr (1, [.ref u, .int 0, .int 0, .int 0])), (u, .inl (κ 1, 16, .inl (fun _ => 0)))] H := hP
  have hD : va_D A0 [(h, .inr (1, [.ref u, .int 0, .int 0, .int 0])), (u, .inl (κ 1, 16, .inl (fun _ => 0)))] := hD
  refine W.eq (g2 := F0 m 6 ls []) rfl ?_
  exact W.vret hx hb hr (fun t ht hW => ⟨⟨u, rfl, trivial, by rw [ht]; exact hP, hD⟩, hS.F ht⟩) hS.2.2 dJ4_init_da8c8_6 hlocks
