theorem c_cons {D : va_G} {H : Heap} {x y : Nat × va_E} {b1 b2 b3 b4 b5 b6 b7 b8 : va_W} (h : va_P D vwCl ([x, y] ++ b1 ++ b2 ++ b3 ++ b4 ++ b5 ++ b6 ++ b7 ++ b8) H) : va_P D vwCl ([x] ++ y :: (b1 ++ b2 ++ b3 ++ b4 ++ b5 ++ b6 ++ b7 ++ b8)) H := h
set_option maxRecDepth 100000 in
theorem ji_ml_19 : Cond.methodLink RJ5 3 Lib.objectInit ∈ q_W := q_t1 145 rfl rfl
set_option maxRecDepth 100000 in
theorem ji_fl_20 : Cond.fieldLink RJ5 18 "java/lang/String" "COMPACT_STRINGS" "Z" ∈ q_W := q_t1 146 rfl rfl
set_option maxRecDepth 100000 in
theorem ji_ac_21 : Cond.arrayClass .byte ∈ q_W := q_t1 123 rfl rfl
set_option maxRecDepth 100000 in
theorem ji_fl_22 : Cond.fieldLink RJ5 15 "java/lang/AbstractStringBuilder" "value" "[B" ∈ q_W := q_t1 155 rfl rfl
set_option maxRecDepth 100000 in
theorem ji_fl_23 : Cond.fieldLink RJ5 22 "java/lang/AbstractStringBuilder" "coder" "B" ∈ q_W := q_t1 156 rfl rfl
set_option maxRecDepth 100000 in
theorem ji_ml_24 : Cond.methodLink RJ4 1 yJ5_init_d00df ∈ q_W := q_t1 142 rfl rfl
set_option maxRecDepth 100000 in
theorem ji_in_25 : Cond.instanceMethod yJ5_init_d00df ∈ q_W := q_t1 143 rfl rfl
set_option maxRecDepth 100000 in
theorem ji_ii_26 : Cond.initialized "java/lang/AbstractStringBuilder" ∈ q_W := q_t1 8 rfl rfl
set_option maxRecDepth 100000 in
theorem ji_co_27 : Cond.code yJ5_init_d00df cJ5_init_d00df 2 (Option.none : Option Jvm.ClassFile.FieldType) ∈ q_W := q_t1 144 rfl rfl
set_option maxRecDepth 100000 in
theorem ji_ml_28 : Cond.methodLink RX3 3 Lib.objectInit ∈ q_W := q_t5 0 rfl rfl
set_option maxRecDepth 100000 in
theorem ji_cl_29 : Cond.classLink RX3 9 "java/lang/StringBuilder" ∈ q_W := q_t5 1 rfl rfl
set_option maxRecDepth 100000 in
theorem ji_is_30 : Cond.instantiable "java/lang/StringBuilder" 4 ∈ q_W := q_t1 138 rfl rfl
set_option maxRecDepth 100000 in
theorem ji_ii_31 : Cond.initialized "java/lang/StringBuilder" ∈ q_W := q_t1 9 rfl rfl
set_option maxRecDepth 100000 in
theorem ji_ml_32 : Cond.methodLink RX3 11 yJ4_init_da8c8 ∈ q_W := q_t5 2 rfl rfl
set_option maxRecDepth 100000 in
theorem ji_in_33 : Cond.instanceMethod yJ4_init_da8c8 ∈ q_W := q_t1 140 rfl rfl
set_option maxRecDepth 100000 in
theorem ji_co_34 : Cond.code yJ4_init_da8c8 cJ4_init_da8c8 1 (Option.none : Option Jvm.ClassFile.FieldType) ∈ q_W := q_t1 141 rfl rfl
set_option maxRecDepth 100000 in
theorem ji_fl_35 : Cond.fieldLink RX3 12 "QuillRelay$Program" "text" "Ljava/lang/StringBuilder;" ∈ q_W := q_t5 5 rfl rfl
set_option maxRecDepth 100000 in
theorem ji_fl_36 : Cond.fieldLink RX3 18 "QuillRelay$Program" "arguments" "[I" ∈ q_W := q_t5 7 rfl rfl
set_option maxRecDepth 100000 in
theorem ji_fl_37 : Cond.fieldLink RX3 22 "QuillRelay$Verb" "START" "LQuillRelay$Verb;" ∈ q_W := q_t5 3 rfl rfl
set_option maxRecDepth 100000 in
theorem ji_fl_38 : Cond.fieldLink RX3 28 "QuillRelay$Program" "verb" "LQuillRelay$Verb;" ∈ q_W := q_t5 13 rfl rfl
set_option maxRecDepth 100000 in
theorem ji_ml_39 : Cond.methodLink RX2 3 Lib.objectInit ∈ q_W := q_t4 220 rfl rfl
set_option maxRecDepth 100000 in
theorem ji_cl_40 : Cond.classLink RX2 9 "QuillRelay$Race" ∈ q_W := q_t4 221 rfl rfl
set_option maxRecDepth 100000 in
theorem ji_fl_41 : Cond.fieldLink RX2 11 "QuillRelay$History" "rows" "[LQuillRelay$Race;" ∈ q_W := q_t4 224 rfl rfl
set_option maxRecDepth 100000 in
theorem ji_is_42 : Cond.instantiable "QuillRelay$Race" 4 ∈ q_W := q_t3 37 rfl rfl
set_option maxRecDepth 100000 in
theorem ji_ii_43 : Cond.initialized "QuillRelay$Race" ∈ q_W := q_t1 2 rfl rfl
set_option maxRecDepth 100000 in
theorem ji_ml_44 : Cond.methodLink RX2 17 yX4_init ∈ q_W := q_t4 223 rfl rfl
set_option maxRecDepth 100000 in
theorem ji_in_45 : Cond.instanceMethod yX4_init ∈ q_W := q_t4 126 rfl rfl
set_option maxRecDepth 100000 in
theorem ji_co_46 : Cond.code yX4_init cX4_init 2 (Option.none : Option Jvm.ClassFile.FieldType) ∈ q_W := q_t4 127 rfl rfl
theorem dX2_init_0 : decode cX2_init 0 = .ok (.aload_n 0, 1) := by decide +kernel
theorem dX2_init_1 : decode cX2_init 1 = .ok (.invokespecial 3, 3) := by decide +kernel
theorem dX2_init_4 : decode cX2_init 4 = .ok (.aload_n 0, 1) := by decide +kernel
theorem dX2_init_5 : decode cX2_init 5 = .ok (.bipush 8, 2) := by decide +kernel
theorem dX2_init_7 : decode cX2_init 7 = .ok (.anewarray 9, 3) := by decide +kernel
theorem dX2_init_10 : decode cX2_init 10 = .ok (.putfield 11, 3) := by decide +kernel
theorem dX2_init_13 : decode cX2_init 13 = .ok (.iconst 0, 1) := by decide +kernel
theorem dX2_init_14 : decode cX2_init 14 = .ok (.istore_n 1, 1) := by decide +kernel
theorem dX2_init_15 : decode cX2_init 15 = .ok (.iload_n 1, 1) := by decide +kernel
theorem dX2_init_16 : decode cX2_init 16 = .ok (.aload_n 0, 1) := by decide +kernel
theorem dX2_init_17 : decode cX2_init 17 = .ok (.getfield 11, 3) := by decide +kernel
theorem dX2_init_20 : decode cX2_init 20 = .ok (.arraylength, 1) := by decide +kernel
theorem dX2_init_21 : decode cX2_init 21 = .ok (.if_icmp .ge 22, 3) := by decide +kernel
theorem dX2_init_24 : decode cX2_init 24 = .ok (.aload_n 0, 1) := by decide +kernel
theorem dX2_init_25 : decode cX2_init 25 = .ok (.getfield 11, 3) := by decide +kernel
theorem dX2_init_28 : decode cX2_init 28 = .ok (.iload_n 1, 1) := by decide +kernel
theorem dX2_init_29 : decode cX2_init 29 = .ok (.new 9, 3) := by decide +kernel
theorem dX2_init_32 : decode cX2_init 32 = .ok (.dup, 1) := by decide +kernel
theorem dX2_init_33 : decode cX2_init 33 = .ok (.invokespecial 17, 3) := by decide +kernel
theorem dX2_init_36 : decode cX2_init 36 = .ok (.aastore, 1) := by decide +kernel
theorem dX2_init_37 : decode cX2_init 37 = .ok (.iinc 1 1, 3) := by decide +kernel
theorem dX2_init_40 : decode cX2_init 40 = .ok (.goto (-25), 3) := by decide +kernel
theorem dX2_init_43 : decode cX2_init 43 = .ok (.return_, 1) := by decide +kernel
theorem dX3_init_0 : decode cX3_init 0 = .ok (.aload_n 0, 1) := by decide +kernel
theorem dX3_init_1 : decode cX3_init 1 = .ok (.invokespecial 3, 3) := by decide +kernel
theorem dX3_init_4 : decode cX3_init 4 = .ok (.aload_n 0, 1) := by decide +kernel
theorem dX3_init_5 : decode cX3_init 5 = .ok (.new 9, 3) := by decide +kernel
theorem dX3_init_8 : decode cX3_init 8 = .ok (.dup, 1) := by decide +kernel
theorem dX3_init_9 : decode cX3_init 9 = .ok (.invokespecial 11, 3) := by decide +kernel
theorem dX3_init_12 : decode cX3_init 12 = .ok (.putfield 12, 3) := by decide +kernel
theorem dX3_init_15 : decode cX3_init 15 = .ok (.aload_n 0, 1) := by decide +kernel
theorem dX3_init_16 : decode cX3_init 16 = .ok (.iconst 3, 1) := by decide +kernel
theorem dX3_init_17 : decode cX3_init 17 = .ok (.newarray .int, 2) := by decide +kernel
theorem dX3_init_19 : decode cX3_init 19 = .ok (.putfield 18, 3) := by decide +kernel
theorem dX3_init_22 : decode cX3_init 22 = .ok (.aload_n 0, 1) := by decide +kernel
theorem dX3_init_23 : decode cX3_init 23 = .ok (.getstatic 22, 3) := by decide +kernel
theorem dX3_init_26 : decode cX3_init 26 = .ok (.putfield 28, 3) := by decide +kernel
theorem dX3_init_29 : decode cX3_init 29 = .ok (.return_, 1) := by decide +kernel
set_option maxRecDepth 100000 in
set_option maxHeartbeats 4000000 in
theorem c_initA {α β : Nat → Nat} {D : va_G} {κ : Nat → ClassId} (h : Nat) (l : Launch) (sz : Nat) : Met l yJ5_init_d00df (Cond.code yJ5_init_d00df cJ5_init_d00df 2 (Option.none : Option Jvm.ClassFile.FieldType) :: q_W) ({ frames := 1, cells := 1, slots := 16, locals := 21 } : Room) (c_Pc α β D κ [.ref h, .int 16] [(h, .inr (1, [.null, .int 0, .int 0, .int 0]))] sz) (va_Qv (fun _ : Nat => True) (fun u t => va_P D vwCl [(h, .inr (1, [.ref u, .int 0, .int 0, .int 0])), (u, .inl (κ 1, 16, .inl (fun _ => 0)))] t.heap ∧ va_D (va_A [(h, .inr (1, [.null, .int 0, .int 0, .int 0]))] sz) [(h, .inr (1, [.ref u, .int 0, .int 0, .int 0])), (u, .inl (κ 1, 16, .inl (fun _ => 0)))]) (va_A [(h, .inr (1, [.null, .int 0, .int 0, .int 0]))] sz)) 1 16 (va_A [(h, .inr (1, [.null, .int 0, .int 0, .int 0]))] sz) := by
  refine Met.ofW (cc := cJ5_init_d00df) (maxL := 2) (ret := (Option.none : Option Jvm.ClassFile.FieldType)) (by decide) rfl ?_
  intro p e s m args below meth c s₁ B hml hv
  obtain ⟨C, hr, ⟨ls, hle, hl⟩, hP, hD, hS⟩ := c_enter RJ5 rfl (Nat.le_of_ble_eq_true rfl) B hml hv
  obtain rfl : s.heap.size = sz := hv.2.1
  clear hv
  have hin : meth.name = "<init>" := (name_of_methodNamed B.named B.method).1
  rw [hle]
  generalize va_A [(h, .inr (1, [.null, .int 0, .int 0, .int 0]))] s.heap.size = A0 at C hD hS ⊢
  have hl : lv_has ls 2 [(0, .ref h), (1, .int 16)] := hl
  have C0 := C
  obtain ⟨hx, hb, -, hown, hts, hK, ⟨hE, hAO6, hAO4⟩, hA, hlocks⟩ := C
  refine lv_aload_n hx hb dJ5_init_d00df_0 rfl (lv_at hl 0 rfl) ?_
  refine W.objInit hx hb hown (hts _ ji_ml_19) (hts _ ji_in_1) (hts _ ji_co_2) rfl (by rw [C0.2.2.1]; exact hl.1) rfl dJ5_init_d00df_1 (Nat.le_of_ble_eq_true rfl) (Nat.le_of_ble_eq_true rfl) ?_
  refine W.eq (g2 := F0 m 4 ls []) rfl ?_
  refine va_gets hx hb (hE.2.2.2.2.2.2.2.2.2.1.2.1) hS hown (hts _ ji_fl_20) (fun _ h9 => h9) dJ5_init_d00df_4 ?_
  refine lv_if_eq hx hb dJ5_init_d00df_7 (tgt := 25) (by decide) (fun hq9 => absurd hq9 ((by decide : ¬ (1 : Int32) = 0))) (fun _ => ?_)
  refine lv_aload_n hx hb dJ5_init_d00df_10 rfl (lv_at hl 0 rfl) ?_
  refine lv_iload_n hx hb dJ5_init_d00df_11 rfl (lv_at hl 1 rfl) ?_
  refine va_newa (atype := .byte) (ty := .byte) (a0 := (16, .inl (fun _ => 0))) (N' := 16) hx hb (hts _ ji_ac_21) rfl hK hP hD hS hA (fun cA => rfl) (by decide) (by decide) (by decide) (by show 0 + 1 ≤ 1; omega) (by show 0 + 16 ≤ 16; omega) dJ5_init_d00df_12 (fun q1 cA H hK2 hP hD hS => ?_)
  obtain rfl := c_arr (k := 1) rfl hK hK2
  clear hK2
  have hP : va_P D vwCl [(h, .inr (1, [.null, .int 0, .int 0, .int 0])), (q1, .inl (κ 1, 16, .inl (fun _ => 0)))] H := hP
  have hD : va_D A0 [(h, .inr (1, [.null, .int 0, .int 0, .int 0])), (q1, .inl (κ 1, 16, .inl (fun _ => 0)))] := hD
  refine va_put (ty := (.array .byte)) (ci := 1) (C := RJ4) (T := TJ4) (N := 4) hx hb hts q_u_J4 tyJ4 tyJ4_ok nmJ4 hown hK hP hD hS 0 rfl rfl 0 (by decide) (hts _ ji_fl_22) (fun _ h9 => h9) rfl (by decide +kernel) rfl rfl (Nat.le_of_ble_eq_true rfl) dJ5_init_d00df_14 (fun H locs hP hD hS => ?_)
  have hP : va_P D vwCl [(h, .inr (1, [.ref q1, .int 0, .int 0, .int 0])), (q1, .inl (κ 1, 16, .inl (fun _ => 0)))] H := hP
  have hD : va_D A0 [(h, .inr (1, [.ref q1, .int 0, .int 0, .int 0])), (q1, .inl (κ 1, 16, .inl (fun _ => 0)))] := hD
  refine lv_aload_n hx hb dJ5_init_d00df_17 rfl (lv_at hl 0 rfl) ?_
  refine lv_iconst hx hb dJ5_init_d00df_18 (by decide : Int32.ofInt 0 = 0) ?_
  refine va_put (ty := .byte) (ci := 1) (C := RJ4) (T := TJ4) (N := 4) hx hb hts q_u_J4 tyJ4 tyJ4_ok nmJ4 hown hK hP hD hS 0 rfl rfl 1 (by decide) (hts _ ji_fl_23) (fun _ h9 => h9) rfl (by decide +kernel) rfl rfl (Nat.le_of_ble_eq_true rfl) dJ5_init_d00df_19 (fun H locs hP hD hS => ?_)
  have hP : va_P D vwCl [(h, .inr (1, [.ref q1, .int 0, .int 0, .int 0])), (q1, .inl (κ 1, 16, .inl (fun _ => 0)))] H := hP
  have hD : va_D A0 [(h, .inr (1, [.ref q1, .int 0, .int 0, .int 0])), (q1, .inl (κ 1, 16, .inl (fun _ => 0)))] := hD
  refine lv_goto hx hb dJ5_init_d00df_22 (tgt := 38) (by decide) ?_
  exact W.vret hx hb hr (fun t ht hW => ⟨⟨q1, rfl, trivial, by rw [ht]; exact hP, hD⟩, hS.F ht⟩) hS.2.2 dJ5_init_d00df_38 hlocks
set_option maxRecDepth 100000 in
set_option maxHeartbeats 4000000 in
theorem c_initS {α β : Nat → Nat} {D : va_G} {κ : Nat → ClassId} (h : Nat) (l : Launch) (sz : Nat) : Met l yJ4_init_da8c8 (Cond.code yJ4_init_da8c8 cJ4_init_da8c8 1 (Option.none : Option Jvm.ClassFile.FieldType) :: q_W) ({ frames := 2, cells := 1, slots := 16, locals := 45 } : Room) (c_Pc α β D κ [.ref h] [(h, .inr (1, [.null, .int 0, .int 0, .int 0]))] sz) (va_Qv (fun _ : Nat => True) (fun u t => va_P D vwCl [(h, .inr (1, [.ref u, .int 0, .int 0, .int 0])), (u, .inl (κ 1, 16, .inl (fun _ => 0)))] t.heap ∧ va_D (va_A [(h, .inr (1, [.null, .int 0, .int 0, .int 0]))] sz) [(h, .inr (1, [.ref u, .int 0, .int 0, .int 0])), (u, .inl (κ 1, 16, .inl (fun _ => 0)))]) (va_A [(h, .inr (1, [.null, .int 0, .int 0, .int 0]))] sz)) 1 16 (va_A [(h, .inr (1, [.null, .int 0, .int 0, .int 0]))] sz) := by
  refine Met.ofW (cc := cJ4_init_da8c8) (maxL := 1) (ret := (Option.none : Option Jvm.ClassFile.FieldType)) (by decide) rfl ?_
  intro p e s m args below meth c s₁ B hml hv
  obtain ⟨C, hr, ⟨ls, hle, hl⟩, hP, hD, hS⟩ := c_enter RJ4 rfl (Nat.le_of_ble_eq_true rfl) B hml hv
  obtain rfl : s.heap.size = sz := hv.2.1
  clear hv
  have hin : meth.name = "<init>" := (name_of_methodNamed B.named B.method).1
  rw [hle]
  generalize va_A [(h, .inr (1, [.null, .int 0, .int 0, .int 0]))] s.heap.size = A0 at C hD hS ⊢
  have hl : lv_has ls 1 [(0, .ref h)] := hl
  have C0 := C
  obtain ⟨hx, hb, -, hown, hts, hK, ⟨hE, hAO6, hAO4⟩, hA, hlocks⟩ := C
  refine lv_aload_n hx hb dJ4_init_da8c8_0 rfl (lv_at hl 0 rfl) ?_
  refine lv_bipush hx hb dJ4_init_da8c8_1 (by decide : (Int8.ofInt 16).toInt32 = 16) ?_
  have hP : va_P D vwCl ([] ++ [(h, .inr (1, [.null, .int 0, .int 0, .int 0]))]) s.heap := hP
  have hD : va_D A0 ([] ++ [(h, .inr (1, [.null, .int 0, .int 0, .int 0]))]) := hD
  have hfree := c_free C0 hD hS
  refine va_callv (c_runI C0 (n := 1) (As := [.int 16]) (rest := []) ji_ml_24 ji_in_25 ji_ii_26 ji_co_27 rfl (by decide +kernel) (c_initA (α := α) (β := β) (D := D) (κ := κ) h l s.heap.size) hP hD hS rfl rfl dJ4_init_da8c8_3 hl (Nat.le_of_ble_eq_true rfl) ⟨(Nat.le_of_ble_eq_true rfl), (Nat.le_of_ble_eq_true rfl)⟩ ⟨(by show 0 + 1 ≤ 1; omega), (by show 0 + 16 ≤ 16; omega)⟩) hS (fun q _ hq => hfree q hq) hfree (fun u t H locs ht hvm hpost hB hz hk hS => ?_)
  obtain ⟨hP1, hD1⟩ := hB
  rw [ht] at hP1
  obtain ⟨hP, hD⟩ := c_join hP hD hk hfree hP1 hD1
  refine W.eq (g2 := F0 m 6 ls []) rfl ?_
  have hP : va_P D vwCl [(h, .inr (1, [.ref u, .int 0, .int 0, .int 0])), (u, .inl (κ 1, 16, .inl (fun _ => 0)))] H := hP
  have hD : va_D A0 [(h, .inr (1, [.ref u, .int 0, .int 0, .int 0])), (u, .inl (κ 1, 16, .inl (fun _ => 0)))] := hD
  exact W.vret hx hb hr (fun t ht hW => ⟨⟨u, rfl, trivial, by rw [ht]; exact hP, hD⟩, hS.F ht⟩) hS.2.2 dJ4_init_da8c8_6 hlocks
set_option maxRecDepth 100000 in
set_option maxHeartbeats 4000000 in
theorem c_initP {α β : Nat → Nat} {D : va_G} {κ : Nat → ClassId} (h : Nat) (l : Launch) (sz : Nat) : Met l yX3_init (Cond.code yX3_init cX3_init 1 (Option.none : Option Jvm.ClassFile.FieldType) :: q_W) ({ frames := 3, cells := 3, slots := 23, locals := 75 } : Room) (c_Pc α β D κ [.ref h] [(h, .inr (5, [.null, .null, .int 0, .int 0, .int 0, .null]))] sz) (va_Qv (fun _ : Nat × Nat × Nat => True) (fun u t => va_P D vwCl [(h, .inr (5, [.ref u.1, .ref u.2.2, .int 0, .int 0, .int 0, .ref (β 20)])), (u.1, .inr (1, [.ref u.2.1, .int 0, .int 0, .int 0])), (u.2.1, .inl (κ 1, 16, .inl (fun _ => 0))), (u.2.2, .inl (κ 0, 3, .inl (fun _ => 0)))] t.heap ∧ va_D (va_A [(h, .inr (5, [.null, .null, .int 0, .int 0, .int 0, .null]))] sz) [(h, .inr (5, [.ref u.1, .ref u.2.2, .int 0, .int 0, .int 0, .ref (β 20)])), (u.1, .inr (1, [.ref u.2.1, .int 0, .int 0, .int 0])), (u.2.1, .inl (κ 1, 16, .inl (fun _ => 0))), (u.2.2, .inl (κ 0, 3, .inl (fun _ => 0)))]) (va_A [(h, .inr (5, [.null, .null, .int 0, .int 0, .int 0, .null]))] sz)) 3 23 (va_A [(h, .inr (5, [.null, .null, .int 0, .int 0, .int 0, .null]))] sz) := by
  refine Met.ofW (cc := cX3_init) (maxL := 1) (ret := (Option.none : Option Jvm.ClassFile.FieldType)) (by decide) rfl ?_
  intro p e s m args below meth c s₁ B hml hv
  obtain ⟨C, hr, ⟨ls, hle, hl⟩, hP, hD, hS⟩ := c_enter RX3 rfl (Nat.le_of_ble_eq_true rfl) B hml hv
  obtain rfl : s.heap.size = sz := hv.2.1
  clear hv
  have hin : meth.name = "<init>" := (name_of_methodNamed B.named B.method).1
  rw [hle]
  generalize va_A [(h, .inr (5, [.null, .null, .int 0, .int 0, .int 0, .null]))] s.heap.size = A0 at C hD hS ⊢
  have hl : lv_has ls 1 [(0, .ref h)] := hl
  have C0 := C
  obtain ⟨hx, hb, -, hown, hts, hK, ⟨hE, hAO6, hAO4⟩, hA, hlocks⟩ := C
  refine lv_aload_n hx hb dX3_init_0 rfl (lv_at hl 0 rfl) ?_
  refine W.objInit hx hb hown (hts _ ji_ml_28) (hts _ ji_in_1) (hts _ ji_co_2) rfl (by rw [C0.2.2.1]; exact hl.1) rfl dX3_init_1 (Nat.le_of_ble_eq_true rfl) (Nat.le_of_ble_eq_true rfl) ?_
  refine W.eq (g2 := F0 m 4 ls []) rfl ?_
  refine lv_aload_n hx hb dX3_init_4 rfl (lv_at hl 0 rfl) ?_
  refine va_new (ci := 1) (fs := [.null, .int 0, .int 0, .int 0]) (C := RJ4) (T := TJ4) (N := 4) hx hb hts q_u_J4 tyJ4 tyJ4_ok hown (hts _ ji_cl_29) (hts _ ji_is_30) (hts _ ji_ii_31) hK hP hD hS hA rfl (fun j hj => by rcases (show j = 0 ∨ j = 1 ∨ j = 2 ∨ j = 3 by omega) with rfl | rfl | rfl | rfl <;> rfl) (by show 0 + 1 ≤ 3; omega) (by show 0 + 4 ≤ 23; omega) dX3_init_5 (fun q1 H hP hD hS => ?_)
  have hP : va_P D vwCl ([(h, .inr (5, [.null, .null, .int 0, .int 0, .int 0, .null]))] ++ [(q1, .inr (1, [.null, .int 0, .int 0, .int 0]))]) H := hP
  have hD : va_D A0 ([(h, .inr (5, [.null, .null, .int 0, .int 0, .int 0, .null]))] ++ [(q1, .inr (1, [.null, .int 0, .int 0, .int 0]))]) := hD
  refine lv_dup hx hb dX3_init_8 rfl ?_
  have hfree := c_free C0 hD hS
  refine va_callv (c_runI C0 (n := 0) (As := []) (rest := [.ref q1, .ref h]) ji_ml_32 ji_in_33 ji_ii_31 ji_co_34 rfl (by decide +kernel) (c_initS (α := α) (β := β) (D := D) (κ := κ) q1 l H.size) hP hD hS rfl rfl dX3_init_9 hl (Nat.le_of_ble_eq_true rfl) ⟨(Nat.le_of_ble_eq_true rfl), (Nat.le_of_ble_eq_true rfl)⟩ ⟨(by show 0 + 1 + 1 ≤ 3; omega), (by show 0 + 4 + 16 ≤ 23; omega)⟩) hS (fun q _ hq => hfree q hq) hfree (fun u t H locs ht hvm hpost hB hz hk hS => ?_)
  obtain ⟨hP1, hD1⟩ := hB
  rw [ht] at hP1
  obtain ⟨hP, hD⟩ := c_join hP hD hk hfree hP1 hD1
  have hP : va_P D vwCl [(h, .inr (5, [.null, .null, .int 0, .int 0, .int 0, .null])), (q1, .inr (1, [.ref u, .int 0, .int 0, .int 0])), (u, .inl (κ 1, 16, .inl (fun _ => 0)))] H := hP
  have hD : va_D A0 [(h, .inr (5, [.null, .null, .int 0, .int 0, .int 0, .null])), (q1, .inr (1, [.ref u, .int 0, .int 0, .int 0])), (u, .inl (κ 1, 16, .inl (fun _ => 0)))] := hD
  refine W.eq (g2 := F0 m 12 ls [.ref q1, .ref h]) rfl ?_
  refine va_putF (ty := (.object "java/lang/StringBuilder")) (ci := 5) (C := RX3) (T := TX3) (N := 6) hx hb hts q_u_X3 tyX3 tyX3_ok nmX3 hown hK hP hD hS 0 rfl rfl 0 (by decide) (hts _ ji_fl_35) (fun _ h9 => h9) rfl hin rfl (by decide +kernel) rfl rfl (Nat.le_of_ble_eq_true rfl) dX3_init_12 (fun H locs hP hD hS => ?_)
  have hP : va_P D vwCl [(h, .inr (5, [.ref q1, .null, .int 0, .int 0, .int 0, .null])), (q1, .inr (1, [.ref u, .int 0, .int 0, .int 0])), (u, .inl (κ 1, 16, .inl (fun _ => 0)))] H := hP
  have hD : va_D A0 [(h, .inr (5, [.ref q1, .null, .int 0, .int 0, .int 0, .null])), (q1, .inr (1, [.ref u, .int 0, .int 0, .int 0])), (u, .inl (κ 1, 16, .inl (fun _ => 0)))] := hD
  refine lv_aload_n hx hb dX3_init_15 rfl (lv_at hl 0 rfl) ?_
  refine lv_iconst hx hb dX3_init_16 (by decide : Int32.ofInt 3 = 3) ?_
  refine va_newa (atype := .int) (ty := .int) (a0 := (3, .inl (fun _ => 0))) (N' := 3) hx hb (hts _ ji_ac_4) rfl hK hP hD hS hA (fun cA => rfl) (by decide) (by decide) (by decide) (by show 0 + 1 + 1 + 1 ≤ 3; omega) (by show 0 + 4 + 16 + 3 ≤ 23; omega) dX3_init_17 (fun q2 cA H hK2 hP hD hS => ?_)
  obtain rfl := c_arr (k := 0) rfl hK hK2
  clear hK2
  have hP : va_P D vwCl [(h, .inr (5, [.ref q1, .null, .int 0, .int 0, .int 0, .null])), (q1, .inr (1, [.ref u, .int 0, .int 0, .int 0])), (u, .inl (κ 1, 16, .inl (fun _ => 0))), (q2, .inl (κ 0, 3, .inl (fun _ => 0)))] H := hP
  have hD : va_D A0 [(h, .inr (5, [.ref q1, .null, .int 0, .int 0, .int 0, .null])), (q1, .inr (1, [.ref u, .int 0, .int 0, .int 0])), (u, .inl (κ 1, 16, .inl (fun _ => 0))), (q2, .inl (κ 0, 3, .inl (fun _ => 0)))] := hD
  refine va_putF (ty := (.array .int)) (ci := 5) (C := RX3) (T := TX3) (N := 6) hx hb hts q_u_X3 tyX3 tyX3_ok nmX3 hown hK hP hD hS 0 rfl rfl 1 (by decide) (hts _ ji_fl_36) (fun _ h9 => h9) rfl hin rfl (by decide +kernel) rfl rfl (Nat.le_of_ble_eq_true rfl) dX3_init_19 (fun H locs hP hD hS => ?_)
  have hP : va_P D vwCl [(h, .inr (5, [.ref q1, .ref q2, .int 0, .int 0, .int 0, .null])), (q1, .inr (1, [.ref u, .int 0, .int 0, .int 0])), (u, .inl (κ 1, 16, .inl (fun _ => 0))), (q2, .inl (κ 0, 3, .inl (fun _ => 0)))] H := hP
  have hD : va_D A0 [(h, .inr (5, [.ref q1, .ref q2, .int 0, .int 0, .int 0, .null])), (q1, .inr (1, [.ref u, .int 0, .int 0, .int 0])), (u, .inl (κ 1, 16, .inl (fun _ => 0))), (q2, .inl (κ 0, 3, .inl (fun _ => 0)))] := hD
  refine lv_aload_n hx hb dX3_init_22 rfl (lv_at hl 0 rfl) ?_
  refine va_gets hx hb (q_stat (n := 20) hE (Or.inr (Or.inr (by decide)))) hS hown (hts _ ji_fl_37) (fun _ h9 => h9) dX3_init_23 ?_
  refine va_put (ty := (.object "QuillRelay$Verb")) (ci := 5) (C := RX3) (T := TX3) (N := 6) hx hb hts q_u_X3 tyX3 tyX3_ok nmX3 hown hK hP hD hS 0 rfl rfl 5 (by decide) (hts _ ji_fl_38) (fun _ h9 => h9) rfl (by decide +kernel) rfl rfl (Nat.le_of_ble_eq_true rfl) dX3_init_26 (fun H locs hP hD hS => ?_)
  have hP : va_P D vwCl [(h, .inr (5, [.ref q1, .ref q2, .int 0, .int 0, .int 0, .ref (β 20)])), (q1, .inr (1, [.ref u, .int 0, .int 0, .int 0])), (u, .inl (κ 1, 16, .inl (fun _ => 0))), (q2, .inl (κ 0, 3, .inl (fun _ => 0)))] H := hP
  have hD : va_D A0 [(h, .inr (5, [.ref q1, .ref q2, .int 0, .int 0, .int 0, .ref (β 20)])), (q1, .inr (1, [.ref u, .int 0, .int 0, .int 0])), (u, .inl (κ 1, 16, .inl (fun _ => 0))), (q2, .inl (κ 0, 3, .inl (fun _ => 0)))] := hD
  exact W.vret hx hb hr (fun t ht hW => ⟨⟨(q1, u, q2), rfl, trivial, by rw [ht]; exact hP, hD⟩, hS.F ht⟩) hS.2.2 dX3_init_29 hlocks
set_option maxRecDepth 100000 in
set_option maxHeartbeats 4000000 in
theorem c_initH {α β : Nat → Nat} {D : va_G} {κ : Nat → ClassId} (h : Nat) (l : Launch) (sz : Nat) : Met l yX2_init (Cond.code yX2_init cX2_init 2 (Option.none : Option Jvm.ClassFile.FieldType) :: q_W) ({ frames := 3, cells := 161, slots := 1144, locals := 70 } : Room) (c_Pc α β D κ [.ref h] [(h, .inr (4, [.null, .int 0, .int 0]))] sz) (va_Qv (fun _ : Nat × (Nat → Nat → Nat) => True) (fun u t => va_P D vwCl (((((((([(h, .inr (4, [.ref u.1, .int 0, .int 0])), (u.1, .inl (κ 5, 8, .inr (.inr (.inr (.inr (fun i => some (u.2 i 0)))))))] ++ c_rb β κ (u.2 0)) ++ c_rb β κ (u.2 1)) ++ c_rb β κ (u.2 2)) ++ c_rb β κ (u.2 3)) ++ c_rb β κ (u.2 4)) ++ c_rb β κ (u.2 5)) ++ c_rb β κ (u.2 6)) ++ c_rb β κ (u.2 7)) t.heap ∧ va_D (va_A [(h, .inr (4, [.null, .int 0, .int 0]))] sz) (((((((([(h, .inr (4, [.ref u.1, .int 0, .int 0])), (u.1, .inl (κ 5, 8, .inr (.inr (.inr (.inr (fun i => some (u.2 i 0)))))))] ++ c_rb β κ (u.2 0)) ++ c_rb β κ (u.2 1)) ++ c_rb β κ (u.2 2)) ++ c_rb β κ (u.2 3)) ++ c_rb β κ (u.2 4)) ++ c_rb β κ (u.2 5)) ++ c_rb β κ (u.2 6)) ++ c_rb β κ (u.2 7))) (va_A [(h, .inr (4, [.null, .int 0, .int 0]))] sz)) 161 1144 (va_A [(h, .inr (4, [.null, .int 0, .int 0]))] sz) := by
  refine Met.ofW (cc := cX2_init) (maxL := 2) (ret := (Option.none : Option Jvm.ClassFile.FieldType)) (by decide) rfl ?_
  intro p e s m args below meth c s₁ B hml hv
  obtain ⟨C, hr, ⟨ls, hle, hl⟩, hP, hD, hS⟩ := c_enter RX2 rfl (Nat.le_of_ble_eq_true rfl) B hml hv
  obtain rfl : s.heap.size = sz := hv.2.1
  clear hv
  have hin : meth.name = "<init>" := (name_of_methodNamed B.named B.method).1
  rw [hle]
  generalize va_A [(h, .inr (4, [.null, .int 0, .int 0]))] s.heap.size = A0 at C hD hS ⊢
  have hl : lv_has ls 2 [(0, .ref h)] := hl
  have C0 := C
  obtain ⟨hx, hb, -, hown, hts, hK, ⟨hE, hAO6, hAO4⟩, hA, hlocks⟩ := C
  refine lv_aload_n hx hb dX2_init_0 rfl (lv_at hl 0 rfl) ?_
  refine W.objInit hx hb hown (hts _ ji_ml_39) (hts _ ji_in_1) (hts _ ji_co_2) rfl (by rw [C0.2.2.1]; exact hl.1) rfl dX2_init_1 (Nat.le_of_ble_eq_true rfl) (Nat.le_of_ble_eq_true rfl) ?_
  refine W.eq (g2 := F0 m 4 ls []) rfl ?_
  refine lv_aload_n hx hb dX2_init_4 rfl (lv_at hl 0 rfl) ?_
  refine lv_bipush hx hb dX2_init_5 (by decide : (Int8.ofInt 8).toInt32 = 8) ?_
  refine va_newq (N' := 8) hx hb hown (hts _ ji_cl_40) (hAO4) hK hP hD hS hA (by decide) (by decide) (by decide) (by show 0 + 1 ≤ 161; omega) (by show 0 + 8 ≤ 1144; omega) dX2_init_7 (fun q1 cA H hK2 hP hD hS => ?_)
  obtain rfl := c_arr (k := 3) rfl hK hK2
  clear hK2
  have hP : va_P D vwCl [(h, .inr (4, [.null, .int 0, .int 0])), (q1, .inl (κ 5, 8, .inr (.inr (.inr (.inr (fun _ => none))))))] H := hP
  have hD : va_D A0 [(h, .inr (4, [.null, .int 0, .int 0])), (q1, .inl (κ 5, 8, .inr (.inr (.inr (.inr (fun _ => none))))))] := hD
  refine va_putF (ty := (.array (.object "QuillRelay$Race"))) (ci := 4) (C := RX2) (T := TX2) (N := 3) hx hb hts q_u_X2 tyX2 tyX2_ok nmX2 hown hK hP hD hS 0 rfl rfl 0 (by decide) (hts _ ji_fl_41) (fun _ h9 => h9) rfl hin rfl (by decide +kernel) rfl rfl (Nat.le_of_ble_eq_true rfl) dX2_init_10 (fun H locs hP hD hS => ?_)
  have hP : va_P D vwCl [(h, .inr (4, [.ref q1, .int 0, .int 0])), (q1, .inl (κ 5, 8, .inr (.inr (.inr (.inr (fun _ => none))))))] H := hP
  have hD : va_D A0 [(h, .inr (4, [.ref q1, .int 0, .int 0])), (q1, .inl (κ 5, 8, .inr (.inr (.inr (.inr (fun _ => none))))))] := hD
  refine lv_iconst hx hb dX2_init_13 (by decide : Int32.ofInt 0 = 0) ?_
  refine lv_istore_n hx hb dX2_init_14 rfl hl (Nat.le_of_ble_eq_true rfl) (lv' := [(1, .int 0), (0, .ref h)]) rfl (fun ls hl => ?_)
  refine lv_iload_n hx hb dX2_init_15 rfl (lv_at hl 0 rfl) ?_
  refine lv_aload_n hx hb dX2_init_16 rfl (lv_at hl 1 rfl) ?_
  refine va_get (ci := 4) (C := RX2) (T := TX2) (N := 3) hx hb hts q_u_X2 hown hK hP 0 rfl rfl 0 (by decide) (hts _ ji_fl_41) (fun _ h9 => h9) rfl dX2_init_17 ?_
  refine va_alen hx hb hK hP 1 3 rfl rfl (v := nI 8) rfl dX2_init_20 ?_
  refine lv_topi (fun x2 hx3 => ?_)
  obtain rfl : x2 = 8 := by rw [hx3]; exact (by decide +kernel)
  refine lv_icmp_ge hx hb dX2_init_21 (tgt := 43) (by decide) (fun hq9 => absurd hq9 ((by decide : ¬ (8 : Int32) ≤ 0))) (fun _ => ?_)
  refine lv_aload_n hx hb dX2_init_24 rfl (lv_at hl 1 rfl) ?_
  refine va_get (ci := 4) (C := RX2) (T := TX2) (N := 3) hx hb hts q_u_X2 hown hK hP 0 rfl rfl 0 (by decide) (hts _ ji_fl_41) (fun _ h9 => h9) rfl dX2_init_25 ?_
  refine lv_iload_n hx hb dX2_init_28 rfl (lv_at hl 0 rfl) ?_
  refine va_new (ci := 6) (fs := [.null, .int 0, .int 0, .int 0]) (C := RX4) (T := TX4) (N := 4) hx hb hts q_u_X4 tyX4 tyX4_ok hown (hts _ ji_cl_40) (hts _ ji_is_42) (hts _ ji_ii_43) hK hP hD hS hA rfl (fun j hj => by rcases (show j = 0 ∨ j = 1 ∨ j = 2 ∨ j = 3 by omega) with rfl | rfl | rfl | rfl <;> rfl) (by show 0 + 1 + 1 ≤ 161; omega) (by show 0 + 8 + 4 ≤ 1144; omega) dX2_init_29 (fun q4 H hP hD hS => ?_)
  have hP : va_P D vwCl ([(h, .inr (4, [.ref q1, .int 0, .int 0])), (q1, .inl (κ 5, 8, .inr (.inr (.inr (.inr (fun _ => none))))))] ++ [(q4, .inr (6, [.null, .int 0, .int 0, .int 0]))]) H := hP
  have hD : va_D A0 ([(h, .inr (4, [.ref q1, .int 0, .int 0])), (q1, .inl (κ 5, 8, .inr (.inr (.inr (.inr (fun _ => none))))))] ++ [(q4, .inr (6, [.null, .int 0, .int 0, .int 0]))]) := hD
  refine lv_dup hx hb dX2_init_32 rfl ?_
  have hfree := c_free C0 hD hS
  refine va_callv (c_runI C0 (n := 0) (As := []) (rest := [.ref q4, .int 0, .ref q1]) ji_ml_44 ji_in_45 ji_ii_43 ji_co_46 rfl (by decide +kernel) (c_initR (α := α) (β := β) (D := D) (κ := κ) q4 l H.size) hP hD hS rfl rfl dX2_init_33 hl (Nat.le_of_ble_eq_true rfl) ⟨(Nat.le_of_ble_eq_true rfl), (Nat.le_of_ble_eq_true rfl)⟩ ⟨(by show 0 + 1 + 1 + 19 ≤ 161; omega), (by show 0 + 8 + 4 + 138 ≤ 1144; omega)⟩) hS (fun q _ hq => hfree q hq) hfree (fun a0 t H locs ht hvm hpost hB hz hk hS => ?_)
  obtain ⟨hP1, hD1⟩ := hB
  rw [ht] at hP1
  obtain ⟨hP, hD⟩ := c_join hP hD hk hfree hP1 hD1
  have g0 := hpost
  have hP : va_P D vwCl ([(h, .inr (4, [.ref q1, .int 0, .int 0])), (q1, .inl (κ 5, 8, .inr (.inr (.inr (.inr (fun _ => none))))))] ++ c_rb β κ a0) H := hP
  have hD : va_D A0 ([(h, .inr (4, [.ref q1, .int 0, .int 0])), (q1, .inl (κ 5, 8, .inr (.inr (.inr (.inr (fun _ => none))))))] ++ c_rb β κ a0) := hD
  refine W.eq (g2 := F0 m 36 ls [.ref q4, .int 0, .ref q1]) rfl ?_
  refine va_astq hx hb hK hP hD hS 1 3 2 6 rfl rfl (congrArg (fun z => some (z, (Sum.inr (6, (List.range 4).map (fun j => q_cv a0 β (q_fw 6 j 0 (q_s0 0 j)))) : va_E))) g0) rfl (by unfold vp_in; decide) dX2_init_36 (fun H locs hP hD hS => ?_)
  have hP : va_P D vwCl ([(h, .inr (4, [.ref q1, .int 0, .int 0])), (q1, .inl (κ 5, 8, .inr (.inr (.inr (.inr (va_up (fun _ => none) 0 (some q4)))))))] ++ c_rb β κ a0) H := hP
  have hD : va_D A0 ([(h, .inr (4, [.ref q1, .int 0, .int 0])), (q1, .inl (κ 5, 8, .inr (.inr (.inr (.inr (va_up (fun _ => none) 0 (some q4)))))))] ++ c_rb β κ a0) := hD
  refine lv_iinc hx hb dX2_init_37 hl (k := 0) rfl (by decide) (Nat.le_of_ble_eq_true rfl) (lv' := [(1, .int 1), (0, .ref h)]) rfl (fun ls hl => ?_)
  refine lv_goto hx hb dX2_init_40 (tgt := 15) (by decide) ?_
  refine lv_iload_n hx hb dX2_init_15 rfl (lv_at hl 0 rfl) ?_
  refine lv_aload_n hx hb dX2_init_16 rfl (lv_at hl 1 rfl) ?_
  refine va_get (ci := 4) (C := RX2) (T := TX2) (N := 3) hx hb hts q_u_X2 hown hK hP 0 rfl rfl 0 (by decide) (hts _ ji_fl_41) (fun _ h9 => h9) rfl dX2_init_17 ?_
  refine va_alen hx hb hK hP 1 3 rfl rfl (v := nI 8) rfl dX2_init_20 ?_
  refine lv_topi (fun x5 hx6 => ?_)
  obtain rfl : x5 = 8 := by rw [hx6]; exact (by decide +kernel)
  refine lv_icmp_ge hx hb dX2_init_21 (tgt := 43) (by decide) (fun hq9 => absurd hq9 ((by decide : ¬ (8 : Int32) ≤ 1))) (fun _ => ?_)
  refine lv_aload_n hx hb dX2_init_24 rfl (lv_at hl 1 rfl) ?_
  refine va_get (ci := 4) (C := RX2) (T := TX2) (N := 3) hx hb hts q_u_X2 hown hK hP 0 rfl rfl 0 (by decide) (hts _ ji_fl_41) (fun _ h9 => h9) rfl dX2_init_25 ?_
  refine lv_iload_n hx hb dX2_init_28 rfl (lv_at hl 0 rfl) ?_
  refine va_new (ci := 6) (fs := [.null, .int 0, .int 0, .int 0]) (C := RX4) (T := TX4) (N := 4) hx hb hts q_u_X4 tyX4 tyX4_ok hown (hts _ ji_cl_40) (hts _ ji_is_42) (hts _ ji_ii_43) hK hP hD hS hA rfl (fun j hj => by rcases (show j = 0 ∨ j = 1 ∨ j = 2 ∨ j = 3 by omega) with rfl | rfl | rfl | rfl <;> rfl) (by show 0 + 1 + 1 + 19 + 1 ≤ 161; omega) (by show 0 + 8 + 4 + 138 + 4 ≤ 1144; omega) dX2_init_29 (fun q7 H hP hD hS => ?_)
  have hP : va_P D vwCl (([(h, .inr (4, [.ref q1, .int 0, .int 0])), (q1, .inl (κ 5, 8, .inr (.inr (.inr (.inr (va_up (fun _ => none) 0 (some q4)))))))] ++ c_rb β κ a0) ++ [(q7, .inr (6, [.null, .int 0, .int 0, .int 0]))]) H := hP
  have hD : va_D A0 (([(h, .inr (4, [.ref q1, .int 0, .int 0])), (q1, .inl (κ 5, 8, .inr (.inr (.inr (.inr (va_up (fun _ => none) 0 (some q4)))))))] ++ c_rb β κ a0) ++ [(q7, .inr (6, [.null, .int 0, .int 0, .int 0]))]) := hD
  refine lv_dup hx hb dX2_init_32 rfl ?_
  have hfree := c_free C0 hD hS
  refine va_callv (c_runI C0 (n := 0) (As := []) (rest := [.ref q7, .int 1, .ref q1]) ji_ml_44 ji_in_45 ji_ii_43 ji_co_46 rfl (by decide +kernel) (c_initR (α := α) (β := β) (D := D) (κ := κ) q7 l H.size) hP hD hS rfl rfl dX2_init_33 hl (Nat.le_of_ble_eq_true rfl) ⟨(Nat.le_of_ble_eq_true rfl), (Nat.le_of_ble_eq_true rfl)⟩ ⟨(by show 0 + 1 + 1 + 19 + 1 + 19 ≤ 161; omega), (by show 0 + 8 + 4 + 138 + 4 + 138 ≤ 1144; omega)⟩) hS (fun q _ hq => hfree q hq) hfree (fun a1 t H locs ht hvm hpost hB hz hk hS => ?_)
  obtain ⟨hP1, hD1⟩ := hB
  rw [ht] at hP1
  obtain ⟨hP, hD⟩ := c_join hP hD hk hfree hP1 hD1
  have g1 := hpost
  have hP : va_P D vwCl ([(h, .inr (4, [.ref q1, .int 0, .int 0])), (q1, .inl (κ 5, 8, .inr (.inr (.inr (.inr (va_up (fun _ => none) 0 (some q4)))))))] ++ c_rb β κ a0 ++ c_rb β κ a1) H := hP
  have hD : va_D A0 ([(h, .inr (4, [.ref q1, .int 0, .int 0])), (q1, .inl (κ 5, 8, .inr (.inr (.inr (.inr (va_up (fun _ => none) 0 (some q4)))))))] ++ c_rb β κ a0 ++ c_rb β κ a1) := hD
  refine W.eq (g2 := F0 m 36 ls [.ref q7, .int 1, .ref q1]) rfl ?_
  refine va_astq hx hb hK hP hD hS 1 3 22 6 rfl rfl (congrArg (fun z => some (z, (Sum.inr (6, (List.range 4).map (fun j => q_cv a1 β (q_fw 6 j 0 (q_s0 0 j)))) : va_E))) g1) rfl (by unfold vp_in; decide) dX2_init_36 (fun H locs hP hD hS => ?_)
  have hP : va_P D vwCl ([(h, .inr (4, [.ref q1, .int 0, .int 0])), (q1, .inl (κ 5, 8, .inr (.inr (.inr (.inr (va_up (va_up (fun _ => none) 0 (some q4)) 1 (some q7)))))))] ++ c_rb β κ a0 ++ c_rb β κ a1) H := hP
  have hD : va_D A0 ([(h, .inr (4, [.ref q1, .int 0, .int 0])), (q1, .inl (κ 5, 8, .inr (.inr (.inr (.inr (va_up (va_up (fun _ => none) 0 (some q4)) 1 (some q7)))))))] ++ c_rb β κ a0 ++ c_rb β κ a1) := hD
  refine lv_iinc hx hb dX2_init_37 hl (k := 0) rfl (by decide) (Nat.le_of_ble_eq_true rfl) (lv' := [(1, .int 2), (0, .ref h)]) rfl (fun ls hl => ?_)
  refine lv_goto hx hb dX2_init_40 (tgt := 15) (by decide) ?_
  refine lv_iload_n hx hb dX2_init_15 rfl (lv_at hl 0 rfl) ?_
  refine lv_aload_n hx hb dX2_init_16 rfl (lv_at hl 1 rfl) ?_
  refine va_get (ci := 4) (C := RX2) (T := TX2) (N := 3) hx hb hts q_u_X2 hown hK hP 0 rfl rfl 0 (by decide) (hts _ ji_fl_41) (fun _ h9 => h9) rfl dX2_init_17 ?_
  refine va_alen hx hb hK hP 1 3 rfl rfl (v := nI 8) rfl dX2_init_20 ?_
  refine lv_topi (fun x8 hx9 => ?_)
  obtain rfl : x8 = 8 := by rw [hx9]; exact (by decide +kernel)
  refine lv_icmp_ge hx hb dX2_init_21 (tgt := 43) (by decide) (fun hq9 => absurd hq9 ((by decide : ¬ (8 : Int32) ≤ 2))) (fun _ => ?_)
  refine lv_aload_n hx hb dX2_init_24 rfl (lv_at hl 1 rfl) ?_
  refine va_get (ci := 4) (C := RX2) (T := TX2) (N := 3) hx hb hts q_u_X2 hown hK hP 0 rfl rfl 0 (by decide) (hts _ ji_fl_41) (fun _ h9 => h9) rfl dX2_init_25 ?_
  refine lv_iload_n hx hb dX2_init_28 rfl (lv_at hl 0 rfl) ?_
  refine va_new (ci := 6) (fs := [.null, .int 0, .int 0, .int 0]) (C := RX4) (T := TX4) (N := 4) hx hb hts q_u_X4 tyX4 tyX4_ok hown (hts _ ji_cl_40) (hts _ ji_is_42) (hts _ ji_ii_43) hK hP hD hS hA rfl (fun j hj => by rcases (show j = 0 ∨ j = 1 ∨ j = 2 ∨ j = 3 by omega) with rfl | rfl | rfl | rfl <;> rfl) (by show 0 + 1 + 1 + 19 + 1 + 19 + 1 ≤ 161; omega) (by show 0 + 8 + 4 + 138 + 4 + 138 + 4 ≤ 1144; omega) dX2_init_29 (fun q10 H hP hD hS => ?_)
  have hP : va_P D vwCl (([(h, .inr (4, [.ref q1, .int 0, .int 0])), (q1, .inl (κ 5, 8, .inr (.inr (.inr (.inr (va_up (va_up (fun _ => none) 0 (some q4)) 1 (some q7)))))))] ++ c_rb β κ a0 ++ c_rb β κ a1) ++ [(q10, .inr (6, [.null, .int 0, .int 0, .int 0]))]) H := hP
  have hD : va_D A0 (([(h, .inr (4, [.ref q1, .int 0, .int 0])), (q1, .inl (κ 5, 8, .inr (.inr (.inr (.inr (va_up (va_up (fun _ => none) 0 (some q4)) 1 (some q7)))))))] ++ c_rb β κ a0 ++ c_rb β κ a1) ++ [(q10, .inr (6, [.null, .int 0, .int 0, .int 0]))]) := hD
  refine lv_dup hx hb dX2_init_32 rfl ?_
  have hfree := c_free C0 hD hS
  refine va_callv (c_runI C0 (n := 0) (As := []) (rest := [.ref q10, .int 2, .ref q1]) ji_ml_44 ji_in_45 ji_ii_43 ji_co_46 rfl (by decide +kernel) (c_initR (α := α) (β := β) (D := D) (κ := κ) q10 l H.size) hP hD hS rfl rfl dX2_init_33 hl (Nat.le_of_ble_eq_true rfl) ⟨(Nat.le_of_ble_eq_true rfl), (Nat.le_of_ble_eq_true rfl)⟩ ⟨(by show 0 + 1 + 1 + 19 + 1 + 19 + 1 + 19 ≤ 161; omega), (by show 0 + 8 + 4 + 138 + 4 + 138 + 4 + 138 ≤ 1144; omega)⟩) hS (fun q _ hq => hfree q hq) hfree (fun a2 t H locs ht hvm hpost hB hz hk hS => ?_)
  obtain ⟨hP1, hD1⟩ := hB
  rw [ht] at hP1
  obtain ⟨hP, hD⟩ := c_join hP hD hk hfree hP1 hD1
  have g2 := hpost
  have hP : va_P D vwCl ([(h, .inr (4, [.ref q1, .int 0, .int 0])), (q1, .inl (κ 5, 8, .inr (.inr (.inr (.inr (va_up (va_up (fun _ => none) 0 (some q4)) 1 (some q7)))))))] ++ c_rb β κ a0 ++ c_rb β κ a1 ++ c_rb β κ a2) H := hP
  have hD : va_D A0 ([(h, .inr (4, [.ref q1, .int 0, .int 0])), (q1, .inl (κ 5, 8, .inr (.inr (.inr (.inr (va_up (va_up (fun _ => none) 0 (some q4)) 1 (some q7)))))))] ++ c_rb β κ a0 ++ c_rb β κ a1 ++ c_rb β κ a2) := hD
  refine W.eq (g2 := F0 m 36 ls [.ref q10, .int 2, .ref q1]) rfl ?_
  refine va_astq hx hb hK hP hD hS 1 3 42 6 rfl rfl (congrArg (fun z => some (z, (Sum.inr (6, (List.range 4).map (fun j => q_cv a2 β (q_fw 6 j 0 (q_s0 0 j)))) : va_E))) g2) rfl (by unfold vp_in; decide) dX2_init_36 (fun H locs hP hD hS => ?_)
  have hP : va_P D vwCl ([(h, .inr (4, [.ref q1, .int 0, .int 0])), (q1, .inl (κ 5, 8, .inr (.inr (.inr (.inr (va_up (va_up (va_up (fun _ => none) 0 (some q4)) 1 (some q7)) 2 (some q10)))))))] ++ c_rb β κ a0 ++ c_rb β κ a1 ++ c_rb β κ a2) H := hP
  have hD : va_D A0 ([(h, .inr (4, [.ref q1, .int 0, .int 0])), (q1, .inl (κ 5, 8, .inr (.inr (.inr (.inr (va_up (va_up (va_up (fun _ => none) 0 (some q4)) 1 (some q7)) 2 (some q10)))))))] ++ c_rb β κ a0 ++ c_rb β κ a1 ++ c_rb β κ a2) := hD
  refine lv_iinc hx hb dX2_init_37 hl (k := 0) rfl (by decide) (Nat.le_of_ble_eq_true rfl) (lv' := [(1, .int 3), (0, .ref h)]) rfl (fun ls hl => ?_)
  refine lv_goto hx hb dX2_init_40 (tgt := 15) (by decide) ?_
  refine lv_iload_n hx hb dX2_init_15 rfl (lv_at hl 0 rfl) ?_
  refine lv_aload_n hx hb dX2_init_16 rfl (lv_at hl 1 rfl) ?_
  refine va_get (ci := 4) (C := RX2) (T := TX2) (N := 3) hx hb hts q_u_X2 hown hK hP 0 rfl rfl 0 (by decide) (hts _ ji_fl_41) (fun _ h9 => h9) rfl dX2_init_17 ?_
  refine va_alen hx hb hK hP 1 3 rfl rfl (v := nI 8) rfl dX2_init_20 ?_
  refine lv_topi (fun x11 hx12 => ?_)
  obtain rfl : x11 = 8 := by rw [hx12]; exact (by decide +kernel)
  refine lv_icmp_ge hx hb dX2_init_21 (tgt := 43) (by decide) (fun hq9 => absurd hq9 ((by decide : ¬ (8 : Int32) ≤ 3))) (fun _ => ?_)
  refine lv_aload_n hx hb dX2_init_24 rfl (lv_at hl 1 rfl) ?_
  refine va_get (ci := 4) (C := RX2) (T := TX2) (N := 3) hx hb hts q_u_X2 hown hK hP 0 rfl rfl 0 (by decide) (hts _ ji_fl_41) (fun _ h9 => h9) rfl dX2_init_25 ?_
  refine lv_iload_n hx hb dX2_init_28 rfl (lv_at hl 0 rfl) ?_
  refine va_new (ci := 6) (fs := [.null, .int 0, .int 0, .int 0]) (C := RX4) (T := TX4) (N := 4) hx hb hts q_u_X4 tyX4 tyX4_ok hown (hts _ ji_cl_40) (hts _ ji_is_42) (hts _ ji_ii_43) hK hP hD hS hA rfl (fun j hj => by rcases (show j = 0 ∨ j = 1 ∨ j = 2 ∨ j = 3 by omega) with rfl | rfl | rfl | rfl <;> rfl) (by show 0 + 1 + 1 + 19 + 1 + 19 + 1 + 19 + 1 ≤ 161; omega) (by show 0 + 8 + 4 + 138 + 4 + 138 + 4 + 138 + 4 ≤ 1144; omega) dX2_init_29 (fun q13 H hP hD hS => ?_)
  have hP : va_P D vwCl (([(h, .inr (4, [.ref q1, .int 0, .int 0])), (q1, .inl (κ 5, 8, .inr (.inr (.inr (.inr (va_up (va_up (va_up (fun _ => none) 0 (some q4)) 1 (some q7)) 2 (some q10)))))))] ++ c_rb β κ a0 ++ c_rb β κ a1 ++ c_rb β κ a2) ++ [(q13, .inr (6, [.null, .int 0, .int 0, .int 0]))]) H := hP
  have hD : va_D A0 (([(h, .inr (4, [.ref q1, .int 0, .int 0])), (q1, .inl (κ 5, 8, .inr (.inr (.inr (.inr (va_up (va_up (va_up (fun _ => none) 0 (some q4)) 1 (some q7)) 2 (some q10)))))))] ++ c_rb β κ a0 ++ c_rb β κ a1 ++ c_rb β κ a2) ++ [(q13, .inr (6, [.null, .int 0, .int 0, .int 0]))]) := hD
  refine lv_dup hx hb dX2_init_32 rfl ?_
  have hfree := c_free C0 hD hS
  refine va_callv (c_runI C0 (n := 0) (As := []) (rest := [.ref q13, .int 3, .ref q1]) ji_ml_44 ji_in_45 ji_ii_43 ji_co_46 rfl (by decide +kernel) (c_initR (α := α) (β := β) (D := D) (κ := κ) q13 l H.size) hP hD hS rfl rfl dX2_init_33 hl (Nat.le_of_ble_eq_true rfl) ⟨(Nat.le_of_ble_eq_true rfl), (Nat.le_of_ble_eq_true rfl)⟩ ⟨(by show 0 + 1 + 1 + 19 + 1 + 19 + 1 + 19 + 1 + 19 ≤ 161; omega), (by show 0 + 8 + 4 + 138 + 4 + 138 + 4 + 138 + 4 + 138 ≤ 1144; omega)⟩) hS (fun q _ hq => hfree q hq) hfree (fun a3 t H locs ht hvm hpost hB hz hk hS => ?_)
  obtain ⟨hP1, hD1⟩ := hB
  rw [ht] at hP1
  obtain ⟨hP, hD⟩ := c_join hP hD hk hfree hP1 hD1
  have g3 := hpost
  have hP : va_P D vwCl ([(h, .inr (4, [.ref q1, .int 0, .int 0])), (q1, .inl (κ 5, 8, .inr (.inr (.inr (.inr (va_up (va_up (va_up (fun _ => none) 0 (some q4)) 1 (some q7)) 2 (some q10)))))))] ++ c_rb β κ a0 ++ c_rb β κ a1 ++ c_rb β κ a2 ++ c_rb β κ a3) H := hP
  have hD : va_D A0 ([(h, .inr (4, [.ref q1, .int 0, .int 0])), (q1, .inl (κ 5, 8, .inr (.inr (.inr (.inr (va_up (va_up (va_up (fun _ => none) 0 (some q4)) 1 (some q7)) 2 (some q10)))))))] ++ c_rb β κ a0 ++ c_rb β κ a1 ++ c_rb β κ a2 ++ c_rb β κ a3) := hD
  refine W.eq (g2 := F0 m 36 ls [.ref q13, .int 3, .ref q1]) rfl ?_
  refine va_astq hx hb hK hP hD hS 1 3 62 6 rfl rfl (congrArg (fun z => some (z, (Sum.inr (6, (List.range 4).map (fun j => q_cv a3 β (q_fw 6 j 0 (q_s0 0 j)))) : va_E))) g3) rfl (by unfold vp_in; decide) dX2_init_36 (fun H locs hP hD hS => ?_)
  have hP : va_P D vwCl ([(h, .inr (4, [.ref q1, .int 0, .int 0])), (q1, .inl (κ 5, 8, .inr (.inr (.inr (.inr (va_up (va_up (va_up (va_up (fun _ => none) 0 (some q4)) 1 (some q7)) 2 (some q10)) 3 (some q13)))))))] ++ c_rb β κ a0 ++ c_rb β κ a1 ++ c_rb β κ a2 ++ c_rb β κ a3) H := hP
  have hD : va_D A0 ([(h, .inr (4, [.ref q1, .int 0, .int 0])), (q1, .inl (κ 5, 8, .inr (.inr (.inr (.inr (va_up (va_up (va_up (va_up (fun _ => none) 0 (some q4)) 1 (some q7)) 2 (some q10)) 3 (some q13)))))))] ++ c_rb β κ a0 ++ c_rb β κ a1 ++ c_rb β κ a2 ++ c_rb β κ a3) := hD
  refine lv_iinc hx hb dX2_init_37 hl (k := 0) rfl (by decide) (Nat.le_of_ble_eq_true rfl) (lv' := [(1, .int 4), (0, .ref h)]) rfl (fun ls hl => ?_)
  refine lv_goto hx hb dX2_init_40 (tgt := 15) (by decide) ?_
  refine lv_iload_n hx hb dX2_init_15 rfl (lv_at hl 0 rfl) ?_
  refine lv_aload_n hx hb dX2_init_16 rfl (lv_at hl 1 rfl) ?_
  refine va_get (ci := 4) (C := RX2) (T := TX2) (N := 3) hx hb hts q_u_X2 hown hK hP 0 rfl rfl 0 (by decide) (hts _ ji_fl_41) (fun _ h9 => h9) rfl dX2_init_17 ?_
  refine va_alen hx hb hK hP 1 3 rfl rfl (v := nI 8) rfl dX2_init_20 ?_
  refine lv_topi (fun x14 hx15 => ?_)
  obtain rfl : x14 = 8 := by rw [hx15]; exact (by decide +kernel)
  refine lv_icmp_ge hx hb dX2_init_21 (tgt := 43) (by decide) (fun hq9 => absurd hq9 ((by decide : ¬ (8 : Int32) ≤ 4))) (fun _ => ?_)
  refine lv_aload_n hx hb dX2_init_24 rfl (lv_at hl 1 rfl) ?_
  refine va_get (ci := 4) (C := RX2) (T := TX2) (N := 3) hx hb hts q_u_X2 hown hK hP 0 rfl rfl 0 (by decide) (hts _ ji_fl_41) (fun _ h9 => h9) rfl dX2_init_25 ?_
  refine lv_iload_n hx hb dX2_init_28 rfl (lv_at hl 0 rfl) ?_
  refine va_new (ci := 6) (fs := [.null, .int 0, .int 0, .int 0]) (C := RX4) (T := TX4) (N := 4) hx hb hts q_u_X4 tyX4 tyX4_ok hown (hts _ ji_cl_40) (hts _ ji_is_42) (hts _ ji_ii_43) hK hP hD hS hA rfl (fun j hj => by rcases (show j = 0 ∨ j = 1 ∨ j = 2 ∨ j = 3 by omega) with rfl | rfl | rfl | rfl <;> rfl) (by show 0 + 1 + 1 + 19 + 1 + 19 + 1 + 19 + 1 + 19 + 1 ≤ 161; omega) (by show 0 + 8 + 4 + 138 + 4 + 138 + 4 + 138 + 4 + 138 + 4 ≤ 1144; omega) dX2_init_29 (fun q16 H hP hD hS => ?_)
  have hP : va_P D vwCl (([(h, .inr (4, [.ref q1, .int 0, .int 0])), (q1, .inl (κ 5, 8, .inr (.inr (.inr (.inr (va_up (va_up (va_up (va_up (fun _ => none) 0 (some q4)) 1 (some q7)) 2 (some q10)) 3 (some q13)))))))] ++ c_rb β κ a0 ++ c_rb β κ a1 ++ c_rb β κ a2 ++ c_rb β κ a3) ++ [(q16, .inr (6, [.null, .int 0, .int 0, .int 0]))]) H := hP
  have hD : va_D A0 (([(h, .inr (4, [.ref q1, .int 0, .int 0])), (q1, .inl (κ 5, 8, .inr (.inr (.inr (.inr (va_up (va_up (va_up (va_up (fun _ => none) 0 (some q4)) 1 (some q7)) 2 (some q10)) 3 (some q13)))))))] ++ c_rb β κ a0 ++ c_rb β κ a1 ++ c_rb β κ a2 ++ c_rb β κ a3) ++ [(q16, .inr (6, [.null, .int 0, .int 0, .int 0]))]) := hD
  refine lv_dup hx hb dX2_init_32 rfl ?_
  have hfree := c_free C0 hD hS
  refine va_callv (c_runI C0 (n := 0) (As := []) (rest := [.ref q16, .int 4, .ref q1]) ji_ml_44 ji_in_45 ji_ii_43 ji_co_46 rfl (by decide +kernel) (c_initR (α := α) (β := β) (D := D) (κ := κ) q16 l H.size) hP hD hS rfl rfl dX2_init_33 hl (Nat.le_of_ble_eq_true rfl) ⟨(Nat.le_of_ble_eq_true rfl), (Nat.le_of_ble_eq_true rfl)⟩ ⟨(by show 0 + 1 + 1 + 19 + 1 + 19 + 1 + 19 + 1 + 19 + 1 + 19 ≤ 161; omega), (by show 0 + 8 + 4 + 138 + 4 + 138 + 4 + 138 + 4 + 138 + 4 + 138 ≤ 1144; omega)⟩) hS (fun q _ hq => hfree q hq) hfree (fun a4 t H locs ht hvm hpost hB hz hk hS => ?_)
  obtain ⟨hP1, hD1⟩ := hB
  rw [ht] at hP1
  obtain ⟨hP, hD⟩ := c_join hP hD hk hfree hP1 hD1
  have g4 := hpost
  have hP : va_P D vwCl ([(h, .inr (4, [.ref q1, .int 0, .int 0])), (q1, .inl (κ 5, 8, .inr (.inr (.inr (.inr (va_up (va_up (va_up (va_up (fun _ => none) 0 (some q4)) 1 (some q7)) 2 (some q10)) 3 (some q13)))))))] ++ c_rb β κ a0 ++ c_rb β κ a1 ++ c_rb β κ a2 ++ c_rb β κ a3 ++ c_rb β κ a4) H := hP
  have hD : va_D A0 ([(h, .inr (4, [.ref q1, .int 0, .int 0])), (q1, .inl (κ 5, 8, .inr (.inr (.inr (.inr (va_up (va_up (va_up (va_up (fun _ => none) 0 (some q4)) 1 (some q7)) 2 (some q10)) 3 (some q13)))))))] ++ c_rb β κ a0 ++ c_rb β κ a1 ++ c_rb β κ a2 ++ c_rb β κ a3 ++ c_rb β κ a4) := hD
  refine W.eq (g2 := F0 m 36 ls [.ref q16, .int 4, .ref q1]) rfl ?_
  refine va_astq hx hb hK hP hD hS 1 3 82 6 rfl rfl (congrArg (fun z => some (z, (Sum.inr (6, (List.range 4).map (fun j => q_cv a4 β (q_fw 6 j 0 (q_s0 0 j)))) : va_E))) g4) rfl (by unfold vp_in; decide) dX2_init_36 (fun H locs hP hD hS => ?_)
  have hP : va_P D vwCl ([(h, .inr (4, [.ref q1, .int 0, .int 0])), (q1, .inl (κ 5, 8, .inr (.inr (.inr (.inr (va_up (va_up (va_up (va_up (va_up (fun _ => none) 0 (some q4)) 1 (some q7)) 2 (some q10)) 3 (some q13)) 4 (some q16)))))))] ++ c_rb β κ a0 ++ c_rb β κ a1 ++ c_rb β κ a2 ++ c_rb β κ a3 ++ c_rb β κ a4) H := hP
  have hD : va_D A0 ([(h, .inr (4, [.ref q1, .int 0, .int 0])), (q1, .inl (κ 5, 8, .inr (.inr (.inr (.inr (va_up (va_up (va_up (va_up (va_up (fun _ => none) 0 (some q4)) 1 (some q7)) 2 (some q10)) 3 (some q13)) 4 (some q16)))))))] ++ c_rb β κ a0 ++ c_rb β κ a1 ++ c_rb β κ a2 ++ c_rb β κ a3 ++ c_rb β κ a4) := hD
  refine lv_iinc hx hb dX2_init_37 hl (k := 0) rfl (by decide) (Nat.le_of_ble_eq_true rfl) (lv' := [(1, .int 5), (0, .ref h)]) rfl (fun ls hl => ?_)
  refine lv_goto hx hb dX2_init_40 (tgt := 15) (by decide) ?_
  refine lv_iload_n hx hb dX2_init_15 rfl (lv_at hl 0 rfl) ?_
  refine lv_aload_n hx hb dX2_init_16 rfl (lv_at hl 1 rfl) ?_
  refine va_get (ci := 4) (C := RX2) (T := TX2) (N := 3) hx hb hts q_u_X2 hown hK hP 0 rfl rfl 0 (by decide) (hts _ ji_fl_41) (fun _ h9 => h9) rfl dX2_init_17 ?_
  refine va_alen hx hb hK hP 1 3 rfl rfl (v := nI 8) rfl dX2_init_20 ?_
  refine lv_topi (fun x17 hx18 => ?_)
  obtain rfl : x17 = 8 := by rw [hx18]; exact (by decide +kernel)
  refine lv_icmp_ge hx hb dX2_init_21 (tgt := 43) (by decide) (fun hq9 => absurd hq9 ((by decide : ¬ (8 : Int32) ≤ 5))) (fun _ => ?_)
  refine lv_aload_n hx hb dX2_init_24 rfl (lv_at hl 1 rfl) ?_
  refine va_get (ci := 4) (C := RX2) (T := TX2) (N := 3) hx hb hts q_u_X2 hown hK hP 0 rfl rfl 0 (by decide) (hts _ ji_fl_41) (fun _ h9 => h9) rfl dX2_init_25 ?_
  refine lv_iload_n hx hb dX2_init_28 rfl (lv_at hl 0 rfl) ?_
  refine va_new (ci := 6) (fs := [.null, .int 0, .int 0, .int 0]) (C := RX4) (T := TX4) (N := 4) hx hb hts q_u_X4 tyX4 tyX4_ok hown (hts _ ji_cl_40) (hts _ ji_is_42) (hts _ ji_ii_43) hK hP hD hS hA rfl (fun j hj => by rcases (show j = 0 ∨ j = 1 ∨ j = 2 ∨ j = 3 by omega) with rfl | rfl | rfl | rfl <;> rfl) (by show 0 + 1 + 1 + 19 + 1 + 19 + 1 + 19 + 1 + 19 + 1 + 19 + 1 ≤ 161; omega) (by show 0 + 8 + 4 + 138 + 4 + 138 + 4 + 138 + 4 + 138 + 4 + 138 + 4 ≤ 1144; omega) dX2_init_29 (fun q19 H hP hD hS => ?_)
  have hP : va_P D vwCl (([(h, .inr (4, [.ref q1, .int 0, .int 0])), (q1, .inl (κ 5, 8, .inr (.inr (.inr (.inr (va_up (va_up (va_up (va_up (va_up (fun _ => none) 0 (some q4)) 1 (some q7)) 2 (some q10)) 3 (some q13)) 4 (some q16)))))))] ++ c_rb β κ a0 ++ c_rb β κ a1 ++ c_rb β κ a2 ++ c_rb β κ a3 ++ c_rb β κ a4) ++ [(q19, .inr (6, [.null, .int 0, .int 0, .int 0]))]) H := hP
  have hD : va_D A0 (([(h, .inr (4, [.ref q1, .int 0, .int 0])), (q1, .inl (κ 5, 8, .inr (.inr (.inr (.inr (va_up (va_up (va_up (va_up (va_up (fun _ => none) 0 (some q4)) 1 (some q7)) 2 (some q10)) 3 (some q13)) 4 (some q16)))))))] ++ c_rb β κ a0 ++ c_rb β κ a1 ++ c_rb β κ a2 ++ c_rb β κ a3 ++ c_rb β κ a4) ++ [(q19, .inr (6, [.null, .int 0, .int 0, .int 0]))]) := hD
  refine lv_dup hx hb dX2_init_32 rfl ?_
  have hfree := c_free C0 hD hS
  refine va_callv (c_runI C0 (n := 0) (As := []) (rest := [.ref q19, .int 5, .ref q1]) ji_ml_44 ji_in_45 ji_ii_43 ji_co_46 rfl (by decide +kernel) (c_initR (α := α) (β := β) (D := D) (κ := κ) q19 l H.size) hP hD hS rfl rfl dX2_init_33 hl (Nat.le_of_ble_eq_true rfl) ⟨(Nat.le_of_ble_eq_true rfl), (Nat.le_of_ble_eq_true rfl)⟩ ⟨(by show 0 + 1 + 1 + 19 + 1 + 19 + 1 + 19 + 1 + 19 + 1 + 19 + 1 + 19 ≤ 161; omega), (by show 0 + 8 + 4 + 138 + 4 + 138 + 4 + 138 + 4 + 138 + 4 + 138 + 4 + 138 ≤ 1144; omega)⟩) hS (fun q _ hq => hfree q hq) hfree (fun a5 t H locs ht hvm hpost hB hz hk hS => ?_)
  obtain ⟨hP1, hD1⟩ := hB
  rw [ht] at hP1
  obtain ⟨hP, hD⟩ := c_join hP hD hk hfree hP1 hD1
  have g5 := hpost
  have hP : va_P D vwCl ([(h, .inr (4, [.ref q1, .int 0, .int 0])), (q1, .inl (κ 5, 8, .inr (.inr (.inr (.inr (va_up (va_up (va_up (va_up (va_up (fun _ => none) 0 (some q4)) 1 (some q7)) 2 (some q10)) 3 (some q13)) 4 (some q16)))))))] ++ c_rb β κ a0 ++ c_rb β κ a1 ++ c_rb β κ a2 ++ c_rb β κ a3 ++ c_rb β κ a4 ++ c_rb β κ a5) H := hP
  have hD : va_D A0 ([(h, .inr (4, [.ref q1, .int 0, .int 0])), (q1, .inl (κ 5, 8, .inr (.inr (.inr (.inr (va_up (va_up (va_up (va_up (va_up (fun _ => none) 0 (some q4)) 1 (some q7)) 2 (some q10)) 3 (some q13)) 4 (some q16)))))))] ++ c_rb β κ a0 ++ c_rb β κ a1 ++ c_rb β κ a2 ++ c_rb β κ a3 ++ c_rb β κ a4 ++ c_rb β κ a5) := hD
  refine W.eq (g2 := F0 m 36 ls [.ref q19, .int 5, .ref q1]) rfl ?_
  refine va_astq hx hb hK hP hD hS 1 3 102 6 rfl rfl (congrArg (fun z => some (z, (Sum.inr (6, (List.range 4).map (fun j => q_cv a5 β (q_fw 6 j 0 (q_s0 0 j)))) : va_E))) g5) rfl (by unfold vp_in; decide) dX2_init_36 (fun H locs hP hD hS => ?_)
  have hP : va_P D vwCl ([(h, .inr (4, [.ref q1, .int 0, .int 0])), (q1, .inl (κ 5, 8, .inr (.inr (.inr (.inr (va_up (va_up (va_up (va_up (va_up (va_up (fun _ => none) 0 (some q4)) 1 (some q7)) 2 (some q10)) 3 (some q13)) 4 (some q16)) 5 (some q19)))))))] ++ c_rb β κ a0 ++ c_rb β κ a1 ++ c_rb β κ a2 ++ c_rb β κ a3 ++ c_rb β κ a4 ++ c_rb β κ a5) H := hP
  have hD : va_D A0 ([(h, .inr (4, [.ref q1, .int 0, .int 0])), (q1, .inl (κ 5, 8, .inr (.inr (.inr (.inr (va_up (va_up (va_up (va_up (va_up (va_up (fun _ => none) 0 (some q4)) 1 (some q7)) 2 (some q10)) 3 (some q13)) 4 (some q16)) 5 (some q19)))))))] ++ c_rb β κ a0 ++ c_rb β κ a1 ++ c_rb β κ a2 ++ c_rb β κ a3 ++ c_rb β κ a4 ++ c_rb β κ a5) := hD
  refine lv_iinc hx hb dX2_init_37 hl (k := 0) rfl (by decide) (Nat.le_of_ble_eq_true rfl) (lv' := [(1, .int 6), (0, .ref h)]) rfl (fun ls hl => ?_)
  refine lv_goto hx hb dX2_init_40 (tgt := 15) (by decide) ?_
  refine lv_iload_n hx hb dX2_init_15 rfl (lv_at hl 0 rfl) ?_
  refine lv_aload_n hx hb dX2_init_16 rfl (lv_at hl 1 rfl) ?_
  refine va_get (ci := 4) (C := RX2) (T := TX2) (N := 3) hx hb hts q_u_X2 hown hK hP 0 rfl rfl 0 (by decide) (hts _ ji_fl_41) (fun _ h9 => h9) rfl dX2_init_17 ?_
  refine va_alen hx hb hK hP 1 3 rfl rfl (v := nI 8) rfl dX2_init_20 ?_
  refine lv_topi (fun x20 hx21 => ?_)
  obtain rfl : x20 = 8 := by rw [hx21]; exact (by decide +kernel)
  refine lv_icmp_ge hx hb dX2_init_21 (tgt := 43) (by decide) (fun hq9 => absurd hq9 ((by decide : ¬ (8 : Int32) ≤ 6))) (fun _ => ?_)
  refine lv_aload_n hx hb dX2_init_24 rfl (lv_at hl 1 rfl) ?_
  refine va_get (ci := 4) (C := RX2) (T := TX2) (N := 3) hx hb hts q_u_X2 hown hK hP 0 rfl rfl 0 (by decide) (hts _ ji_fl_41) (fun _ h9 => h9) rfl dX2_init_25 ?_
  refine lv_iload_n hx hb dX2_init_28 rfl (lv_at hl 0 rfl) ?_
  refine va_new (ci := 6) (fs := [.null, .int 0, .int 0, .int 0]) (C := RX4) (T := TX4) (N := 4) hx hb hts q_u_X4 tyX4 tyX4_ok hown (hts _ ji_cl_40) (hts _ ji_is_42) (hts _ ji_ii_43) hK hP hD hS hA rfl (fun j hj => by rcases (show j = 0 ∨ j = 1 ∨ j = 2 ∨ j = 3 by omega) with rfl | rfl | rfl | rfl <;> rfl) (by show 0 + 1 + 1 + 19 + 1 + 19 + 1 + 19 + 1 + 19 + 1 + 19 + 1 + 19 + 1 ≤ 161; omega) (by show 0 + 8 + 4 + 138 + 4 + 138 + 4 + 138 + 4 + 138 + 4 + 138 + 4 + 138 + 4 ≤ 1144; omega) dX2_init_29 (fun q22 H hP hD hS => ?_)
  have hP : va_P D vwCl (([(h, .inr (4, [.ref q1, .int 0, .int 0])), (q1, .inl (κ 5, 8, .inr (.inr (.inr (.inr (va_up (va_up (va_up (va_up (va_up (va_up (fun _ => none) 0 (some q4)) 1 (some q7)) 2 (some q10)) 3 (some q13)) 4 (some q16)) 5 (some q19)))))))] ++ c_rb β κ a0 ++ c_rb β κ a1 ++ c_rb β κ a2 ++ c_rb β κ a3 ++ c_rb β κ a4 ++ c_rb β κ a5) ++ [(q22, .inr (6, [.null, .int 0, .int 0, .int 0]))]) H := hP
  have hD : va_D A0 (([(h, .inr (4, [.ref q1, .int 0, .int 0])), (q1, .inl (κ 5, 8, .inr (.inr (.inr (.inr (va_up (va_up (va_up (va_up (va_up (va_up (fun _ => none) 0 (some q4)) 1 (some q7)) 2 (some q10)) 3 (some q13)) 4 (some q16)) 5 (some q19)))))))] ++ c_rb β κ a0 ++ c_rb β κ a1 ++ c_rb β κ a2 ++ c_rb β κ a3 ++ c_rb β κ a4 ++ c_rb β κ a5) ++ [(q22, .inr (6, [.null, .int 0, .int 0, .int 0]))]) := hD
  refine lv_dup hx hb dX2_init_32 rfl ?_
  have hfree := c_free C0 hD hS
  refine va_callv (c_runI C0 (n := 0) (As := []) (rest := [.ref q22, .int 6, .ref q1]) ji_ml_44 ji_in_45 ji_ii_43 ji_co_46 rfl (by decide +kernel) (c_initR (α := α) (β := β) (D := D) (κ := κ) q22 l H.size) hP hD hS rfl rfl dX2_init_33 hl (Nat.le_of_ble_eq_true rfl) ⟨(Nat.le_of_ble_eq_true rfl), (Nat.le_of_ble_eq_true rfl)⟩ ⟨(by show 0 + 1 + 1 + 19 + 1 + 19 + 1 + 19 + 1 + 19 + 1 + 19 + 1 + 19 + 1 + 19 ≤ 161; omega), (by show 0 + 8 + 4 + 138 + 4 + 138 + 4 + 138 + 4 + 138 + 4 + 138 + 4 + 138 + 4 + 138 ≤ 1144; omega)⟩) hS (fun q _ hq => hfree q hq) hfree (fun a6 t H locs ht hvm hpost hB hz hk hS => ?_)
  obtain ⟨hP1, hD1⟩ := hB
  rw [ht] at hP1
  obtain ⟨hP, hD⟩ := c_join hP hD hk hfree hP1 hD1
  have g6 := hpost
  have hP : va_P D vwCl ([(h, .inr (4, [.ref q1, .int 0, .int 0])), (q1, .inl (κ 5, 8, .inr (.inr (.inr (.inr (va_up (va_up (va_up (va_up (va_up (va_up (fun _ => none) 0 (some q4)) 1 (some q7)) 2 (some q10)) 3 (some q13)) 4 (some q16)) 5 (some q19)))))))] ++ c_rb β κ a0 ++ c_rb β κ a1 ++ c_rb β κ a2 ++ c_rb β κ a3 ++ c_rb β κ a4 ++ c_rb β κ a5 ++ c_rb β κ a6) H := hP
  have hD : va_D A0 ([(h, .inr (4, [.ref q1, .int 0, .int 0])), (q1, .inl (κ 5, 8, .inr (.inr (.inr (.inr (va_up (va_up (va_up (va_up (va_up (va_up (fun _ => none) 0 (some q4)) 1 (some q7)) 2 (some q10)) 3 (some q13)) 4 (some q16)) 5 (some q19)))))))] ++ c_rb β κ a0 ++ c_rb β κ a1 ++ c_rb β κ a2 ++ c_rb β κ a3 ++ c_rb β κ a4 ++ c_rb β κ a5 ++ c_rb β κ a6) := hD
  refine W.eq (g2 := F0 m 36 ls [.ref q22, .int 6, .ref q1]) rfl ?_
  refine va_astq hx hb hK hP hD hS 1 3 122 6 rfl rfl (congrArg (fun z => some (z, (Sum.inr (6, (List.range 4).map (fun j => q_cv a6 β (q_fw 6 j 0 (q_s0 0 j)))) : va_E))) g6) rfl (by unfold vp_in; decide) dX2_init_36 (fun H locs hP hD hS => ?_)
  have hP : va_P D vwCl ([(h, .inr (4, [.ref q1, .int 0, .int 0])), (q1, .inl (κ 5, 8, .inr (.inr (.inr (.inr (va_up (va_up (va_up (va_up (va_up (va_up (va_up (fun _ => none) 0 (some q4)) 1 (some q7)) 2 (some q10)) 3 (some q13)) 4 (some q16)) 5 (some q19)) 6 (some q22)))))))] ++ c_rb β κ a0 ++ c_rb β κ a1 ++ c_rb β κ a2 ++ c_rb β κ a3 ++ c_rb β κ a4 ++ c_rb β κ a5 ++ c_rb β κ a6) H := hP
  have hD : va_D A0 ([(h, .inr (4, [.ref q1, .int 0, .int 0])), (q1, .inl (κ 5, 8, .inr (.inr (.inr (.inr (va_up (va_up (va_up (va_up (va_up (va_up (va_up (fun _ => none) 0 (some q4)) 1 (some q7)) 2 (some q10)) 3 (some q13)) 4 (some q16)) 5 (some q19)) 6 (some q22)))))))] ++ c_rb β κ a0 ++ c_rb β κ a1 ++ c_rb β κ a2 ++ c_rb β κ a3 ++ c_rb β κ a4 ++ c_rb β κ a5 ++ c_rb β κ a6) := hD
  refine lv_iinc hx hb dX2_init_37 hl (k := 0) rfl (by decide) (Nat.le_of_ble_eq_true rfl) (lv' := [(1, .int 7), (0, .ref h)]) rfl (fun ls hl => ?_)
  refine lv_goto hx hb dX2_init_40 (tgt := 15) (by decide) ?_
  refine lv_iload_n hx hb dX2_init_15 rfl (lv_at hl 0 rfl) ?_
  refine lv_aload_n hx hb dX2_init_16 rfl (lv_at hl 1 rfl) ?_
  refine va_get (ci := 4) (C := RX2) (T := TX2) (N := 3) hx hb hts q_u_X2 hown hK hP 0 rfl rfl 0 (by decide) (hts _ ji_fl_41) (fun _ h9 => h9) rfl dX2_init_17 ?_
  refine va_alen hx hb hK hP 1 3 rfl rfl (v := nI 8) rfl dX2_init_20 ?_
  refine lv_topi (fun x23 hx24 => ?_)
  obtain rfl : x23 = 8 := by rw [hx24]; exact (by decide +kernel)
  refine lv_icmp_ge hx hb dX2_init_21 (tgt := 43) (by decide) (fun hq9 => absurd hq9 ((by decide : ¬ (8 : Int32) ≤ 7))) (fun _ => ?_)
  refine lv_aload_n hx hb dX2_init_24 rfl (lv_at hl 1 rfl) ?_
  refine va_get (ci := 4) (C := RX2) (T := TX2) (N := 3) hx hb hts q_u_X2 hown hK hP 0 rfl rfl 0 (by decide) (hts _ ji_fl_41) (fun _ h9 => h9) rfl dX2_init_25 ?_
  refine lv_iload_n hx hb dX2_init_28 rfl (lv_at hl 0 rfl) ?_
  refine va_new (ci := 6) (fs := [.null, .int 0, .int 0, .int 0]) (C := RX4) (T := TX4) (N := 4) hx hb hts q_u_X4 tyX4 tyX4_ok hown (hts _ ji_cl_40) (hts _ ji_is_42) (hts _ ji_ii_43) hK hP hD hS hA rfl (fun j hj => by rcases (show j = 0 ∨ j = 1 ∨ j = 2 ∨ j = 3 by omega) with rfl | rfl | rfl | rfl <;> rfl) (by show 0 + 1 + 1 + 19 + 1 + 19 + 1 + 19 + 1 + 19 + 1 + 19 + 1 + 19 + 1 + 19 + 1 ≤ 161; omega) (by show 0 + 8 + 4 + 138 + 4 + 138 + 4 + 138 + 4 + 138 + 4 + 138 + 4 + 138 + 4 + 138 + 4 ≤ 1144; omega) dX2_init_29 (fun q25 H hP hD hS => ?_)
  have hP : va_P D vwCl (([(h, .inr (4, [.ref q1, .int 0, .int 0])), (q1, .inl (κ 5, 8, .inr (.inr (.inr (.inr (va_up (va_up (va_up (va_up (va_up (va_up (va_up (fun _ => none) 0 (some q4)) 1 (some q7)) 2 (some q10)) 3 (some q13)) 4 (some q16)) 5 (some q19)) 6 (some q22)))))))] ++ c_rb β κ a0 ++ c_rb β κ a1 ++ c_rb β κ a2 ++ c_rb β κ a3 ++ c_rb β κ a4 ++ c_rb β κ a5 ++ c_rb β κ a6) ++ [(q25, .inr (6, [.null, .int 0, .int 0, .int 0]))]) H := hP
  have hD : va_D A0 (([(h, .inr (4, [.ref q1, .int 0, .int 0])), (q1, .inl (κ 5, 8, .inr (.inr (.inr (.inr (va_up (va_up (va_up (va_up (va_up (va_up (va_up (fun _ => none) 0 (some q4)) 1 (some q7)) 2 (some q10)) 3 (some q13)) 4 (some q16)) 5 (some q19)) 6 (some q22)))))))] ++ c_rb β κ a0 ++ c_rb β κ a1 ++ c_rb β κ a2 ++ c_rb β κ a3 ++ c_rb β κ a4 ++ c_rb β κ a5 ++ c_rb β κ a6) ++ [(q25, .inr (6, [.null, .int 0, .int 0, .int 0]))]) := hD
  refine lv_dup hx hb dX2_init_32 rfl ?_
  have hfree := c_free C0 hD hS
  refine va_callv (c_runI C0 (n := 0) (As := []) (rest := [.ref q25, .int 7, .ref q1]) ji_ml_44 ji_in_45 ji_ii_43 ji_co_46 rfl (by decide +kernel) (c_initR (α := α) (β := β) (D := D) (κ := κ) q25 l H.size) hP hD hS rfl rfl dX2_init_33 hl (Nat.le_of_ble_eq_true rfl) ⟨(Nat.le_of_ble_eq_true rfl), (Nat.le_of_ble_eq_true rfl)⟩ ⟨(by show 0 + 1 + 1 + 19 + 1 + 19 + 1 + 19 + 1 + 19 + 1 + 19 + 1 + 19 + 1 + 19 + 1 + 19 ≤ 161; omega), (by show 0 + 8 + 4 + 138 + 4 + 138 + 4 + 138 + 4 + 138 + 4 + 138 + 4 + 138 + 4 + 138 + 4 + 138 ≤ 1144; omega)⟩) hS (fun q _ hq => hfree q hq) hfree (fun a7 t H locs ht hvm hpost hB hz hk hS => ?_)
  obtain ⟨hP1, hD1⟩ := hB
  rw [ht] at hP1
  obtain ⟨hP, hD⟩ := c_join hP hD hk hfree hP1 hD1
  have g7 := hpost
  have hP : va_P D vwCl ([(h, .inr (4, [.ref q1, .int 0, .int 0])), (q1, .inl (κ 5, 8, .inr (.inr (.inr (.inr (va_up (va_up (va_up (va_up (va_up (va_up (va_up (fun _ => none) 0 (some q4)) 1 (some q7)) 2 (some q10)) 3 (some q13)) 4 (some q16)) 5 (some q19)) 6 (some q22)))))))] ++ c_rb β κ a0 ++ c_rb β κ a1 ++ c_rb β κ a2 ++ c_rb β κ a3 ++ c_rb β κ a4 ++ c_rb β κ a5 ++ c_rb β κ a6 ++ c_rb β κ a7) H := hP
  have hD : va_D A0 ([(h, .inr (4, [.ref q1, .int 0, .int 0])), (q1, .inl (κ 5, 8, .inr (.inr (.inr (.inr (va_up (va_up (va_up (va_up (va_up (va_up (va_up (fun _ => none) 0 (some q4)) 1 (some q7)) 2 (some q10)) 3 (some q13)) 4 (some q16)) 5 (some q19)) 6 (some q22)))))))] ++ c_rb β κ a0 ++ c_rb β κ a1 ++ c_rb β κ a2 ++ c_rb β κ a3 ++ c_rb β κ a4 ++ c_rb β κ a5 ++ c_rb β κ a6 ++ c_rb β κ a7) := hD
  refine W.eq (g2 := F0 m 36 ls [.ref q25, .int 7, .ref q1]) rfl ?_
  refine va_astq hx hb hK hP hD hS 1 3 142 6 rfl rfl (congrArg (fun z => some (z, (Sum.inr (6, (List.range 4).map (fun j => q_cv a7 β (q_fw 6 j 0 (q_s0 0 j)))) : va_E))) g7) rfl (by unfold vp_in; decide) dX2_init_36 (fun H locs hP hD hS => ?_)
  have hP : va_P D vwCl ([(h, .inr (4, [.ref q1, .int 0, .int 0])), (q1, .inl (κ 5, 8, .inr (.inr (.inr (.inr (va_up (va_up (va_up (va_up (va_up (va_up (va_up (va_up (fun _ => none) 0 (some q4)) 1 (some q7)) 2 (some q10)) 3 (some q13)) 4 (some q16)) 5 (some q19)) 6 (some q22)) 7 (some q25)))))))] ++ c_rb β κ a0 ++ c_rb β κ a1 ++ c_rb β κ a2 ++ c_rb β κ a3 ++ c_rb β κ a4 ++ c_rb β κ a5 ++ c_rb β κ a6 ++ c_rb β κ a7) H := hP
  have hD : va_D A0 ([(h, .inr (4, [.ref q1, .int 0, .int 0])), (q1, .inl (κ 5, 8, .inr (.inr (.inr (.inr (va_up (va_up (va_up (va_up (va_up (va_up (va_up (va_up (fun _ => none) 0 (some q4)) 1 (some q7)) 2 (some q10)) 3 (some q13)) 4 (some q16)) 5 (some q19)) 6 (some q22)) 7 (some q25)))))))] ++ c_rb β κ a0 ++ c_rb β κ a1 ++ c_rb β κ a2 ++ c_rb β κ a3 ++ c_rb β κ a4 ++ c_rb β κ a5 ++ c_rb β κ a6 ++ c_rb β κ a7) := hD
  refine lv_iinc hx hb dX2_init_37 hl (k := 0) rfl (by decide) (Nat.le_of_ble_eq_true rfl) (lv' := [(1, .int 8), (0, .ref h)]) rfl (fun ls hl => ?_)
  refine lv_goto hx hb dX2_init_40 (tgt := 15) (by decide) ?_
  refine lv_iload_n hx hb dX2_init_15 rfl (lv_at hl 0 rfl) ?_
  refine lv_aload_n hx hb dX2_init_16 rfl (lv_at hl 1 rfl) ?_
  refine va_get (ci := 4) (C := RX2) (T := TX2) (N := 3) hx hb hts q_u_X2 hown hK hP 0 rfl rfl 0 (by decide) (hts _ ji_fl_41) (fun _ h9 => h9) rfl dX2_init_17 ?_
  refine va_alen hx hb hK hP 1 3 rfl rfl (v := nI 8) rfl dX2_init_20 ?_
  refine lv_topi (fun x26 hx27 => ?_)
  obtain rfl : x26 = 8 := by rw [hx27]; exact (by decide +kernel)
  refine lv_icmp_ge hx hb dX2_init_21 (tgt := 43) (by decide) (fun _ => ?_) (fun hq9 => absurd ((by decide : (8 : Int32) ≤ 8)) hq9)
  let AA : Nat → Nat → Nat := (fun i => ([a0, a1, a2, a3, a4, a5, a6, a7] : List (Nat → Nat)).getD i a0)
  have hAA : ∀ j, j < 8 → (va_up (va_up (va_up (va_up (va_up (va_up (va_up (va_up (fun _ => none) 0 (some q4)) 1 (some q7)) 2 (some q10)) 3 (some q13)) 4 (some q16)) 5 (some q19)) 6 (some q22)) 7 (some q25)) j = some (AA j 0) := by
    intro j hj
    rcases (show j = 0 ∨ j = 1 ∨ j = 2 ∨ j = 3 ∨ j = 4 ∨ j = 5 ∨ j = 6 ∨ j = 7 by omega) with rfl | rfl | rfl | rfl | rfl | rfl | rfl | rfl
    · exact congrArg some g0.symm
    · exact congrArg some g1.symm
    · exact congrArg some g2.symm
    · exact congrArg some g3.symm
    · exact congrArg some g4.symm
    · exact congrArg some g5.symm
    · exact congrArg some g6.symm
    · exact congrArg some g7.symm
  have hP := c_fix (w1 := [(h, .inr (4, [.ref q1, .int 0, .int 0]))]) (q2 := (q1, .inl (κ 5, 8, .inr (.inr (.inr (.inr (fun i => some (AA i 0)))))))) (c_atq hAA) (c_cons hP)
  have hD := c_fixD (ws2 := (((((((([(h, .inr (4, [.ref q1, .int 0, .int 0])), (q1, .inl (κ 5, 8, .inr (.inr (.inr (.inr (fun i => some (AA i 0)))))))] ++ c_rb β κ (AA 0)) ++ c_rb β κ (AA 1)) ++ c_rb β κ (AA 2)) ++ c_rb β κ (AA 3)) ++ c_rb β κ (AA 4)) ++ c_rb β κ (AA 5)) ++ c_rb β κ (AA 6)) ++ c_rb β κ (AA 7))) hD rfl
  exact W.vret hx hb hr (fun t ht hW => ⟨⟨(q1, AA), rfl, trivial, by rw [ht]; exact hP, hD⟩, hS.F ht⟩) hS.2.2 dX2_init_43 hlocks
