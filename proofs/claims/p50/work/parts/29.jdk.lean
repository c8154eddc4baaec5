/-! The library's own methods. -/
set_option maxRecDepth 100000 in
theorem jw_fl_0 : Cond.fieldLink RJ5 18 "java/lang/String" "COMPACT_STRINGS" "Z" ∈ q_W := q_t1 146 rfl rfl
set_option maxRecDepth 100000 in
theorem jw_fl_1 : Cond.fieldLink RJ5 22 "java/lang/AbstractStringBuilder" "coder" "B" ∈ q_W := q_t1 156 rfl rfl
set_option maxRecDepth 100000 in
theorem jw_ml_2 : Cond.methodLink RJ8 194 Lib.Math.max.name ∈ q_W := q_t1 191 rfl rfl
set_option maxRecDepth 100000 in
theorem jw_ct_3 : Cond.constant RJ8 200 (2147483639) ∈ q_W := q_t1 194 rfl rfl
set_option maxRecDepth 100000 in
theorem jw_fl_4 : Cond.fieldLink RJ5 15 "java/lang/AbstractStringBuilder" "value" "[B" ∈ q_W := q_t1 155 rfl rfl
set_option maxRecDepth 100000 in
theorem jw_ml_5 : Cond.methodLink RJ5 114 yJ8_newLength_cabcc ∈ q_W := q_t1 188 rfl rfl
set_option maxRecDepth 100000 in
theorem jw_st_6 : Cond.static yJ8_newLength_cabcc ∈ q_W := q_t1 189 rfl rfl
set_option maxRecDepth 100000 in
theorem jw_ii_7 : Cond.initialized "jdk/internal/util/ArraysSupport" ∈ q_W := q_t1 25 rfl rfl
set_option maxRecDepth 100000 in
theorem jw_co_8 : Cond.code yJ8_newLength_cabcc cJ8_newLength_cabcc 4 (Option.some Jvm.ClassFile.FieldType.int) ∈ q_W := q_t1 190 rfl rfl
set_option maxRecDepth 100000 in
theorem jw_ct_9 : Cond.constant RJ5 39 (2147483647) ∈ q_W := q_t1 198 rfl rfl
set_option maxRecDepth 100000 in
theorem jw_ac_10 : Cond.arrayClass .byte ∈ q_W := q_t1 123 rfl rfl
set_option maxRecDepth 100000 in
theorem jw_ml_11 : Cond.methodLink RJ7 304 Lib.Math.min.name ∈ q_W := q_t1 209 rfl rfl
set_option maxRecDepth 100000 in
theorem jw_ml_12 : Cond.methodLink RJ7 150 ⟨"java/lang/System", "arraycopy", "(Ljava/lang/Object;ILjava/lang/Object;II)V"⟩ ∈ q_W := q_t1 212 rfl rfl
set_option maxRecDepth 100000 in
theorem jw_na_13 : Cond.native arraycopyName ∈ q_W := q_t1 214 rfl rfl
set_option maxRecDepth 100000 in
theorem jw_st_14 : Cond.static arraycopyName ∈ q_W := q_t1 213 rfl rfl
set_option maxRecDepth 100000 in
theorem jw_ii_15 : Cond.initialized "java/lang/System" ∈ q_W := q_t1 27 rfl rfl
theorem dJ1_canEncode_fc78d_0 : decode cJ1_canEncode_fc78d 0 = .ok (.iload_n 0, 1) := by decide +kernel
theorem dJ1_canEncode_fc78d_1 : decode cJ1_canEncode_fc78d 1 = .ok (.sipush 255, 3) := by decide +kernel
theorem dJ1_canEncode_fc78d_4 : decode cJ1_canEncode_fc78d 4 = .ok (.if_icmp .gt 7, 3) := by decide +kernel
theorem dJ1_canEncode_fc78d_7 : decode cJ1_canEncode_fc78d 7 = .ok (.iconst 1, 1) := by decide +kernel
theorem dJ1_canEncode_fc78d_8 : decode cJ1_canEncode_fc78d 8 = .ok (.goto 4, 3) := by decide +kernel
theorem dJ1_canEncode_fc78d_12 : decode cJ1_canEncode_fc78d 12 = .ok (.ireturn, 1) := by decide +kernel
theorem dJ5_isLatin1_aae02_0 : decode cJ5_isLatin1_aae02 0 = .ok (.getstatic 18, 3) := by decide +kernel
theorem dJ5_isLatin1_aae02_3 : decode cJ5_isLatin1_aae02 3 = .ok (.ifCond .eq 14, 3) := by decide +kernel
theorem dJ5_isLatin1_aae02_6 : decode cJ5_isLatin1_aae02 6 = .ok (.aload_n 0, 1) := by decide +kernel
theorem dJ5_isLatin1_aae02_7 : decode cJ5_isLatin1_aae02 7 = .ok (.getfield 22, 3) := by decide +kernel
theorem dJ5_isLatin1_aae02_10 : decode cJ5_isLatin1_aae02 10 = .ok (.ifCond .ne 7, 3) := by decide +kernel
theorem dJ5_isLatin1_aae02_13 : decode cJ5_isLatin1_aae02 13 = .ok (.iconst 1, 1) := by decide +kernel
theorem dJ5_isLatin1_aae02_14 : decode cJ5_isLatin1_aae02 14 = .ok (.goto 4, 3) := by decide +kernel
theorem dJ5_isLatin1_aae02_18 : decode cJ5_isLatin1_aae02 18 = .ok (.ireturn, 1) := by decide +kernel
theorem dJ5_newCapacity_0f7a4_0 : decode cJ5_newCapacity_0f7a4 0 = .ok (.aload_n 0, 1) := by decide +kernel
theorem dJ5_newCapacity_0f7a4_1 : decode cJ5_newCapacity_0f7a4 1 = .ok (.getfield 15, 3) := by decide +kernel
theorem dJ5_newCapacity_0f7a4_4 : decode cJ5_newCapacity_0f7a4 4 = .ok (.arraylength, 1) := by decide +kernel
theorem dJ5_newCapacity_0f7a4_5 : decode cJ5_newCapacity_0f7a4 5 = .ok (.istore_n 2, 1) := by decide +kernel
theorem dJ5_newCapacity_0f7a4_6 : decode cJ5_newCapacity_0f7a4 6 = .ok (.iload_n 1, 1) := by decide +kernel
theorem dJ5_newCapacity_0f7a4_7 : decode cJ5_newCapacity_0f7a4 7 = .ok (.aload_n 0, 1) := by decide +kernel
theorem dJ5_newCapacity_0f7a4_8 : decode cJ5_newCapacity_0f7a4 8 = .ok (.getfield 22, 3) := by decide +kernel
theorem dJ5_newCapacity_0f7a4_11 : decode cJ5_newCapacity_0f7a4 11 = .ok (.ishl, 1) := by decide +kernel
theorem dJ5_newCapacity_0f7a4_12 : decode cJ5_newCapacity_0f7a4 12 = .ok (.istore_n 3, 1) := by decide +kernel
theorem dJ5_newCapacity_0f7a4_13 : decode cJ5_newCapacity_0f7a4 13 = .ok (.iload_n 3, 1) := by decide +kernel
theorem dJ5_newCapacity_0f7a4_14 : decode cJ5_newCapacity_0f7a4 14 = .ok (.iload_n 2, 1) := by decide +kernel
theorem dJ5_newCapacity_0f7a4_15 : decode cJ5_newCapacity_0f7a4 15 = .ok (.isub, 1) := by decide +kernel
theorem dJ5_newCapacity_0f7a4_16 : decode cJ5_newCapacity_0f7a4 16 = .ok (.istore 4, 2) := by decide +kernel
theorem dJ5_newCapacity_0f7a4_18 : decode cJ5_newCapacity_0f7a4 18 = .ok (.iload_n 2, 1) := by decide +kernel
theorem dJ5_newCapacity_0f7a4_19 : decode cJ5_newCapacity_0f7a4 19 = .ok (.iload 4, 2) := by decide +kernel
theorem dJ5_newCapacity_0f7a4_21 : decode cJ5_newCapacity_0f7a4 21 = .ok (.iload_n 2, 1) := by decide +kernel
theorem dJ5_newCapacity_0f7a4_22 : decode cJ5_newCapacity_0f7a4 22 = .ok (.iconst 2, 1) := by decide +kernel
theorem dJ5_newCapacity_0f7a4_23 : decode cJ5_newCapacity_0f7a4 23 = .ok (.aload_n 0, 1) := by decide +kernel
theorem dJ5_newCapacity_0f7a4_24 : decode cJ5_newCapacity_0f7a4 24 = .ok (.getfield 22, 3) := by decide +kernel
theorem dJ5_newCapacity_0f7a4_27 : decode cJ5_newCapacity_0f7a4 27 = .ok (.ishl, 1) := by decide +kernel
theorem dJ5_newCapacity_0f7a4_28 : decode cJ5_newCapacity_0f7a4 28 = .ok (.iadd, 1) := by decide +kernel
theorem dJ5_newCapacity_0f7a4_29 : decode cJ5_newCapacity_0f7a4 29 = .ok (.invokestatic 114, 3) := by decide +kernel
theorem dJ5_newCapacity_0f7a4_32 : decode cJ5_newCapacity_0f7a4 32 = .ok (.istore 5, 2) := by decide +kernel
theorem dJ5_newCapacity_0f7a4_34 : decode cJ5_newCapacity_0f7a4 34 = .ok (.iload 5, 2) := by decide +kernel
theorem dJ5_newCapacity_0f7a4_36 : decode cJ5_newCapacity_0f7a4 36 = .ok (.ldc 39, 2) := by decide +kernel
theorem dJ5_newCapacity_0f7a4_38 : decode cJ5_newCapacity_0f7a4 38 = .ok (.if_icmp .ne 13, 3) := by decide +kernel
theorem dJ5_newCapacity_0f7a4_51 : decode cJ5_newCapacity_0f7a4 51 = .ok (.iload 5, 2) := by decide +kernel
theorem dJ5_newCapacity_0f7a4_53 : decode cJ5_newCapacity_0f7a4 53 = .ok (.aload_n 0, 1) := by decide +kernel
theorem dJ5_newCapacity_0f7a4_54 : decode cJ5_newCapacity_0f7a4 54 = .ok (.getfield 22, 3) := by decide +kernel
theorem dJ5_newCapacity_0f7a4_57 : decode cJ5_newCapacity_0f7a4 57 = .ok (.ishr, 1) := by decide +kernel
theorem dJ5_newCapacity_0f7a4_58 : decode cJ5_newCapacity_0f7a4 58 = .ok (.ireturn, 1) := by decide +kernel
theorem dJ6_stringSize_0f7a4_0 : decode cJ6_stringSize_0f7a4 0 = .ok (.iconst 1, 1) := by decide +kernel
theorem dJ6_stringSize_0f7a4_1 : decode cJ6_stringSize_0f7a4 1 = .ok (.istore_n 1, 1) := by decide +kernel
theorem dJ6_stringSize_0f7a4_2 : decode cJ6_stringSize_0f7a4 2 = .ok (.iload_n 0, 1) := by decide +kernel
theorem dJ6_stringSize_0f7a4_3 : decode cJ6_stringSize_0f7a4 3 = .ok (.ifCond .lt 8, 3) := by decide +kernel
theorem dJ6_stringSize_0f7a4_6 : decode cJ6_stringSize_0f7a4 6 = .ok (.iconst 0, 1) := by decide +kernel
theorem dJ6_stringSize_0f7a4_7 : decode cJ6_stringSize_0f7a4 7 = .ok (.istore_n 1, 1) := by decide +kernel
theorem dJ6_stringSize_0f7a4_8 : decode cJ6_stringSize_0f7a4 8 = .ok (.iload_n 0, 1) := by decide +kernel
theorem dJ6_stringSize_0f7a4_9 : decode cJ6_stringSize_0f7a4 9 = .ok (.ineg, 1) := by decide +kernel
theorem dJ6_stringSize_0f7a4_10 : decode cJ6_stringSize_0f7a4 10 = .ok (.istore_n 0, 1) := by decide +kernel
theorem dJ6_stringSize_0f7a4_11 : decode cJ6_stringSize_0f7a4 11 = .ok (.bipush (-10), 2) := by decide +kernel
theorem dJ6_stringSize_0f7a4_13 : decode cJ6_stringSize_0f7a4 13 = .ok (.istore_n 2, 1) := by decide +kernel
theorem dJ6_stringSize_0f7a4_14 : decode cJ6_stringSize_0f7a4 14 = .ok (.iconst 1, 1) := by decide +kernel
theorem dJ6_stringSize_0f7a4_15 : decode cJ6_stringSize_0f7a4 15 = .ok (.istore_n 3, 1) := by decide +kernel
theorem dJ6_stringSize_0f7a4_16 : decode cJ6_stringSize_0f7a4 16 = .ok (.iload_n 3, 1) := by decide +kernel
theorem dJ6_stringSize_0f7a4_17 : decode cJ6_stringSize_0f7a4 17 = .ok (.bipush 10, 2) := by decide +kernel
theorem dJ6_stringSize_0f7a4_19 : decode cJ6_stringSize_0f7a4 19 = .ok (.if_icmp .ge 23, 3) := by decide +kernel
theorem dJ6_stringSize_0f7a4_22 : decode cJ6_stringSize_0f7a4 22 = .ok (.iload_n 0, 1) := by decide +kernel
theorem dJ6_stringSize_0f7a4_23 : decode cJ6_stringSize_0f7a4 23 = .ok (.iload_n 2, 1) := by decide +kernel
theorem dJ6_stringSize_0f7a4_24 : decode cJ6_stringSize_0f7a4 24 = .ok (.if_icmp .le 7, 3) := by decide +kernel
theorem dJ6_stringSize_0f7a4_27 : decode cJ6_stringSize_0f7a4 27 = .ok (.iload_n 3, 1) := by decide +kernel
theorem dJ6_stringSize_0f7a4_28 : decode cJ6_stringSize_0f7a4 28 = .ok (.iload_n 1, 1) := by decide +kernel
theorem dJ6_stringSize_0f7a4_29 : decode cJ6_stringSize_0f7a4 29 = .ok (.iadd, 1) := by decide +kernel
theorem dJ6_stringSize_0f7a4_30 : decode cJ6_stringSize_0f7a4 30 = .ok (.ireturn, 1) := by decide +kernel
theorem dJ6_stringSize_0f7a4_31 : decode cJ6_stringSize_0f7a4 31 = .ok (.bipush 10, 2) := by decide +kernel
theorem dJ6_stringSize_0f7a4_33 : decode cJ6_stringSize_0f7a4 33 = .ok (.iload_n 2, 1) := by decide +kernel
theorem dJ6_stringSize_0f7a4_34 : decode cJ6_stringSize_0f7a4 34 = .ok (.imul, 1) := by decide +kernel
theorem dJ6_stringSize_0f7a4_35 : decode cJ6_stringSize_0f7a4 35 = .ok (.istore_n 2, 1) := by decide +kernel
theorem dJ6_stringSize_0f7a4_36 : decode cJ6_stringSize_0f7a4 36 = .ok (.iinc 3 1, 3) := by decide +kernel
theorem dJ6_stringSize_0f7a4_39 : decode cJ6_stringSize_0f7a4 39 = .ok (.goto (-23), 3) := by decide +kernel
theorem dJ6_stringSize_0f7a4_42 : decode cJ6_stringSize_0f7a4 42 = .ok (.bipush 10, 2) := by decide +kernel
theorem dJ6_stringSize_0f7a4_44 : decode cJ6_stringSize_0f7a4 44 = .ok (.iload_n 1, 1) := by decide +kernel
theorem dJ6_stringSize_0f7a4_45 : decode cJ6_stringSize_0f7a4 45 = .ok (.iadd, 1) := by decide +kernel
theorem dJ6_stringSize_0f7a4_46 : decode cJ6_stringSize_0f7a4 46 = .ok (.ireturn, 1) := by decide +kernel
theorem dJ7_copyOf_9075b_0 : decode cJ7_copyOf_9075b 0 = .ok (.iload_n 1, 1) := by decide +kernel
theorem dJ7_copyOf_9075b_1 : decode cJ7_copyOf_9075b 1 = .ok (.aload_n 0, 1) := by decide +kernel
theorem dJ7_copyOf_9075b_2 : decode cJ7_copyOf_9075b 2 = .ok (.arraylength, 1) := by decide +kernel
theorem dJ7_copyOf_9075b_3 : decode cJ7_copyOf_9075b 3 = .ok (.if_icmp .ne 11, 3) := by decide +kernel
theorem dJ7_copyOf_9075b_14 : decode cJ7_copyOf_9075b 14 = .ok (.iload_n 1, 1) := by decide +kernel
theorem dJ7_copyOf_9075b_15 : decode cJ7_copyOf_9075b 15 = .ok (.newarray .byte, 2) := by decide +kernel
theorem dJ7_copyOf_9075b_17 : decode cJ7_copyOf_9075b 17 = .ok (.astore_n 2, 1) := by decide +kernel
theorem dJ7_copyOf_9075b_18 : decode cJ7_copyOf_9075b 18 = .ok (.aload_n 0, 1) := by decide +kernel
theorem dJ7_copyOf_9075b_19 : decode cJ7_copyOf_9075b 19 = .ok (.iconst 0, 1) := by decide +kernel
theorem dJ7_copyOf_9075b_20 : decode cJ7_copyOf_9075b 20 = .ok (.aload_n 2, 1) := by decide +kernel
theorem dJ7_copyOf_9075b_21 : decode cJ7_copyOf_9075b 21 = .ok (.iconst 0, 1) := by decide +kernel
theorem dJ7_copyOf_9075b_22 : decode cJ7_copyOf_9075b 22 = .ok (.aload_n 0, 1) := by decide +kernel
theorem dJ7_copyOf_9075b_23 : decode cJ7_copyOf_9075b 23 = .ok (.arraylength, 1) := by decide +kernel
theorem dJ7_copyOf_9075b_24 : decode cJ7_copyOf_9075b 24 = .ok (.iload_n 1, 1) := by decide +kernel
theorem dJ7_copyOf_9075b_25 : decode cJ7_copyOf_9075b 25 = .ok (.invokestatic 304, 3) := by decide +kernel
theorem dJ7_copyOf_9075b_28 : decode cJ7_copyOf_9075b 28 = .ok (.invokestatic 150, 3) := by decide +kernel
theorem dJ7_copyOf_9075b_31 : decode cJ7_copyOf_9075b 31 = .ok (.aload_n 2, 1) := by decide +kernel
theorem dJ7_copyOf_9075b_32 : decode cJ7_copyOf_9075b 32 = .ok (.areturn, 1) := by decide +kernel
theorem dJ8_newLength_cabcc_0 : decode cJ8_newLength_cabcc 0 = .ok (.iload_n 0, 1) := by decide +kernel
theorem dJ8_newLength_cabcc_1 : decode cJ8_newLength_cabcc 1 = .ok (.iload_n 1, 1) := by decide +kernel
theorem dJ8_newLength_cabcc_2 : decode cJ8_newLength_cabcc 2 = .ok (.iload_n 2, 1) := by decide +kernel
theorem dJ8_newLength_cabcc_3 : decode cJ8_newLength_cabcc 3 = .ok (.invokestatic 194, 3) := by decide +kernel
theorem dJ8_newLength_cabcc_6 : decode cJ8_newLength_cabcc 6 = .ok (.iadd, 1) := by decide +kernel
theorem dJ8_newLength_cabcc_7 : decode cJ8_newLength_cabcc 7 = .ok (.istore_n 3, 1) := by decide +kernel
theorem dJ8_newLength_cabcc_8 : decode cJ8_newLength_cabcc 8 = .ok (.iconst 0, 1) := by decide +kernel
theorem dJ8_newLength_cabcc_9 : decode cJ8_newLength_cabcc 9 = .ok (.iload_n 3, 1) := by decide +kernel
theorem dJ8_newLength_cabcc_10 : decode cJ8_newLength_cabcc 10 = .ok (.if_icmp .ge 11, 3) := by decide +kernel
theorem dJ8_newLength_cabcc_13 : decode cJ8_newLength_cabcc 13 = .ok (.iload_n 3, 1) := by decide +kernel
theorem dJ8_newLength_cabcc_14 : decode cJ8_newLength_cabcc 14 = .ok (.ldc 200, 2) := by decide +kernel
theorem dJ8_newLength_cabcc_16 : decode cJ8_newLength_cabcc 16 = .ok (.if_icmp .gt 5, 3) := by decide +kernel
theorem dJ8_newLength_cabcc_19 : decode cJ8_newLength_cabcc 19 = .ok (.iload_n 3, 1) := by decide +kernel
theorem dJ8_newLength_cabcc_20 : decode cJ8_newLength_cabcc 20 = .ok (.ireturn, 1) := by decide +kernel
set_option maxRecDepth 100000 in
theorem q_u_J0 : ∀ w ∈ u_ws RJ0 TJ0 4, w ∈ q_W := fun w h => q_W_in ((by decide +kernel : ∀ w ∈ u_ws RJ0 TJ0 4, w ∈ lw_tbl) w h) ((by decide +kernel : ∀ w ∈ u_ws RJ0 TJ0 4, goodWord w = true) w h)
set_option maxRecDepth 100000 in
theorem q_u_J4 : ∀ w ∈ u_ws RJ4 TJ4 4, w ∈ q_W := fun w h => q_W_in ((by decide +kernel : ∀ w ∈ u_ws RJ4 TJ4 4, w ∈ lw_tbl) w h) ((by decide +kernel : ∀ w ∈ u_ws RJ4 TJ4 4, goodWord w = true) w h)
set_option maxRecDepth 100000 in
set_option maxHeartbeats 4000000 in
theorem s_isLatin1 {α : Nat → Nat} {D : va_G} {κ : Nat → ClassId} (h b : Nat) (ml cnt : Int32) (l : Launch) (sz : Nat) : Met l yJ5_isLatin1_aae02 (Cond.code yJ5_isLatin1_aae02 cJ5_isLatin1_aae02 1 (Option.some Jvm.ClassFile.FieldType.boolean) :: q_W) ({ frames := 0, cells := 0, slots := 0, locals := 0 } : Room) (s_Pc α D κ [.ref h] [(h, .inr (1, [.ref b, .int 0, .int ml, .int cnt]))] sz) (s_Qp (some (.int 1))) 0 0 (va_A [(h, .inr (1, [.ref b, .int 0, .int ml, .int cnt]))] sz) := by
  refine Met.ofW (cc := cJ5_isLatin1_aae02) (maxL := 1) (ret := (Option.some Jvm.ClassFile.FieldType.boolean)) (by decide) rfl ?_
  intro p e s m args below meth c s₁ B hml hv
  obtain ⟨C, hr, ⟨ls, hle, hl⟩, hP, hD, hS⟩ := s_enter RJ5 rfl (Nat.le_of_ble_eq_true rfl) B hml hv
  obtain rfl : s.heap.size = sz := hv.2.1
  clear hv
  rw [hle]
  generalize va_A [(h, .inr (1, [.ref b, .int 0, .int ml, .int cnt]))] s.heap.size = A0 at C hD hS ⊢
  have hl : lv_has ls 1 [(0, .ref h)] := hl
  have C0 := C
  obtain ⟨hx, hb, -, hown, hts, hK, hE, hA, hlocks⟩ := C
  refine va_gets hx hb (hE.2.1.1) hS hown (hts _ jw_fl_0) (fun _ h9 => h9) dJ5_isLatin1_aae02_0 ?_
  refine lv_if_eq hx hb dJ5_isLatin1_aae02_3 (tgt := 17) (by decide) (fun hq9 => absurd hq9 ((by decide : ¬ (1 : Int32) = 0))) (fun _ => ?_)
  refine lv_aload_n hx hb dJ5_isLatin1_aae02_6 rfl (lv_at hl 0 rfl) ?_
  refine va_get (ci := 1) (C := RJ4) (T := TJ4) (N := 4) hx hb hts q_u_J4 hown hK hP 0 rfl rfl 1 (by decide) (hts _ jw_fl_1) (fun _ h9 => h9) rfl dJ5_isLatin1_aae02_7 ?_
  refine lv_if_ne hx hb dJ5_isLatin1_aae02_10 (tgt := 17) (by decide) (fun hq9 => absurd ((by decide : (0 : Int32) = 0)) hq9) (fun _ => ?_)
  refine lv_iconst hx hb dJ5_isLatin1_aae02_13 (by decide : Int32.ofInt 1 = 1) ?_
  refine lv_goto hx hb dJ5_isLatin1_aae02_14 (tgt := 18) (by decide) ?_
  exact W.zret (v := 1) hx hb hr (by decide +kernel) (fun t ht hW => ⟨rfl, ht⟩) hS.2.2 dJ5_isLatin1_aae02_18 hlocks
set_option maxRecDepth 100000 in
set_option maxHeartbeats 4000000 in
theorem s_canEncode {α : Nat → Nat} {D : va_G} {κ : Nat → ClassId} (c0 : Nat) (h0 : c0 < 256) (l : Launch) (sz : Nat) : Met l yJ1_canEncode_fc78d (Cond.code yJ1_canEncode_fc78d cJ1_canEncode_fc78d 1 (Option.some Jvm.ClassFile.FieldType.boolean) :: q_W) ({ frames := 0, cells := 0, slots := 0, locals := 0 } : Room) (s_Pc α D κ [.int (nI c0)] [] sz) (s_Qp (some (.int 1))) 0 0 (va_A [] sz) := by
  refine Met.ofW (cc := cJ1_canEncode_fc78d) (maxL := 1) (ret := (Option.some Jvm.ClassFile.FieldType.boolean)) (by decide) rfl ?_
  intro p e s m args below meth c s₁ B hml hv
  obtain ⟨C, hr, ⟨ls, hle, hl⟩, hP, hD, hS⟩ := s_enter RJ1 rfl (Nat.le_of_ble_eq_true rfl) B hml hv
  obtain rfl : s.heap.size = sz := hv.2.1
  clear hv
  rw [hle]
  generalize va_A [] s.heap.size = A0 at C hD hS ⊢
  have hl : lv_has ls 1 [(0, .int (nI c0))] := hl
  have C0 := C
  obtain ⟨hx, hb, -, hown, hts, hK, hE, hA, hlocks⟩ := C
  refine lv_iload_n hx hb dJ1_canEncode_fc78d_0 rfl (lv_at hl 0 rfl) ?_
  refine lv_sipush hx hb dJ1_canEncode_fc78d_1 (by decide : (Int16.ofInt 255).toInt32 = 255) ?_
  refine lv_icmp_gt hx hb dJ1_canEncode_fc78d_4 (tgt := 11) (by decide) (fun hq9 => absurd hq9 (nI_nlt (a := 255) (b := c0) (by omega) (by omega))) (fun _ => ?_)
  refine lv_iconst hx hb dJ1_canEncode_fc78d_7 (by decide : Int32.ofInt 1 = 1) ?_
  refine lv_goto hx hb dJ1_canEncode_fc78d_8 (tgt := 12) (by decide) ?_
  exact W.zret (v := 1) hx hb hr (by decide +kernel) (fun t ht hW => ⟨rfl, ht⟩) hS.2.2 dJ1_canEncode_fc78d_12 hlocks
set_option maxRecDepth 100000 in
set_option maxHeartbeats 4000000 in
theorem s_stringSize {α : Nat → Nat} {D : va_G} {κ : Nat → ClassId} (v : Nat) (h0 : v < 2 ^ 31) (l : Launch) (sz : Nat) : Met l yJ6_stringSize_0f7a4 (Cond.code yJ6_stringSize_0f7a4 cJ6_stringSize_0f7a4 4 (Option.some Jvm.ClassFile.FieldType.int) :: q_W) ({ frames := 0, cells := 0, slots := 0, locals := 0 } : Room) (s_Pc α D κ [.int (nI v)] [] sz) (s_Qp (some (.int (nI (sb_dg v))))) 0 0 (va_A [] sz) := by
  refine Met.ofW (cc := cJ6_stringSize_0f7a4) (maxL := 4) (ret := (Option.some Jvm.ClassFile.FieldType.int)) (by decide) rfl ?_
  intro p e s m args below meth c s₁ B hml hv
  obtain ⟨C, hr, ⟨ls, hle, hl⟩, hP, hD, hS⟩ := s_enter RJ6 rfl (Nat.le_of_ble_eq_true rfl) B hml hv
  obtain rfl : s.heap.size = sz := hv.2.1
  clear hv
  rw [hle]
  generalize va_A [] s.heap.size = A0 at C hD hS ⊢
  have hl : lv_has ls 4 [(0, .int (nI v))] := hl
  have C0 := C
  obtain ⟨hx, hb, -, hown, hts, hK, hE, hA, hlocks⟩ := C
  refine lv_iconst hx hb dJ6_stringSize_0f7a4_0 (by decide : Int32.ofInt 1 = 1) ?_
  refine lv_istore_n hx hb dJ6_stringSize_0f7a4_1 rfl hl (Nat.le_of_ble_eq_true rfl) (lv' := [(1, .int 1), (0, .int (nI v))]) rfl (fun ls hl => ?_)
  refine lv_iload_n hx hb dJ6_stringSize_0f7a4_2 rfl (lv_at hl 1 rfl) ?_
  refine lv_if_lt hx hb dJ6_stringSize_0f7a4_3 (tgt := 11) (by decide) (fun hq9 => absurd hq9 (nI_pos h0)) (fun _ => ?_)
  refine lv_iconst hx hb dJ6_stringSize_0f7a4_6 (by decide : Int32.ofInt 0 = 0) ?_
  refine lv_istore_n hx hb dJ6_stringSize_0f7a4_7 rfl hl (Nat.le_of_ble_eq_true rfl) (lv' := [(1, .int 0), (0, .int (nI v))]) rfl (fun ls hl => ?_)
  refine lv_iload_n hx hb dJ6_stringSize_0f7a4_8 rfl (lv_at hl 1 rfl) ?_
  refine lv_ineg hx hb dJ6_stringSize_0f7a4_9 ?_
  refine lv_istore_n hx hb dJ6_stringSize_0f7a4_10 rfl hl (Nat.le_of_ble_eq_true rfl) (lv' := [(0, .int (-(nI v))), (1, .int 0)]) rfl (fun ls hl => ?_)
  refine lv_bipush hx hb dJ6_stringSize_0f7a4_11 (by decide : (Int8.ofInt (-10)).toInt32 = (-10)) ?_
  refine lv_istore_n hx hb dJ6_stringSize_0f7a4_13 rfl hl (Nat.le_of_ble_eq_true rfl) (lv' := [(2, .int (-10)), (0, .int (-(nI v))), (1, .int 0)]) rfl (fun ls hl => ?_)
  refine lv_iconst hx hb dJ6_stringSize_0f7a4_14 (by decide : Int32.ofInt 1 = 1) ?_
  refine lv_istore_n hx hb dJ6_stringSize_0f7a4_15 rfl hl (Nat.le_of_ble_eq_true rfl) (lv' := [(3, .int 1), (2, .int (-10)), (0, .int (-(nI v))), (1, .int 0)]) rfl (fun ls hl => ?_)
  refine lv_iload_n hx hb dJ6_stringSize_0f7a4_16 rfl (lv_at hl 0 rfl) ?_
  refine lv_bipush hx hb dJ6_stringSize_0f7a4_17 (by decide : (Int8.ofInt 10).toInt32 = 10) ?_
  refine lv_icmp_ge hx hb dJ6_stringSize_0f7a4_19 (tgt := 42) (by decide) (fun hq9 => absurd hq9 ((by decide : ¬ (10 : Int32) ≤ 1))) (fun _ => ?_)
  refine lv_iload_n hx hb dJ6_stringSize_0f7a4_22 rfl (lv_at hl 2 rfl) ?_
  refine lv_iload_n hx hb dJ6_stringSize_0f7a4_23 rfl (lv_at hl 1 rfl) ?_
  by_cases h1 : v < 10
  · skip
    refine lv_icmp_le hx hb dJ6_stringSize_0f7a4_24 (tgt := 31) (by decide) (fun hq9 => absurd hq9 (fun z => absurd ((sb_nle (a := v) (b := 10) h0 (by decide)).mp (by rw [← (show (-10 : Int32) = -nI 10 from by decide +kernel)]; exact z)) (by omega))) (fun _ => ?_)
    refine lv_iload_n hx hb dJ6_stringSize_0f7a4_27 rfl (lv_at hl 0 rfl) ?_
    refine lv_iload_n hx hb dJ6_stringSize_0f7a4_28 rfl (lv_at hl 3 rfl) ?_
    refine lv_iadd hx hb dJ6_stringSize_0f7a4_29 ?_
    refine lv_topi (fun x1 hx2 => ?_)
    obtain rfl : x1 = nI (sb_dg v) := by rw [hx2]; exact (by rw [show sb_dg v = 1 from by unfold sb_dg; (repeat' split) <;> omega]; decide +kernel)
    exact W.iret (v := nI (sb_dg v)) hx hb hr (fun t ht hW => ⟨rfl, ht⟩) hS.2.2 dJ6_stringSize_0f7a4_30 hlocks
  refine lv_icmp_le hx hb dJ6_stringSize_0f7a4_24 (tgt := 31) (by decide) (fun _ => ?_) (fun hq9 => absurd (by rw [(show (-10 : Int32) = -nI 10 from by decide +kernel)]; exact (sb_nle (a := v) (b := 10) h0 (by decide)).mpr (by omega)) hq9)
  refine lv_bipush hx hb dJ6_stringSize_0f7a4_31 (by decide : (Int8.ofInt 10).toInt32 = 10) ?_
  refine lv_iload_n hx hb dJ6_stringSize_0f7a4_33 rfl (lv_at hl 1 rfl) ?_
  refine lv_imul hx hb dJ6_stringSize_0f7a4_34 ?_
  refine lv_topi (fun x1 hx2 => ?_)
  obtain rfl : x1 = -100 := by rw [hx2]; exact (by decide +kernel)
  refine lv_istore_n hx hb dJ6_stringSize_0f7a4_35 rfl hl (Nat.le_of_ble_eq_true rfl) (lv' := [(2, .int (-100)), (3, .int 1), (0, .int (-(nI v))), (1, .int 0)]) rfl (fun ls hl => ?_)
  refine lv_iinc hx hb dJ6_stringSize_0f7a4_36 hl (k := 1) rfl (by decide) (Nat.le_of_ble_eq_true rfl) (lv' := [(3, .int 2), (2, .int (-100)), (0, .int (-(nI v))), (1, .int 0)]) rfl (fun ls hl => ?_)
  refine lv_goto hx hb dJ6_stringSize_0f7a4_39 (tgt := 16) (by decide) ?_
  refine lv_iload_n hx hb dJ6_stringSize_0f7a4_16 rfl (lv_at hl 0 rfl) ?_
  refine lv_bipush hx hb dJ6_stringSize_0f7a4_17 (by decide : (Int8.ofInt 10).toInt32 = 10) ?_
  refine lv_icmp_ge hx hb dJ6_stringSize_0f7a4_19 (tgt := 42) (by decide) (fun hq9 => absurd hq9 ((by decide : ¬ (10 : Int32) ≤ 2))) (fun _ => ?_)
  refine lv_iload_n hx hb dJ6_stringSize_0f7a4_22 rfl (lv_at hl 2 rfl) ?_
  refine lv_iload_n hx hb dJ6_stringSize_0f7a4_23 rfl (lv_at hl 1 rfl) ?_
  by_cases h2 : v < 100
  · skip
    refine lv_icmp_le hx hb dJ6_stringSize_0f7a4_24 (tgt := 31) (by decide) (fun hq9 => absurd hq9 (fun z => absurd ((sb_nle (a := v) (b := 100) h0 (by decide)).mp (by rw [← (show (-100 : Int32) = -nI 100 from by decide +kernel)]; exact z)) (by omega))) (fun _ => ?_)
    refine lv_iload_n hx hb dJ6_stringSize_0f7a4_27 rfl (lv_at hl 0 rfl) ?_
    refine lv_iload_n hx hb dJ6_stringSize_0f7a4_28 rfl (lv_at hl 3 rfl) ?_
    refine lv_iadd hx hb dJ6_stringSize_0f7a4_29 ?_
    refine lv_topi (fun x3 hx4 => ?_)
    obtain rfl : x3 = nI (sb_dg v) := by rw [hx4]; exact (by rw [show sb_dg v = 2 from by unfold sb_dg; (repeat' split) <;> omega]; decide +kernel)
    exact W.iret (v := nI (sb_dg v)) hx hb hr (fun t ht hW => ⟨rfl, ht⟩) hS.2.2 dJ6_stringSize_0f7a4_30 hlocks
  refine lv_icmp_le hx hb dJ6_stringSize_0f7a4_24 (tgt := 31) (by decide) (fun _ => ?_) (fun hq9 => absurd (by rw [(show (-100 : Int32) = -nI 100 from by decide +kernel)]; exact (sb_nle (a := v) (b := 100) h0 (by decide)).mpr (by omega)) hq9)
  refine lv_bipush hx hb dJ6_stringSize_0f7a4_31 (by decide : (Int8.ofInt 10).toInt32 = 10) ?_
  refine lv_iload_n hx hb dJ6_stringSize_0f7a4_33 rfl (lv_at hl 1 rfl) ?_
  refine lv_imul hx hb dJ6_stringSize_0f7a4_34 ?_
  refine lv_topi (fun x3 hx4 => ?_)
  obtain rfl : x3 = -1000 := by rw [hx4]; exact (by decide +kernel)
  refine lv_istore_n hx hb dJ6_stringSize_0f7a4_35 rfl hl (Nat.le_of_ble_eq_true rfl) (lv' := [(2, .int (-1000)), (3, .int 2), (0, .int (-(nI v))), (1, .int 0)]) rfl (fun ls hl => ?_)
  refine lv_iinc hx hb dJ6_stringSize_0f7a4_36 hl (k := 1) rfl (by decide) (Nat.le_of_ble_eq_true rfl) (lv' := [(3, .int 3), (2, .int (-1000)), (0, .int (-(nI v))), (1, .int 0)]) rfl (fun ls hl => ?_)
  refine lv_goto hx hb dJ6_stringSize_0f7a4_39 (tgt := 16) (by decide) ?_
  refine lv_iload_n hx hb dJ6_stringSize_0f7a4_16 rfl (lv_at hl 0 rfl) ?_
  refine lv_bipush hx hb dJ6_stringSize_0f7a4_17 (by decide : (Int8.ofInt 10).toInt32 = 10) ?_
  refine lv_icmp_ge hx hb dJ6_stringSize_0f7a4_19 (tgt := 42) (by decide) (fun hq9 => absurd hq9 ((by decide : ¬ (10 : Int32) ≤ 3))) (fun _ => ?_)
  refine lv_iload_n hx hb dJ6_stringSize_0f7a4_22 rfl (lv_at hl 2 rfl) ?_
  refine lv_iload_n hx hb dJ6_stringSize_0f7a4_23 rfl (lv_at hl 1 rfl) ?_
  by_cases h3 : v < 1000
  · skip
    refine lv_icmp_le hx hb dJ6_stringSize_0f7a4_24 (tgt := 31) (by decide) (fun hq9 => absurd hq9 (fun z => absurd ((sb_nle (a := v) (b := 1000) h0 (by decide)).mp (by rw [← (show (-1000 : Int32) = -nI 1000 from by decide +kernel)]; exact z)) (by omega))) (fun _ => ?_)
    refine lv_iload_n hx hb dJ6_stringSize_0f7a4_27 rfl (lv_at hl 0 rfl) ?_
    refine lv_iload_n hx hb dJ6_stringSize_0f7a4_28 rfl (lv_at hl 3 rfl) ?_
    refine lv_iadd hx hb dJ6_stringSize_0f7a4_29 ?_
    refine lv_topi (fun x5 hx6 => ?_)
    obtain rfl : x5 = nI (sb_dg v) := by rw [hx6]; exact (by rw [show sb_dg v = 3 from by unfold sb_dg; (repeat' split) <;> omega]; decide +kernel)
    exact W.iret (v := nI (sb_dg v)) hx hb hr (fun t ht hW => ⟨rfl, ht⟩) hS.2.2 dJ6_stringSize_0f7a4_30 hlocks
  refine lv_icmp_le hx hb dJ6_stringSize_0f7a4_24 (tgt := 31) (by decide) (fun _ => ?_) (fun hq9 => absurd (by rw [(show (-1000 : Int32) = -nI 1000 from by decide +kernel)]; exact (sb_nle (a := v) (b := 1000) h0 (by decide)).mpr (by omega)) hq9)
  refine lv_bipush hx hb dJ6_stringSize_0f7a4_31 (by decide : (Int8.ofInt 10).toInt32 = 10) ?_
  refine lv_iload_n hx hb dJ6_stringSize_0f7a4_33 rfl (lv_at hl 1 rfl) ?_
  refine lv_imul hx hb dJ6_stringSize_0f7a4_34 ?_
  refine lv_topi (fun x5 hx6 => ?_)
  obtain rfl : x5 = -10000 := by rw [hx6]; exact (by decide +kernel)
  refine lv_istore_n hx hb dJ6_stringSize_0f7a4_35 rfl hl (Nat.le_of_ble_eq_true rfl) (lv' := [(2, .int (-10000)), (3, .int 3), (0, .int (-(nI v))), (1, .int 0)]) rfl (fun ls hl => ?_)
  refine lv_iinc hx hb dJ6_stringSize_0f7a4_36 hl (k := 1) rfl (by decide) (Nat.le_of_ble_eq_true rfl) (lv' := [(3, .int 4), (2, .int (-10000)), (0, .int (-(nI v))), (1, .int 0)]) rfl (fun ls hl => ?_)
  refine lv_goto hx hb dJ6_stringSize_0f7a4_39 (tgt := 16) (by decide) ?_
  refine lv_iload_n hx hb dJ6_stringSize_0f7a4_16 rfl (lv_at hl 0 rfl) ?_
  refine lv_bipush hx hb dJ6_stringSize_0f7a4_17 (by decide : (Int8.ofInt 10).toInt32 = 10) ?_
  refine lv_icmp_ge hx hb dJ6_stringSize_0f7a4_19 (tgt := 42) (by decide) (fun hq9 => absurd hq9 ((by decide : ¬ (10 : Int32) ≤ 4))) (fun _ => ?_)
  refine lv_iload_n hx hb dJ6_stringSize_0f7a4_22 rfl (lv_at hl 2 rfl) ?_
  refine lv_iload_n hx hb dJ6_stringSize_0f7a4_23 rfl (lv_at hl 1 rfl) ?_
  by_cases h4 : v < 10000
  · skip
    refine lv_icmp_le hx hb dJ6_stringSize_0f7a4_24 (tgt := 31) (by decide) (fun hq9 => absurd hq9 (fun z => absurd ((sb_nle (a := v) (b := 10000) h0 (by decide)).mp (by rw [← (show (-10000 : Int32) = -nI 10000 from by decide +kernel)]; exact z)) (by omega))) (fun _ => ?_)
    refine lv_iload_n hx hb dJ6_stringSize_0f7a4_27 rfl (lv_at hl 0 rfl) ?_
    refine lv_iload_n hx hb dJ6_stringSize_0f7a4_28 rfl (lv_at hl 3 rfl) ?_
    refine lv_iadd hx hb dJ6_stringSize_0f7a4_29 ?_
    refine lv_topi (fun x7 hx8 => ?_)
    obtain rfl : x7 = nI (sb_dg v) := by rw [hx8]; exact (by rw [show sb_dg v = 4 from by unfold sb_dg; (repeat' split) <;> omega]; decide +kernel)
    exact W.iret (v := nI (sb_dg v)) hx hb hr (fun t ht hW => ⟨rfl, ht⟩) hS.2.2 dJ6_stringSize_0f7a4_30 hlocks
  refine lv_icmp_le hx hb dJ6_stringSize_0f7a4_24 (tgt := 31) (by decide) (fun _ => ?_) (fun hq9 => absurd (by rw [(show (-10000 : Int32) = -nI 10000 from by decide +kernel)]; exact (sb_nle (a := v) (b := 10000) h0 (by decide)).mpr (by omega)) hq9)
  refine lv_bipush hx hb dJ6_stringSize_0f7a4_31 (by decide : (Int8.ofInt 10).toInt32 = 10) ?_
  refine lv_iload_n hx hb dJ6_stringSize_0f7a4_33 rfl (lv_at hl 1 rfl) ?_
  refine lv_imul hx hb dJ6_stringSize_0f7a4_34 ?_
  refine lv_topi (fun x7 hx8 => ?_)
  obtain rfl : x7 = -100000 := by rw [hx8]; exact (by decide +kernel)
  refine lv_istore_n hx hb dJ6_stringSize_0f7a4_35 rfl hl (Nat.le_of_ble_eq_true rfl) (lv' := [(2, .int (-100000)), (3, .int 4), (0, .int (-(nI v))), (1, .int 0)]) rfl (fun ls hl => ?_)
  refine lv_iinc hx hb dJ6_stringSize_0f7a4_36 hl (k := 1) rfl (by decide) (Nat.le_of_ble_eq_true rfl) (lv' := [(3, .int 5), (2, .int (-100000)), (0, .int (-(nI v))), (1, .int 0)]) rfl (fun ls hl => ?_)
  refine lv_goto hx hb dJ6_stringSize_0f7a4_39 (tgt := 16) (by decide) ?_
  refine lv_iload_n hx hb dJ6_stringSize_0f7a4_16 rfl (lv_at hl 0 rfl) ?_
  refine lv_bipush hx hb dJ6_stringSize_0f7a4_17 (by decide : (Int8.ofInt 10).toInt32 = 10) ?_
  refine lv_icmp_ge hx hb dJ6_stringSize_0f7a4_19 (tgt := 42) (by decide) (fun hq9 => absurd hq9 ((by decide : ¬ (10 : Int32) ≤ 5))) (fun _ => ?_)
  refine lv_iload_n hx hb dJ6_stringSize_0f7a4_22 rfl (lv_at hl 2 rfl) ?_
  refine lv_iload_n hx hb dJ6_stringSize_0f7a4_23 rfl (lv_at hl 1 rfl) ?_
  by_cases h5 : v < 100000
  · skip
    refine lv_icmp_le hx hb dJ6_stringSize_0f7a4_24 (tgt := 31) (by decide) (fun hq9 => absurd hq9 (fun z => absurd ((sb_nle (a := v) (b := 100000) h0 (by decide)).mp (by rw [← (show (-100000 : Int32) = -nI 100000 from by decide +kernel)]; exact z)) (by omega))) (fun _ => ?_)
    refine lv_iload_n hx hb dJ6_stringSize_0f7a4_27 rfl (lv_at hl 0 rfl) ?_
    refine lv_iload_n hx hb dJ6_stringSize_0f7a4_28 rfl (lv_at hl 3 rfl) ?_
    refine lv_iadd hx hb dJ6_stringSize_0f7a4_29 ?_
    refine lv_topi (fun x9 hx10 => ?_)
    obtain rfl : x9 = nI (sb_dg v) := by rw [hx10]; exact (by rw [show sb_dg v = 5 from by unfold sb_dg; (repeat' split) <;> omega]; decide +kernel)
    exact W.iret (v := nI (sb_dg v)) hx hb hr (fun t ht hW => ⟨rfl, ht⟩) hS.2.2 dJ6_stringSize_0f7a4_30 hlocks
  refine lv_icmp_le hx hb dJ6_stringSize_0f7a4_24 (tgt := 31) (by decide) (fun _ => ?_) (fun hq9 => absurd (by rw [(show (-100000 : Int32) = -nI 100000 from by decide +kernel)]; exact (sb_nle (a := v) (b := 100000) h0 (by decide)).mpr (by omega)) hq9)
  refine lv_bipush hx hb dJ6_stringSize_0f7a4_31 (by decide : (Int8.ofInt 10).toInt32 = 10) ?_
  refine lv_iload_n hx hb dJ6_stringSize_0f7a4_33 rfl (lv_at hl 1 rfl) ?_
  refine lv_imul hx hb dJ6_stringSize_0f7a4_34 ?_
  refine lv_topi (fun x9 hx10 => ?_)
  obtain rfl : x9 = -1000000 := by rw [hx10]; exact (by decide +kernel)
  refine lv_istore_n hx hb dJ6_stringSize_0f7a4_35 rfl hl (Nat.le_of_ble_eq_true rfl) (lv' := [(2, .int (-1000000)), (3, .int 5), (0, .int (-(nI v))), (1, .int 0)]) rfl (fun ls hl => ?_)
  refine lv_iinc hx hb dJ6_stringSize_0f7a4_36 hl (k := 1) rfl (by decide) (Nat.le_of_ble_eq_true rfl) (lv' := [(3, .int 6), (2, .int (-1000000)), (0, .int (-(nI v))), (1, .int 0)]) rfl (fun ls hl => ?_)
  refine lv_goto hx hb dJ6_stringSize_0f7a4_39 (tgt := 16) (by decide) ?_
  refine lv_iload_n hx hb dJ6_stringSize_0f7a4_16 rfl (lv_at hl 0 rfl) ?_
  refine lv_bipush hx hb dJ6_stringSize_0f7a4_17 (by decide : (Int8.ofInt 10).toInt32 = 10) ?_
  refine lv_icmp_ge hx hb dJ6_stringSize_0f7a4_19 (tgt := 42) (by decide) (fun hq9 => absurd hq9 ((by decide : ¬ (10 : Int32) ≤ 6))) (fun _ => ?_)
  refine lv_iload_n hx hb dJ6_stringSize_0f7a4_22 rfl (lv_at hl 2 rfl) ?_
  refine lv_iload_n hx hb dJ6_stringSize_0f7a4_23 rfl (lv_at hl 1 rfl) ?_
  by_cases h6 : v < 1000000
  · skip
    refine lv_icmp_le hx hb dJ6_stringSize_0f7a4_24 (tgt := 31) (by decide) (fun hq9 => absurd hq9 (fun z => absurd ((sb_nle (a := v) (b := 1000000) h0 (by decide)).mp (by rw [← (show (-1000000 : Int32) = -nI 1000000 from by decide +kernel)]; exact z)) (by omega))) (fun _ => ?_)
    refine lv_iload_n hx hb dJ6_stringSize_0f7a4_27 rfl (lv_at hl 0 rfl) ?_
    refine lv_iload_n hx hb dJ6_stringSize_0f7a4_28 rfl (lv_at hl 3 rfl) ?_
    refine lv_iadd hx hb dJ6_stringSize_0f7a4_29 ?_
    refine lv_topi (fun x11 hx12 => ?_)
    obtain rfl : x11 = nI (sb_dg v) := by rw [hx12]; exact (by rw [show sb_dg v = 6 from by unfold sb_dg; (repeat' split) <;> omega]; decide +kernel)
    exact W.iret (v := nI (sb_dg v)) hx hb hr (fun t ht hW => ⟨rfl, ht⟩) hS.2.2 dJ6_stringSize_0f7a4_30 hlocks
  refine lv_icmp_le hx hb dJ6_stringSize_0f7a4_24 (tgt := 31) (by decide) (fun _ => ?_) (fun hq9 => absurd (by rw [(show (-1000000 : Int32) = -nI 1000000 from by decide +kernel)]; exact (sb_nle (a := v) (b := 1000000) h0 (by decide)).mpr (by omega)) hq9)
  refine lv_bipush hx hb dJ6_stringSize_0f7a4_31 (by decide : (Int8.ofInt 10).toInt32 = 10) ?_
  refine lv_iload_n hx hb dJ6_stringSize_0f7a4_33 rfl (lv_at hl 1 rfl) ?_
  refine lv_imul hx hb dJ6_stringSize_0f7a4_34 ?_
  refine lv_topi (fun x11 hx12 => ?_)
  obtain rfl : x11 = -10000000 := by rw [hx12]; exact (by decide +kernel)
  refine lv_istore_n hx hb dJ6_stringSize_0f7a4_35 rfl hl (Nat.le_of_ble_eq_true rfl) (lv' := [(2, .int (-10000000)), (3, .int 6), (0, .int (-(nI v))), (1, .int 0)]) rfl (fun ls hl => ?_)
  refine lv_iinc hx hb dJ6_stringSize_0f7a4_36 hl (k := 1) rfl (by decide) (Nat.le_of_ble_eq_true rfl) (lv' := [(3, .int 7), (2, .int (-10000000)), (0, .int (-(nI v))), (1, .int 0)]) rfl (fun ls hl => ?_)
  refine lv_goto hx hb dJ6_stringSize_0f7a4_39 (tgt := 16) (by decide) ?_
  refine lv_iload_n hx hb dJ6_stringSize_0f7a4_16 rfl (lv_at hl 0 rfl) ?_
  refine lv_bipush hx hb dJ6_stringSize_0f7a4_17 (by decide : (Int8.ofInt 10).toInt32 = 10) ?_
  refine lv_icmp_ge hx hb dJ6_stringSize_0f7a4_19 (tgt := 42) (by decide) (fun hq9 => absurd hq9 ((by decide : ¬ (10 : Int32) ≤ 7))) (fun _ => ?_)
  refine lv_iload_n hx hb dJ6_stringSize_0f7a4_22 rfl (lv_at hl 2 rfl) ?_
  refine lv_iload_n hx hb dJ6_stringSize_0f7a4_23 rfl (lv_at hl 1 rfl) ?_
  by_cases h7 : v < 10000000
  · skip
    refine lv_icmp_le hx hb dJ6_stringSize_0f7a4_24 (tgt := 31) (by decide) (fun hq9 => absurd hq9 (fun z => absurd ((sb_nle (a := v) (b := 10000000) h0 (by decide)).mp (by rw [← (show (-10000000 : Int32) = -nI 10000000 from by decide +kernel)]; exact z)) (by omega))) (fun _ => ?_)
    refine lv_iload_n hx hb dJ6_stringSize_0f7a4_27 rfl (lv_at hl 0 rfl) ?_
    refine lv_iload_n hx hb dJ6_stringSize_0f7a4_28 rfl (lv_at hl 3 rfl) ?_
    refine lv_iadd hx hb dJ6_stringSize_0f7a4_29 ?_
    refine lv_topi (fun x13 hx14 => ?_)
    obtain rfl : x13 = nI (sb_dg v) := by rw [hx14]; exact (by rw [show sb_dg v = 7 from by unfold sb_dg; (repeat' split) <;> omega]; decide +kernel)
    exact W.iret (v := nI (sb_dg v)) hx hb hr (fun t ht hW => ⟨rfl, ht⟩) hS.2.2 dJ6_stringSize_0f7a4_30 hlocks
  refine lv_icmp_le hx hb dJ6_stringSize_0f7a4_24 (tgt := 31) (by decide) (fun _ => ?_) (fun hq9 => absurd (by rw [(show (-10000000 : Int32) = -nI 10000000 from by decide +kernel)]; exact (sb_nle (a := v) (b := 10000000) h0 (by decide)).mpr (by omega)) hq9)
  refine lv_bipush hx hb dJ6_stringSize_0f7a4_31 (by decide : (Int8.ofInt 10).toInt32 = 10) ?_
  refine lv_iload_n hx hb dJ6_stringSize_0f7a4_33 rfl (lv_at hl 1 rfl) ?_
  refine lv_imul hx hb dJ6_stringSize_0f7a4_34 ?_
  refine lv_topi (fun x13 hx14 => ?_)
  obtain rfl : x13 = -100000000 := by rw [hx14]; exact (by decide +kernel)
  refine lv_istore_n hx hb dJ6_stringSize_0f7a4_35 rfl hl (Nat.le_of_ble_eq_true rfl) (lv' := [(2, .int (-100000000)), (3, .int 7), (0, .int (-(nI v))), (1, .int 0)]) rfl (fun ls hl => ?_)
  refine lv_iinc hx hb dJ6_stringSize_0f7a4_36 hl (k := 1) rfl (by decide) (Nat.le_of_ble_eq_true rfl) (lv' := [(3, .int 8), (2, .int (-100000000)), (0, .int (-(nI v))), (1, .int 0)]) rfl (fun ls hl => ?_)
  refine lv_goto hx hb dJ6_stringSize_0f7a4_39 (tgt := 16) (by decide) ?_
  refine lv_iload_n hx hb dJ6_stringSize_0f7a4_16 rfl (lv_at hl 0 rfl) ?_
  refine lv_bipush hx hb dJ6_stringSize_0f7a4_17 (by decide : (Int8.ofInt 10).toInt32 = 10) ?_
  refine lv_icmp_ge hx hb dJ6_stringSize_0f7a4_19 (tgt := 42) (by decide) (fun hq9 => absurd hq9 ((by decide : ¬ (10 : Int32) ≤ 8))) (fun _ => ?_)
  refine lv_iload_n hx hb dJ6_stringSize_0f7a4_22 rfl (lv_at hl 2 rfl) ?_
  refine lv_iload_n hx hb dJ6_stringSize_0f7a4_23 rfl (lv_at hl 1 rfl) ?_
  by_cases h8 : v < 100000000
  · skip
    refine lv_icmp_le hx hb dJ6_stringSize_0f7a4_24 (tgt := 31) (by decide) (fun hq9 => absurd hq9 (fun z => absurd ((sb_nle (a := v) (b := 100000000) h0 (by decide)).mp (by rw [← (show (-100000000 : Int32) = -nI 100000000 from by decide +kernel)]; exact z)) (by omega))) (fun _ => ?_)
    refine lv_iload_n hx hb dJ6_stringSize_0f7a4_27 rfl (lv_at hl 0 rfl) ?_
    refine lv_iload_n hx hb dJ6_stringSize_0f7a4_28 rfl (lv_at hl 3 rfl) ?_
    refine lv_iadd hx hb dJ6_stringSize_0f7a4_29 ?_
    refine lv_topi (fun x15 hx16 => ?_)
    obtain rfl : x15 = nI (sb_dg v) := by rw [hx16]; exact (by rw [show sb_dg v = 8 from by unfold sb_dg; (repeat' split) <;> omega]; decide +kernel)
    exact W.iret (v := nI (sb_dg v)) hx hb hr (fun t ht hW => ⟨rfl, ht⟩) hS.2.2 dJ6_stringSize_0f7a4_30 hlocks
  refine lv_icmp_le hx hb dJ6_stringSize_0f7a4_24 (tgt := 31) (by decide) (fun _ => ?_) (fun hq9 => absurd (by rw [(show (-100000000 : Int32) = -nI 100000000 from by decide +kernel)]; exact (sb_nle (a := v) (b := 100000000) h0 (by decide)).mpr (by omega)) hq9)
  refine lv_bipush hx hb dJ6_stringSize_0f7a4_31 (by decide : (Int8.ofInt 10).toInt32 = 10) ?_
  refine lv_iload_n hx hb dJ6_stringSize_0f7a4_33 rfl (lv_at hl 1 rfl) ?_
  refine lv_imul hx hb dJ6_stringSize_0f7a4_34 ?_
  refine lv_topi (fun x15 hx16 => ?_)
  obtain rfl : x15 = -1000000000 := by rw [hx16]; exact (by decide +kernel)
  refine lv_istore_n hx hb dJ6_stringSize_0f7a4_35 rfl hl (Nat.le_of_ble_eq_true rfl) (lv' := [(2, .int (-1000000000)), (3, .int 8), (0, .int (-(nI v))), (1, .int 0)]) rfl (fun ls hl => ?_)
  refine lv_iinc hx hb dJ6_stringSize_0f7a4_36 hl (k := 1) rfl (by decide) (Nat.le_of_ble_eq_true rfl) (lv' := [(3, .int 9), (2, .int (-1000000000)), (0, .int (-(nI v))), (1, .int 0)]) rfl (fun ls hl => ?_)
  refine lv_goto hx hb dJ6_stringSize_0f7a4_39 (tgt := 16) (by decide) ?_
  refine lv_iload_n hx hb dJ6_stringSize_0f7a4_16 rfl (lv_at hl 0 rfl) ?_
  refine lv_bipush hx hb dJ6_stringSize_0f7a4_17 (by decide : (Int8.ofInt 10).toInt32 = 10) ?_
  refine lv_icmp_ge hx hb dJ6_stringSize_0f7a4_19 (tgt := 42) (by decide) (fun hq9 => absurd hq9 ((by decide : ¬ (10 : Int32) ≤ 9))) (fun _ => ?_)
  refine lv_iload_n hx hb dJ6_stringSize_0f7a4_22 rfl (lv_at hl 2 rfl) ?_
  refine lv_iload_n hx hb dJ6_stringSize_0f7a4_23 rfl (lv_at hl 1 rfl) ?_
  by_cases h9 : v < 1000000000
  · skip
    refine lv_icmp_le hx hb dJ6_stringSize_0f7a4_24 (tgt := 31) (by decide) (fun hq9 => absurd hq9 (fun z => absurd ((sb_nle (a := v) (b := 1000000000) h0 (by decide)).mp (by rw [← (show (-1000000000 : Int32) = -nI 1000000000 from by decide +kernel)]; exact z)) (by omega))) (fun _ => ?_)
    refine lv_iload_n hx hb dJ6_stringSize_0f7a4_27 rfl (lv_at hl 0 rfl) ?_
    refine lv_iload_n hx hb dJ6_stringSize_0f7a4_28 rfl (lv_at hl 3 rfl) ?_
    refine lv_iadd hx hb dJ6_stringSize_0f7a4_29 ?_
    refine lv_topi (fun x17 hx18 => ?_)
    obtain rfl : x17 = nI (sb_dg v) := by rw [hx18]; exact (by rw [show sb_dg v = 9 from by unfold sb_dg; (repeat' split) <;> omega]; decide +kernel)
    exact W.iret (v := nI (sb_dg v)) hx hb hr (fun t ht hW => ⟨rfl, ht⟩) hS.2.2 dJ6_stringSize_0f7a4_30 hlocks
  refine lv_icmp_le hx hb dJ6_stringSize_0f7a4_24 (tgt := 31) (by decide) (fun _ => ?_) (fun hq9 => absurd (by rw [(show (-1000000000 : Int32) = -nI 1000000000 from by decide +kernel)]; exact (sb_nle (a := v) (b := 1000000000) h0 (by decide)).mpr (by omega)) hq9)
  refine lv_bipush hx hb dJ6_stringSize_0f7a4_31 (by decide : (Int8.ofInt 10).toInt32 = 10) ?_
  refine lv_iload_n hx hb dJ6_stringSize_0f7a4_33 rfl (lv_at hl 1 rfl) ?_
  refine lv_imul hx hb dJ6_stringSize_0f7a4_34 ?_
  refine lv_topi (fun x17 hx18 => ?_)
  obtain rfl : x17 = (-10000000000) := by rw [hx18]; exact (by decide +kernel)
  refine lv_istore_n hx hb dJ6_stringSize_0f7a4_35 rfl hl (Nat.le_of_ble_eq_true rfl) (lv' := [(2, .int (-10000000000)), (3, .int 9), (0, .int (-(nI v))), (1, .int 0)]) rfl (fun ls hl => ?_)
  refine lv_iinc hx hb dJ6_stringSize_0f7a4_36 hl (k := 1) rfl (by decide) (Nat.le_of_ble_eq_true rfl) (lv' := [(3, .int 10), (2, .int (-10000000000)), (0, .int (-(nI v))), (1, .int 0)]) rfl (fun ls hl => ?_)
  refine lv_goto hx hb dJ6_stringSize_0f7a4_39 (tgt := 16) (by decide) ?_
  refine lv_iload_n hx hb dJ6_stringSize_0f7a4_16 rfl (lv_at hl 0 rfl) ?_
  refine lv_bipush hx hb dJ6_stringSize_0f7a4_17 (by decide : (Int8.ofInt 10).toInt32 = 10) ?_
  refine lv_icmp_ge hx hb dJ6_stringSize_0f7a4_19 (tgt := 42) (by decide) (fun _ => ?_) (fun hq9 => absurd ((by decide : (10 : Int32) ≤ 10)) hq9)
  refine lv_bipush hx hb dJ6_stringSize_0f7a4_42 (by decide : (Int8.ofInt 10).toInt32 = 10) ?_
  refine lv_iload_n hx hb dJ6_stringSize_0f7a4_44 rfl (lv_at hl 3 rfl) ?_
  refine lv_iadd hx hb dJ6_stringSize_0f7a4_45 ?_
  refine lv_topi (fun x19 hx20 => ?_)
  obtain rfl : x19 = nI (sb_dg v) := by rw [hx20]; exact (by rw [show sb_dg v = 10 from by unfold sb_dg; (repeat' split) <;> omega]; decide +kernel)
  exact W.iret (v := nI (sb_dg v)) hx hb hr (fun t ht hW => ⟨rfl, ht⟩) hS.2.2 dJ6_stringSize_0f7a4_46 hlocks
set_option maxRecDepth 100000 in
set_option maxHeartbeats 4000000 in
theorem s_newLength {α : Nat → Nat} {D : va_G} {κ : Nat → ClassId} (m0 k g : Nat) (hm : m0 < 2 ^ 29) (hk : k < 2 ^ 29) (hg : g < 2 ^ 29) (h0 : 0 < k) (l : Launch) (sz : Nat) : Met l yJ8_newLength_cabcc (Cond.code yJ8_newLength_cabcc cJ8_newLength_cabcc 4 (Option.some Jvm.ClassFile.FieldType.int) :: q_W) ({ frames := 1, cells := 0, slots := 0, locals := 21 } : Room) (s_Pc α D κ [.int (nI m0), .int (nI k), .int (nI g)] [] sz) (s_Qp (some (.int (nI (m0 + max k g))))) 0 0 (va_A [] sz) := by
  refine Met.ofW (cc := cJ8_newLength_cabcc) (maxL := 4) (ret := (Option.some Jvm.ClassFile.FieldType.int)) (by decide) rfl ?_
  intro p e s m args below meth c s₁ B hml hv
  obtain ⟨C, hr, ⟨ls, hle, hl⟩, hP, hD, hS⟩ := s_enter RJ8 rfl (Nat.le_of_ble_eq_true rfl) B hml hv
  obtain rfl : s.heap.size = sz := hv.2.1
  clear hv
  rw [hle]
  generalize va_A [] s.heap.size = A0 at C hD hS ⊢
  have hl : lv_has ls 4 [(0, .int (nI m0)), (1, .int (nI k)), (2, .int (nI g))] := hl
  have C0 := C
  obtain ⟨hx, hb, -, hown, hts, hK, hE, hA, hlocks⟩ := C
  refine lv_iload_n hx hb dJ8_newLength_cabcc_0 rfl (lv_at hl 0 rfl) ?_
  refine lv_iload_n hx hb dJ8_newLength_cabcc_1 rfl (lv_at hl 1 rfl) ?_
  refine lv_iload_n hx hb dJ8_newLength_cabcc_2 rfl (lv_at hl 2 rfl) ?_
  refine va_mmax hx hb (C0.2.2.1.trans hl.1.symm) hown (hts _ jw_ml_2) (hts _ q_mx1) (hts _ q_init_java_lang_Math) (hts _ q_mx2) (Nat.le_of_ble_eq_true rfl) (Nat.le_of_ble_eq_true rfl) (by show 0 ≤ 0; omega) (by show 0 ≤ 0; omega) dJ8_newLength_cabcc_3 ?_
  refine lv_topi (fun x1 hx2 => ?_)
  obtain rfl : x1 = nI (max k g) := by rw [hx2]; exact (show (if nI k < nI g then nI g else nI k) = nI (max k g) from by by_cases z : k < g; (rw [if_pos (nI_lt z (by omega)), show max k g = g by omega]); (rw [if_neg (nI_nlt (by omega) (by omega)), show max k g = k by omega]))
  refine lv_iadd hx hb dJ8_newLength_cabcc_6 ?_
  refine lv_topi (fun x3 hx4 => ?_)
  obtain rfl : x3 = nI (m0 + max k g) := by rw [hx4]; exact (nI_add _ _)
  refine lv_istore_n hx hb dJ8_newLength_cabcc_7 rfl hl (Nat.le_of_ble_eq_true rfl) (lv' := [(3, .int (nI (m0 + max k g))), (0, .int (nI m0)), (1, .int (nI k)), (2, .int (nI g))]) rfl (fun ls hl => ?_)
  refine lv_iconst hx hb dJ8_newLength_cabcc_8 (by decide : Int32.ofInt 0 = 0) ?_
  refine lv_iload_n hx hb dJ8_newLength_cabcc_9 rfl (lv_at hl 0 rfl) ?_
  refine lv_icmp_ge hx hb dJ8_newLength_cabcc_10 (tgt := 21) (by decide) (fun hq9 => absurd hq9 (show ¬ nI (m0 + max k g) ≤ 0 from nI_nle (by omega) (by omega))) (fun _ => ?_)
  refine lv_iload_n hx hb dJ8_newLength_cabcc_13 rfl (lv_at hl 0 rfl) ?_
  refine lv_ldc hx hb hown (hts _ jw_ct_3) dJ8_newLength_cabcc_14 ?_
  refine lv_icmp_gt hx hb dJ8_newLength_cabcc_16 (tgt := 21) (by decide) (fun hq9 => absurd hq9 (show ¬ nI 2147483639 < nI (m0 + max k g) from nI_nlt (by omega) (by omega))) (fun _ => ?_)
  refine lv_iload_n hx hb dJ8_newLength_cabcc_19 rfl (lv_at hl 0 rfl) ?_
  exact W.iret (v := nI (m0 + max k g)) hx hb hr (fun t ht hW => ⟨rfl, ht⟩) hS.2.2 dJ8_newLength_cabcc_20 hlocks
set_option maxRecDepth 100000 in
set_option maxHeartbeats 4000000 in
theorem s_newCapacity {α : Nat → Nat} {D : va_G} {κ : Nat → ClassId} (h b : Nat) (ml cnt : Int32) (mm : Nat) (a : Nat → Int32) (q : Nat) (hm : mm ≤ 65536) (h1 : q < 2 ^ 28) (h0 : mm < q) (l : Launch) (sz : Nat) : Met l yJ5_newCapacity_0f7a4 (Cond.code yJ5_newCapacity_0f7a4 cJ5_newCapacity_0f7a4 6 (Option.some Jvm.ClassFile.FieldType.int) :: q_W) ({ frames := 2, cells := 0, slots := 0, locals := 45 } : Room) (s_Pc α D κ [.ref h, .int (nI q)] [(h, .inr (1, [.ref b, .int 0, .int ml, .int cnt])), (b, .inl (κ 1, mm, .inl a))] sz) (s_Qp (some (.int (nI (sb_cap q mm))))) 0 0 (va_A [(h, .inr (1, [.ref b, .int 0, .int ml, .int cnt])), (b, .inl (κ 1, mm, .inl a))] sz) := by
  refine Met.ofW (cc := cJ5_newCapacity_0f7a4) (maxL := 6) (ret := (Option.some Jvm.ClassFile.FieldType.int)) (by decide) rfl ?_
  intro p e s m args below meth c s₁ B hml hv
  obtain ⟨C, hr, ⟨ls, hle, hl⟩, hP, hD, hS⟩ := s_enter RJ5 rfl (Nat.le_of_ble_eq_true rfl) B hml hv
  obtain rfl : s.heap.size = sz := hv.2.1
  clear hv
  rw [hle]
  generalize va_A [(h, .inr (1, [.ref b, .int 0, .int ml, .int cnt])), (b, .inl (κ 1, mm, .inl a))] s.heap.size = A0 at C hD hS ⊢
  have hl : lv_has ls 6 [(0, .ref h), (1, .int (nI q))] := hl
  have C0 := C
  obtain ⟨hx, hb, -, hown, hts, hK, hE, hA, hlocks⟩ := C
  refine lv_aload_n hx hb dJ5_newCapacity_0f7a4_0 rfl (lv_at hl 0 rfl) ?_
  refine va_get (ci := 1) (C := RJ4) (T := TJ4) (N := 4) hx hb hts q_u_J4 hown hK hP 0 rfl rfl 0 (by decide) (hts _ jw_fl_4) (fun _ h9 => h9) rfl dJ5_newCapacity_0f7a4_1 ?_
  refine va_alen hx hb hK hP 1 1 rfl rfl (v := nI mm) rfl dJ5_newCapacity_0f7a4_4 ?_
  refine lv_istore_n hx hb dJ5_newCapacity_0f7a4_5 rfl hl (Nat.le_of_ble_eq_true rfl) (lv' := [(2, .int (nI mm)), (0, .ref h), (1, .int (nI q))]) rfl (fun ls hl => ?_)
  refine lv_iload_n hx hb dJ5_newCapacity_0f7a4_6 rfl (lv_at hl 2 rfl) ?_
  refine lv_aload_n hx hb dJ5_newCapacity_0f7a4_7 rfl (lv_at hl 1 rfl) ?_
  refine va_get (ci := 1) (C := RJ4) (T := TJ4) (N := 4) hx hb hts q_u_J4 hown hK hP 0 rfl rfl 1 (by decide) (hts _ jw_fl_1) (fun _ h9 => h9) rfl dJ5_newCapacity_0f7a4_8 ?_
  refine lv_ishl hx hb dJ5_newCapacity_0f7a4_11 ?_
  refine lv_topi (fun x1 hx2 => ?_)
  obtain rfl : x1 = nI q := by rw [hx2]; exact (sb_shl0 _)
  refine lv_istore_n hx hb dJ5_newCapacity_0f7a4_12 rfl hl (Nat.le_of_ble_eq_true rfl) (lv' := [(3, .int (nI q)), (2, .int (nI mm)), (0, .ref h), (1, .int (nI q))]) rfl (fun ls hl => ?_)
  refine lv_iload_n hx hb dJ5_newCapacity_0f7a4_13 rfl (lv_at hl 0 rfl) ?_
  refine lv_iload_n hx hb dJ5_newCapacity_0f7a4_14 rfl (lv_at hl 1 rfl) ?_
  refine lv_isub hx hb dJ5_newCapacity_0f7a4_15 ?_
  refine lv_topi (fun x3 hx4 => ?_)
  obtain rfl : x3 = nI (q - mm) := by rw [hx4]; exact (pk_sub (by omega))
  refine lv_istore hx hb dJ5_newCapacity_0f7a4_16 hl (Nat.le_of_ble_eq_true rfl) (lv' := [(4, .int (nI (q - mm))), (3, .int (nI q)), (2, .int (nI mm)), (0, .ref h), (1, .int (nI q))]) rfl (fun ls hl => ?_)
  refine lv_iload_n hx hb dJ5_newCapacity_0f7a4_18 rfl (lv_at hl 2 rfl) ?_
  refine lv_iload hx hb dJ5_newCapacity_0f7a4_19 (lv_at hl 0 rfl) ?_
  refine lv_iload_n hx hb dJ5_newCapacity_0f7a4_21 rfl (lv_at hl 2 rfl) ?_
  refine lv_iconst hx hb dJ5_newCapacity_0f7a4_22 (by decide : Int32.ofInt 2 = 2) ?_
  refine lv_aload_n hx hb dJ5_newCapacity_0f7a4_23 rfl (lv_at hl 3 rfl) ?_
  refine va_get (ci := 1) (C := RJ4) (T := TJ4) (N := 4) hx hb hts q_u_J4 hown hK hP 0 rfl rfl 1 (by decide) (hts _ jw_fl_1) (fun _ h9 => h9) rfl dJ5_newCapacity_0f7a4_24 ?_
  refine lv_ishl hx hb dJ5_newCapacity_0f7a4_27 ?_
  refine lv_topi (fun x5 hx6 => ?_)
  obtain rfl : x5 = 2 := by rw [hx6]; exact (by decide +kernel)
  refine lv_iadd hx hb dJ5_newCapacity_0f7a4_28 ?_
  refine lv_topi (fun x7 hx8 => ?_)
  obtain rfl : x7 = nI (mm + 2) := by rw [hx8]; exact (nI_add mm 2)
  refine s_callp (v := some (.int (nI (mm + max (q - mm) (mm + 2))))) (s_runS C0 (n := 3) (wc := []) (As := [.int (nI mm), .int (nI (q - mm)), .int (nI (mm + 2))]) (rest := []) jw_ml_5 jw_st_6 jw_ii_7 jw_co_8 (by decide +kernel) (s_newLength (α := α) (D := D) (κ := κ) mm (q - mm) (mm + 2) (by omega) (by omega) (by omega) (by omega) l s.heap.size) hP hD hS [] rfl rfl (by decide) rfl dJ5_newCapacity_0f7a4_29 hl rfl (Nat.le_of_ble_eq_true rfl) ⟨(Nat.le_of_ble_eq_true rfl), (Nat.le_of_ble_eq_true rfl)⟩ ⟨(by show 0 + 0 ≤ 0; omega), (by show 0 + 0 ≤ 0; omega)⟩) hS (s_free C0 (wc := []) hD hS [] rfl) (fun locs hS => ?_)
  refine W.eq (g2 := F0 m 32 ls [.int (nI (mm + max (q - mm) (mm + 2)))]) rfl ?_
  refine lv_topi (fun x9 hx10 => ?_)
  obtain rfl : x9 = nI (sb_cap q mm) := by rw [hx10]; exact (congrArg nI (by unfold sb_cap; rw [if_neg (by omega)]; split <;> omega))
  refine lv_istore hx hb dJ5_newCapacity_0f7a4_32 hl (Nat.le_of_ble_eq_true rfl) (lv' := [(5, .int (nI (sb_cap q mm))), (4, .int (nI (q - mm))), (3, .int (nI q)), (2, .int (nI mm)), (0, .ref h), (1, .int (nI q))]) rfl (fun ls hl => ?_)
  refine lv_iload hx hb dJ5_newCapacity_0f7a4_34 (lv_at hl 0 rfl) ?_
  refine lv_ldc hx hb hown (hts _ jw_ct_9) dJ5_newCapacity_0f7a4_36 ?_
  have hcl := (show sb_cap q mm < 2 ^ 30 from by unfold sb_cap; (repeat' split) <;> omega)
  refine lv_icmp_ne hx hb dJ5_newCapacity_0f7a4_38 (tgt := 51) (by decide) (fun _ => ?_) (fun hq9 => absurd hq9 (show ¬ nI (sb_cap q mm) = nI 2147483647 from fun z => by have := (nI_eq (by omega) (by decide)).mp z; omega))
  refine lv_iload hx hb dJ5_newCapacity_0f7a4_51 (lv_at hl 0 rfl) ?_
  refine lv_aload_n hx hb dJ5_newCapacity_0f7a4_53 rfl (lv_at hl 4 rfl) ?_
  refine va_get (ci := 1) (C := RJ4) (T := TJ4) (N := 4) hx hb hts q_u_J4 hown hK hP 0 rfl rfl 1 (by decide) (hts _ jw_fl_1) (fun _ h9 => h9) rfl dJ5_newCapacity_0f7a4_54 ?_
  refine lv_ishr hx hb dJ5_newCapacity_0f7a4_57 ?_
  refine lv_topi (fun x11 hx12 => ?_)
  obtain rfl : x11 = nI (sb_cap q mm) := by rw [hx12]; exact (sb_shr0 _)
  exact W.iret (v := nI (sb_cap q mm)) hx hb hr (fun t ht hW => ⟨rfl, ht⟩) hS.2.2 dJ5_newCapacity_0f7a4_58 hlocks
set_option maxRecDepth 100000 in
set_option maxHeartbeats 4000000 in
theorem s_copyOf {α : Nat → Nat} {D : va_G} {κ : Nat → ClassId} (b mm : Nat) (a : Nat → Int32) (q : Nat) (hf : sb_Fit a) (hm : mm ≤ 65536) (h1 : q < 2 ^ 28) (h0 : mm < q) (l : Launch) (sz : Nat) : Met l yJ7_copyOf_9075b (Cond.code yJ7_copyOf_9075b cJ7_copyOf_9075b 3 (Option.some (Jvm.ClassFile.FieldType.array Jvm.ClassFile.FieldType.byte)) :: q_W) ({ frames := 1, cells := 1, slots := q, locals := 60 } : Room) (s_Pc α D κ [.ref b, .int (nI q)] [(b, .inl (κ 1, mm, .inl a))] sz) (va_Qr (fun _ : Unit => True) (fun _ b2 t => va_P D vwCl [(b, .inl (κ 1, mm, .inl a)), (b2, .inl (κ 1, q, .inl (va_cpy a (fun _ => 0) 0 0 mm)))] t.heap ∧ va_D (va_A [(b, .inl (κ 1, mm, .inl a))] sz) [(b, .inl (κ 1, mm, .inl a)), (b2, .inl (κ 1, q, .inl (va_cpy a (fun _ => 0) 0 0 mm)))]) (va_A [(b, .inl (κ 1, mm, .inl a))] sz)) 1 q (va_A [(b, .inl (κ 1, mm, .inl a))] sz) := by
  refine Met.ofW (cc := cJ7_copyOf_9075b) (maxL := 3) (ret := (Option.some (Jvm.ClassFile.FieldType.array Jvm.ClassFile.FieldType.byte))) (by decide) rfl ?_
  intro p e s m args below meth c s₁ B hml hv
  obtain ⟨C, hr, ⟨ls, hle, hl⟩, hP, hD, hS⟩ := s_enter RJ7 rfl (Nat.le_of_ble_eq_true rfl) B hml hv
  obtain rfl : s.heap.size = sz := hv.2.1
  clear hv
  rw [hle]
  generalize va_A [(b, .inl (κ 1, mm, .inl a))] s.heap.size = A0 at C hD hS ⊢
  have hl : lv_has ls 3 [(0, .ref b), (1, .int (nI q))] := hl
  have C0 := C
  obtain ⟨hx, hb, -, hown, hts, hK, hE, hA, hlocks⟩ := C
  refine lv_iload_n hx hb dJ7_copyOf_9075b_0 rfl (lv_at hl 1 rfl) ?_
  refine lv_aload_n hx hb dJ7_copyOf_9075b_1 rfl (lv_at hl 0 rfl) ?_
  refine va_alen hx hb hK hP 0 1 rfl rfl (v := nI mm) rfl dJ7_copyOf_9075b_2 ?_
  refine lv_icmp_ne hx hb dJ7_copyOf_9075b_3 (tgt := 14) (by decide) (fun _ => ?_) (fun hq9 => absurd hq9 (show ¬ nI q = nI mm from fun z => by have := (nI_eq (by omega) (by omega)).mp z; omega))
  refine lv_iload_n hx hb dJ7_copyOf_9075b_14 rfl (lv_at hl 1 rfl) ?_
  refine va_newa (atype := .byte) (ty := .byte) (a0 := (q, .inl (fun _ => 0))) (N' := q) hx hb (hts _ jw_ac_10) rfl hK hP hD hS hA (fun cA => rfl) (nI_pos (by omega)) (nI_clamp (by omega)) (by show q * 1 ≤ 536870912; omega) (by show 0 + 1 ≤ 1; omega) (by show 0 + q ≤ q; omega) dJ7_copyOf_9075b_15 (fun b2 cA H hK2 hP hD hS => ?_)
  obtain rfl := s_byte hK hK2
  have hP : va_P D vwCl [(b, .inl (κ 1, mm, .inl a)), (b2, .inl (κ 1, q, .inl (fun _ => 0)))] H := hP
  have hD : va_D A0 [(b, .inl (κ 1, mm, .inl a)), (b2, .inl (κ 1, q, .inl (fun _ => 0)))] := hD
  refine lv_astore_n hx hb dJ7_copyOf_9075b_17 rfl hl (Nat.le_of_ble_eq_true rfl) (lv' := [(2, .ref b2), (0, .ref b), (1, .int (nI q))]) rfl (fun ls hl => ?_)
  refine lv_aload_n hx hb dJ7_copyOf_9075b_18 rfl (lv_at hl 1 rfl) ?_
  refine lv_iconst hx hb dJ7_copyOf_9075b_19 (by decide : Int32.ofInt 0 = 0) ?_
  refine lv_aload_n hx hb dJ7_copyOf_9075b_20 rfl (lv_at hl 0 rfl) ?_
  refine lv_iconst hx hb dJ7_copyOf_9075b_21 (by decide : Int32.ofInt 0 = 0) ?_
  refine lv_aload_n hx hb dJ7_copyOf_9075b_22 rfl (lv_at hl 1 rfl) ?_
  refine va_alen hx hb hK hP 0 1 rfl rfl (v := nI mm) rfl dJ7_copyOf_9075b_23 ?_
  refine lv_iload_n hx hb dJ7_copyOf_9075b_24 rfl (lv_at hl 2 rfl) ?_
  refine va_mmin hx hb (C0.2.2.1.trans hl.1.symm) hown (hts _ jw_ml_11) (hts _ q_mn1) (hts _ q_init_java_lang_Math) (hts _ q_mn2) (Nat.le_of_ble_eq_true rfl) (Nat.le_of_ble_eq_true rfl) (by show 0 + 1 ≤ 1; omega) (by show 0 + q ≤ q; omega) dJ7_copyOf_9075b_25 ?_
  refine lv_topi (fun x1 hx2 => ?_)
  obtain rfl : x1 = nI mm := by rw [hx2]; exact (show (if nI q < nI mm then nI q else nI mm) = nI mm from if_neg (nI_nlt (by omega) (by omega)))
  refine va_copyi hx hb (C0.2.2.1.trans hl.1.symm) hown (hts _ jw_ml_12) (hts _ jw_na_13) (hts _ jw_st_14) (hts _ jw_ii_15) hK hP hD hS 0 1 1 1 (ty := .byte) rfl rfl rfl rfl rfl (by decide) (by decide) (nI_pos (by omega)) (by rw [nI_clamp (n := mm) (by omega)]; show 0 + mm ≤ mm; omega) (by rw [nI_clamp (n := mm) (by omega)]; show 0 + mm ≤ q; omega) (fun i _ => hf _) (Nat.le_of_ble_eq_true rfl) (by show 0 + _ ≤ 60; decide +kernel) dJ7_copyOf_9075b_28 (fun H locs hP hD hS => ?_)
  have hP : va_P D vwCl [(b, .inl (κ 1, mm, .inl a)), (b2, .inl (κ 1, q, .inl (va_cpy a (fun _ => 0) 0 0 mm)))] H := by have h9 := hP; rw [show (nI mm).toNatClampNeg = mm from nI_clamp (by omega)] at h9; exact h9
  have hD : va_D A0 [(b, .inl (κ 1, mm, .inl a)), (b2, .inl (κ 1, q, .inl (va_cpy a (fun _ => 0) 0 0 mm)))] := by have h9 := hD; rw [show (nI mm).toNatClampNeg = mm from nI_clamp (by omega)] at h9; exact h9
  refine lv_aload_n hx hb dJ7_copyOf_9075b_31 rfl (lv_at hl 0 rfl) ?_
  refine W.widen (k := 1) (n := q) (by omega) (by omega) ?_
  exact W.aret (v := .ref b2) hx hb hr (Or.inr ⟨_, rfl⟩) (Or.inr ⟨_, rfl⟩) (fun t ht hW => ⟨⟨(), b2, rfl, trivial, by rw [ht]; exact hP, hD⟩, hS.F ht⟩) hS.2.2 dJ7_copyOf_9075b_32 hlocks
