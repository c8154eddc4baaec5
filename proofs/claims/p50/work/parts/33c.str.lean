/-! The library's own methods: a text out of a builder. -/
section q33c
variable {α : Nat → Nat} {D : va_G} {κ : Nat → ClassId} {p : Program} {l : Launch} {e : Env} {R : Room} {s : State} {m : MethodId} {args : Array Value} {below : List Frame} {meth : Method} {c : Code} {cc : ByteArray} {own : String} {nL : Nat} {A : Nat → Prop} {Q : State → Prop} {n1 n2 : Nat}
variable {x y : MethodName} {bytes b0 : ByteArray} {maxL m0 n idx : Nat} {ret r0 : Option FieldType} {fr lo mc ms : Nat} {Qc : Array Value → State → Outcome → State → Prop} {As rest st : List Value} {ws wc : va_W} {H : Heap} {locs : List Loc} {ls : Array Slot} {lv : List (Nat × Value)} {pc : Nat}
theorem s_runO (C : s_Cx α D κ p s m args meth c cc own nL A) (w1 : Cond.methodLink own idx x ∈ q_W) (w2 : Cond.sameMethod x.cls x.cls x.name x.desc ∈ q_W) (w2b : Cond.instanceMethod x ∈ q_W) (w3 : Cond.selects "java/lang/StringBuilder" x y ∈ q_W) (w4 : Cond.instanceMethod y ∈ q_W) (w5 : Cond.initialized y.cls ∈ q_W) (w6 : Cond.code y bytes maxL ret ∈ q_W) (w7 : Cond.code x b0 m0 r0 ∈ q_W) (hd : x.cls ≠ "java/lang/invoke/MethodHandle" ∧ x.cls ≠ "java/lang/invoke/VarHandle" ∧ (parseMethodDescriptor x.desc).map (fun d => d.parameters.length) = some n)
    {b : Nat} {fs : List Value} (hM : Met l y (Cond.code y bytes maxL ret :: q_W) ({ frames := fr, cells := mc, slots := ms, locals := lo } : Room) (s_Pc α D κ (.ref b :: As) wc H.size) Qc mc ms (va_A wc H.size)) (hP : va_P D vwCl ws H) (hD : va_D A ws) (hS : va_S A s.heap H locs) (isC : List Nat) (hC : isC.map (fun i => ws[i]?) = wc.map some) (hC2 : isC.filterMap (fun i => ws[i]?) = wc) (hn : va_nd isC = true) (q0 : Nat) (hq : ws[q0]? = some (b, .inr (1, fs)))
    (hst : st = As.reverse ++ .ref b :: rest) (hlen : As.length = n) (hdg : decode cc pc = .ok (.invokevirtual idx, 3)) (hl : lv_has ls nL lv) (_hr : As.length = n) (hrest : (rest.map fun v => v.category).sum ≤ 8) (hR : fr + 1 ≤ R.frames ∧ 8 + (maxL + 11) + lo ≤ R.locals) (hcs : n1 + mc ≤ R.cells ∧ n2 + ms ≤ R.slots) :
    va_Run p l e R s m args below meth c H locs n1 n2 mc ms (F0 m pc ls st) rest (Qc (Value.ref b :: As).toArray) (va_A wc H.size) := by
  have C0 := C
  obtain ⟨hx, hb, hml, hown, hts, hK, hE, hA, hlk⟩ := C
  have hG2 : GoodIn q_W (va_wsO own idx "java/lang/StringBuilder" x.cls x y (Cond.code y bytes maxL ret :: q_W)) := by
    have g := q_GI w6
    intro w hw
    unfold va_wsO at hw
    rcases List.mem_append.mp hw with h | h
    · have hw' : w ∈ q_W := by
        simp only [List.mem_cons, List.not_mem_nil, or_false] at h
        rcases h with rfl | rfl | rfl | rfl | rfl | rfl
        · exact w1
        · exact w2
        · exact w2b
        · exact w3
        · exact w4
        · exact w5
      exact ⟨hw', good_of_word (List.mem_filter.mp hw').2⟩
    · exact g w h
  have hrecv := va_recv hK hP (show vwCl[1]? = some (RJ4, TJ4, 4) from rfl) hq
  exact va_runU (n := n) ⟨hx, hb, hml, hown, hts⟩ hM (va_cwO n hts hG2 rfl rfl rfl (b0 := b0) (m0 := m0) (r0 := r0) w7 hd hR) ⟨s_FB, hrecv, s_pre C0 hP hD hS isC hC hC2 hn⟩ rfl hlen hl.1 hst (lv_room hrest) hdg hcs
end q33c
set_option maxRecDepth 100000 in
theorem jw_ml_117 : Cond.methodLink RJ7 343 yJ7_checkLength_df160 ∈ q_W := q_t2 107 rfl rfl
set_option maxRecDepth 100000 in
theorem jw_st_118 : Cond.static yJ7_checkLength_df160 ∈ q_W := q_t2 108 rfl rfl
set_option maxRecDepth 100000 in
theorem jw_co_119 : Cond.code yJ7_checkLength_df160 cJ7_checkLength_df160 2 (Option.none : Option Jvm.ClassFile.FieldType) ∈ q_W := q_t2 109 rfl rfl
set_option maxRecDepth 100000 in
theorem jw_ml_120 : Cond.methodLink RJ7 339 yJ7_copyOfRangeByte_39247 ∈ q_W := q_t2 104 rfl rfl
set_option maxRecDepth 100000 in
theorem jw_st_121 : Cond.static yJ7_copyOfRangeByte_39247 ∈ q_W := q_t2 105 rfl rfl
set_option maxRecDepth 100000 in
theorem jw_co_122 : Cond.code yJ7_copyOfRangeByte_39247 cJ7_copyOfRangeByte_39247 5 (Option.some (Jvm.ClassFile.FieldType.array Jvm.ClassFile.FieldType.byte)) ∈ q_W := q_t2 106 rfl rfl
set_option maxRecDepth 100000 in
theorem jw_ml_123 : Cond.methodLink RJ0 1 Lib.objectInit ∈ q_W := q_t2 86 rfl rfl
set_option maxRecDepth 100000 in
theorem jw_in_124 : Cond.instanceMethod Lib.objectInit ∈ q_W := q_t1 75 rfl rfl
set_option maxRecDepth 100000 in
theorem jw_co_125 : Cond.code Lib.objectInit ⟨#[0xb1]⟩ 1 none ∈ q_W := q_t1 76 rfl rfl
set_option maxRecDepth 100000 in
theorem jw_ml_126 : Cond.methodLink RJ0 552 yJ5_getValue_6d5f1 ∈ q_W := q_t2 87 rfl rfl
set_option maxRecDepth 100000 in
theorem jw_sa_127 : Cond.sameMethod "java/lang/AbstractStringBuilder" "java/lang/AbstractStringBuilder" "getValue" "()[B" ∈ q_W := q_t2 89 rfl rfl
set_option maxRecDepth 100000 in
theorem jw_se_128 : Cond.selects "java/lang/StringBuilder" yJ5_getValue_6d5f1 yJ5_getValue_6d5f1 ∈ q_W := q_t2 90 rfl rfl
set_option maxRecDepth 100000 in
theorem jw_in_129 : Cond.instanceMethod yJ5_getValue_6d5f1 ∈ q_W := q_t2 88 rfl rfl
set_option maxRecDepth 100000 in
theorem jw_co_130 : Cond.code yJ5_getValue_6d5f1 cJ5_getValue_6d5f1 1 (Option.some (Jvm.ClassFile.FieldType.array Jvm.ClassFile.FieldType.byte)) ∈ q_W := q_t2 91 rfl rfl
set_option maxRecDepth 100000 in
theorem jw_ml_131 : Cond.methodLink RJ0 549 yJ5_length_8abf5 ∈ q_W := q_t2 92 rfl rfl
set_option maxRecDepth 100000 in
theorem jw_se_132 : Cond.selects "java/lang/StringBuilder" yJ5_length_8abf5 yJ4_length_8abf5 ∈ q_W := q_t2 95 rfl rfl
set_option maxRecDepth 100000 in
theorem jw_in_133 : Cond.instanceMethod yJ4_length_8abf5 ∈ q_W := q_t2 96 rfl rfl
set_option maxRecDepth 100000 in
theorem jw_ii_134 : Cond.initialized "java/lang/StringBuilder" ∈ q_W := q_t1 9 rfl rfl
set_option maxRecDepth 100000 in
theorem jw_co_135 : Cond.code yJ4_length_8abf5 cJ4_length_8abf5 1 (Option.some Jvm.ClassFile.FieldType.int) ∈ q_W := q_t2 97 rfl rfl
set_option maxRecDepth 100000 in
theorem jw_ml_136 : Cond.methodLink RJ0 1047 yJ5_isLatin1_aae02 ∈ q_W := q_t2 100 rfl rfl
set_option maxRecDepth 100000 in
theorem jw_ml_137 : Cond.methodLink RJ0 54 yJ7_copyOfRange_39247 ∈ q_W := q_t2 101 rfl rfl
set_option maxRecDepth 100000 in
theorem jw_st_138 : Cond.static yJ7_copyOfRange_39247 ∈ q_W := q_t2 102 rfl rfl
set_option maxRecDepth 100000 in
theorem jw_co_139 : Cond.code yJ7_copyOfRange_39247 cJ7_copyOfRange_39247 3 (Option.some (Jvm.ClassFile.FieldType.array Jvm.ClassFile.FieldType.byte)) ∈ q_W := q_t2 103 rfl rfl
set_option maxRecDepth 100000 in
theorem jw_ml_140 : Cond.methodLink RJ0 489 yJ0_init_db425 ∈ q_W := q_t2 83 rfl rfl
set_option maxRecDepth 100000 in
theorem jw_in_141 : Cond.instanceMethod yJ0_init_db425 ∈ q_W := q_t2 84 rfl rfl
set_option maxRecDepth 100000 in
theorem jw_co_142 : Cond.code yJ0_init_db425 cJ0_init_db425 5 (Option.none : Option Jvm.ClassFile.FieldType) ∈ q_W := q_t2 85 rfl rfl
set_option maxRecDepth 100000 in
theorem jw_cl_143 : Cond.classLink RJ4 18 "java/lang/String" ∈ q_W := q_t2 78 rfl rfl
set_option maxRecDepth 100000 in
theorem jw_is_144 : Cond.instantiable "java/lang/String" 4 ∈ q_W := q_t2 79 rfl rfl
set_option maxRecDepth 100000 in
theorem jw_ml_145 : Cond.methodLink RJ4 137 yJ0_init_81219 ∈ q_W := q_t2 80 rfl rfl
set_option maxRecDepth 100000 in
theorem jw_in_146 : Cond.instanceMethod yJ0_init_81219 ∈ q_W := q_t2 81 rfl rfl
set_option maxRecDepth 100000 in
theorem jw_co_147 : Cond.code yJ0_init_81219 cJ0_init_81219 2 (Option.none : Option Jvm.ClassFile.FieldType) ∈ q_W := q_t2 82 rfl rfl
theorem dJ0_init_81219_0 : decode cJ0_init_81219 0 = .ok (.aload_n 0, 1) := by decide +kernel
theorem dJ0_init_81219_1 : decode cJ0_init_81219 1 = .ok (.aload_n 1, 1) := by decide +kernel
theorem dJ0_init_81219_2 : decode cJ0_init_81219 2 = .ok (.aconst_null, 1) := by decide +kernel
theorem dJ0_init_81219_3 : decode cJ0_init_81219 3 = .ok (.invokespecial 489, 3) := by decide +kernel
theorem dJ0_init_81219_6 : decode cJ0_init_81219 6 = .ok (.return_, 1) := by decide +kernel
theorem dJ0_init_db425_0 : decode cJ0_init_db425 0 = .ok (.aload_n 0, 1) := by decide +kernel
theorem dJ0_init_db425_1 : decode cJ0_init_db425 1 = .ok (.invokespecial 1, 3) := by decide +kernel
theorem dJ0_init_db425_4 : decode cJ0_init_db425 4 = .ok (.aload_n 1, 1) := by decide +kernel
theorem dJ0_init_db425_5 : decode cJ0_init_db425 5 = .ok (.invokevirtual 552, 3) := by decide +kernel
theorem dJ0_init_db425_8 : decode cJ0_init_db425 8 = .ok (.astore_n 3, 1) := by decide +kernel
theorem dJ0_init_db425_9 : decode cJ0_init_db425 9 = .ok (.aload_n 1, 1) := by decide +kernel
theorem dJ0_init_db425_10 : decode cJ0_init_db425 10 = .ok (.invokevirtual 549, 3) := by decide +kernel
theorem dJ0_init_db425_13 : decode cJ0_init_db425 13 = .ok (.istore 4, 2) := by decide +kernel
theorem dJ0_init_db425_15 : decode cJ0_init_db425 15 = .ok (.aload_n 1, 1) := by decide +kernel
theorem dJ0_init_db425_16 : decode cJ0_init_db425 16 = .ok (.invokevirtual 1047, 3) := by decide +kernel
theorem dJ0_init_db425_19 : decode cJ0_init_db425 19 = .ok (.ifCond .eq 22, 3) := by decide +kernel
theorem dJ0_init_db425_22 : decode cJ0_init_db425 22 = .ok (.aload_n 0, 1) := by decide +kernel
theorem dJ0_init_db425_23 : decode cJ0_init_db425 23 = .ok (.iconst 0, 1) := by decide +kernel
theorem dJ0_init_db425_24 : decode cJ0_init_db425 24 = .ok (.putfield 15, 3) := by decide +kernel
theorem dJ0_init_db425_27 : decode cJ0_init_db425 27 = .ok (.aload_n 0, 1) := by decide +kernel
theorem dJ0_init_db425_28 : decode cJ0_init_db425 28 = .ok (.aload_n 3, 1) := by decide +kernel
theorem dJ0_init_db425_29 : decode cJ0_init_db425 29 = .ok (.iconst 0, 1) := by decide +kernel
theorem dJ0_init_db425_30 : decode cJ0_init_db425 30 = .ok (.iload 4, 2) := by decide +kernel
theorem dJ0_init_db425_32 : decode cJ0_init_db425 32 = .ok (.invokestatic 54, 3) := by decide +kernel
theorem dJ0_init_db425_35 : decode cJ0_init_db425 35 = .ok (.putfield 9, 3) := by decide +kernel
theorem dJ0_init_db425_38 : decode cJ0_init_db425 38 = .ok (.goto 59, 3) := by decide +kernel
theorem dJ0_init_db425_97 : decode cJ0_init_db425 97 = .ok (.return_, 1) := by decide +kernel
theorem dJ4_toString_0e30d_0 : decode cJ4_toString_0e30d 0 = .ok (.new 18, 3) := by decide +kernel
theorem dJ4_toString_0e30d_3 : decode cJ4_toString_0e30d 3 = .ok (.dup, 1) := by decide +kernel
theorem dJ4_toString_0e30d_4 : decode cJ4_toString_0e30d 4 = .ok (.aload_n 0, 1) := by decide +kernel
theorem dJ4_toString_0e30d_5 : decode cJ4_toString_0e30d 5 = .ok (.invokespecial 137, 3) := by decide +kernel
theorem dJ4_toString_0e30d_8 : decode cJ4_toString_0e30d 8 = .ok (.areturn, 1) := by decide +kernel
theorem dJ5_getValue_6d5f1_0 : decode cJ5_getValue_6d5f1 0 = .ok (.aload_n 0, 1) := by decide +kernel
theorem dJ5_getValue_6d5f1_1 : decode cJ5_getValue_6d5f1 1 = .ok (.getfield 15, 3) := by decide +kernel
theorem dJ5_getValue_6d5f1_4 : decode cJ5_getValue_6d5f1 4 = .ok (.areturn, 1) := by decide +kernel
theorem dJ7_checkLength_df160_0 : decode cJ7_checkLength_df160 0 = .ok (.iload_n 1, 1) := by decide +kernel
theorem dJ7_checkLength_df160_1 : decode cJ7_checkLength_df160 1 = .ok (.iload_n 0, 1) := by decide +kernel
theorem dJ7_checkLength_df160_2 : decode cJ7_checkLength_df160 2 = .ok (.if_icmp .ge 35, 3) := by decide +kernel
theorem dJ7_checkLength_df160_37 : decode cJ7_checkLength_df160 37 = .ok (.return_, 1) := by decide +kernel
theorem dJ7_copyOfRangeByte_39247_0 : decode cJ7_copyOfRangeByte_39247 0 = .ok (.iload_n 1, 1) := by decide +kernel
theorem dJ7_copyOfRangeByte_39247_1 : decode cJ7_copyOfRangeByte_39247 1 = .ok (.iload_n 2, 1) := by decide +kernel
theorem dJ7_copyOfRangeByte_39247_2 : decode cJ7_copyOfRangeByte_39247 2 = .ok (.invokestatic 343, 3) := by decide +kernel
theorem dJ7_copyOfRangeByte_39247_5 : decode cJ7_copyOfRangeByte_39247 5 = .ok (.iload_n 2, 1) := by decide +kernel
theorem dJ7_copyOfRangeByte_39247_6 : decode cJ7_copyOfRangeByte_39247 6 = .ok (.iload_n 1, 1) := by decide +kernel
theorem dJ7_copyOfRangeByte_39247_7 : decode cJ7_copyOfRangeByte_39247 7 = .ok (.isub, 1) := by decide +kernel
theorem dJ7_copyOfRangeByte_39247_8 : decode cJ7_copyOfRangeByte_39247 8 = .ok (.istore_n 3, 1) := by decide +kernel
theorem dJ7_copyOfRangeByte_39247_9 : decode cJ7_copyOfRangeByte_39247 9 = .ok (.iload_n 3, 1) := by decide +kernel
theorem dJ7_copyOfRangeByte_39247_10 : decode cJ7_copyOfRangeByte_39247 10 = .ok (.newarray .byte, 2) := by decide +kernel
theorem dJ7_copyOfRangeByte_39247_12 : decode cJ7_copyOfRangeByte_39247 12 = .ok (.astore 4, 2) := by decide +kernel
theorem dJ7_copyOfRangeByte_39247_14 : decode cJ7_copyOfRangeByte_39247 14 = .ok (.aload_n 0, 1) := by decide +kernel
theorem dJ7_copyOfRangeByte_39247_15 : decode cJ7_copyOfRangeByte_39247 15 = .ok (.iload_n 1, 1) := by decide +kernel
theorem dJ7_copyOfRangeByte_39247_16 : decode cJ7_copyOfRangeByte_39247 16 = .ok (.aload 4, 2) := by decide +kernel
theorem dJ7_copyOfRangeByte_39247_18 : decode cJ7_copyOfRangeByte_39247 18 = .ok (.iconst 0, 1) := by decide +kernel
theorem dJ7_copyOfRangeByte_39247_19 : decode cJ7_copyOfRangeByte_39247 19 = .ok (.aload_n 0, 1) := by decide +kernel
theorem dJ7_copyOfRangeByte_39247_20 : decode cJ7_copyOfRangeByte_39247 20 = .ok (.arraylength, 1) := by decide +kernel
theorem dJ7_copyOfRangeByte_39247_21 : decode cJ7_copyOfRangeByte_39247 21 = .ok (.iload_n 1, 1) := by decide +kernel
theorem dJ7_copyOfRangeByte_39247_22 : decode cJ7_copyOfRangeByte_39247 22 = .ok (.isub, 1) := by decide +kernel
theorem dJ7_copyOfRangeByte_39247_23 : decode cJ7_copyOfRangeByte_39247 23 = .ok (.iload_n 3, 1) := by decide +kernel
theorem dJ7_copyOfRangeByte_39247_24 : decode cJ7_copyOfRangeByte_39247 24 = .ok (.invokestatic 304, 3) := by decide +kernel
theorem dJ7_copyOfRangeByte_39247_27 : decode cJ7_copyOfRangeByte_39247 27 = .ok (.invokestatic 150, 3) := by decide +kernel
theorem dJ7_copyOfRangeByte_39247_30 : decode cJ7_copyOfRangeByte_39247 30 = .ok (.aload 4, 2) := by decide +kernel
theorem dJ7_copyOfRangeByte_39247_32 : decode cJ7_copyOfRangeByte_39247 32 = .ok (.areturn, 1) := by decide +kernel
theorem dJ7_copyOfRange_39247_0 : decode cJ7_copyOfRange_39247 0 = .ok (.iload_n 1, 1) := by decide +kernel
theorem dJ7_copyOfRange_39247_1 : decode cJ7_copyOfRange_39247 1 = .ok (.ifCond .ne 9, 3) := by decide +kernel
theorem dJ7_copyOfRange_39247_4 : decode cJ7_copyOfRange_39247 4 = .ok (.iload_n 2, 1) := by decide +kernel
theorem dJ7_copyOfRange_39247_5 : decode cJ7_copyOfRange_39247 5 = .ok (.aload_n 0, 1) := by decide +kernel
theorem dJ7_copyOfRange_39247_6 : decode cJ7_copyOfRange_39247 6 = .ok (.arraylength, 1) := by decide +kernel
theorem dJ7_copyOfRange_39247_7 : decode cJ7_copyOfRange_39247 7 = .ok (.if_icmp .eq 10, 3) := by decide +kernel
theorem dJ7_copyOfRange_39247_10 : decode cJ7_copyOfRange_39247 10 = .ok (.aload_n 0, 1) := by decide +kernel
theorem dJ7_copyOfRange_39247_11 : decode cJ7_copyOfRange_39247 11 = .ok (.iload_n 1, 1) := by decide +kernel
theorem dJ7_copyOfRange_39247_12 : decode cJ7_copyOfRange_39247 12 = .ok (.iload_n 2, 1) := by decide +kernel
theorem dJ7_copyOfRange_39247_13 : decode cJ7_copyOfRange_39247 13 = .ok (.invokestatic 339, 3) := by decide +kernel
theorem dJ7_copyOfRange_39247_16 : decode cJ7_copyOfRange_39247 16 = .ok (.areturn, 1) := by decide +kernel
set_option maxRecDepth 100000 in
set_option maxHeartbeats 4000000 in
theorem s_chkLen {α : Nat → Nat} {D : va_G} {κ : Nat → ClassId} (n : Nat) (h0 : n < 2 ^ 31) (l : Launch) (sz : Nat) : Met l yJ7_checkLength_df160 (Cond.code yJ7_checkLength_df160 cJ7_checkLength_df160 2 (Option.none : Option Jvm.ClassFile.FieldType) :: q_W) ({ frames := 0, cells := 0, slots := 0, locals := 0 } : Room) (s_Pc α D κ [.int 0, .int (nI n)] [] sz) (s_Qp none) 0 0 (va_A [] sz) := by
  refine Met.ofW (cc := cJ7_checkLength_df160) (maxL := 2) (ret := (Option.none : Option Jvm.ClassFile.FieldType)) (by decide) rfl ?_
  intro p e s m args below meth c s₁ B hml hv
  obtain ⟨C, hr, ⟨ls, hle, hl⟩, hP, hD, hS⟩ := s_enter RJ7 rfl (Nat.le_of_ble_eq_true rfl) B hml hv
  obtain rfl : s.heap.size = sz := hv.2.1
  clear hv
  rw [hle]
  generalize va_A [] s.heap.size = A0 at C hD hS ⊢
  have hl : lv_has ls 2 [(0, .int 0), (1, .int (nI n))] := hl
  have C0 := C
  obtain ⟨hx, hb, -, hown, hts, hK, hE, hA, hlocks⟩ := C
  refine lv_iload_n hx hb dJ7_checkLength_df160_0 rfl (lv_at hl 1 rfl) ?_
  refine lv_iload_n hx hb dJ7_checkLength_df160_1 rfl (lv_at hl 0 rfl) ?_
  refine lv_icmp_ge hx hb dJ7_checkLength_df160_2 (tgt := 37) (by decide) (fun _ => ?_) (fun hq9 => absurd (nI_pos' h0) hq9)
  exact W.vret hx hb hr (fun t ht hW => ⟨rfl, ht⟩) hS.2.2 dJ7_checkLength_df160_37 hlocks
set_option maxRecDepth 100000 in
set_option maxHeartbeats 4000000 in
theorem s_copyRB {α : Nat → Nat} {D : va_G} {κ : Nat → ClassId} (b mm n : Nat) (a : Nat → Int32) (hf : sb_Fit a) (hm : mm ≤ 65536) (h0 : n < mm) (l : Launch) (sz : Nat) : Met l yJ7_copyOfRangeByte_39247 (Cond.code yJ7_copyOfRangeByte_39247 cJ7_copyOfRangeByte_39247 5 (Option.some (Jvm.ClassFile.FieldType.array Jvm.ClassFile.FieldType.byte)) :: q_W) ({ frames := 1, cells := 1, slots := n, locals := 60 } : Room) (s_Pc α D κ [.ref b, .int 0, .int (nI n)] [(b, .inl (κ 1, mm, .inl a))] sz) (va_Qr (fun _ : Unit => True) (fun _ b2 t => va_P D vwCl [(b, .inl (κ 1, mm, .inl a)), (b2, .inl (κ 1, n, .inl (va_cpy a (fun _ => 0) 0 0 n)))] t.heap ∧ va_D (va_A [(b, .inl (κ 1, mm, .inl a))] sz) [(b, .inl (κ 1, mm, .inl a)), (b2, .inl (κ 1, n, .inl (va_cpy a (fun _ => 0) 0 0 n)))]) (va_A [(b, .inl (κ 1, mm, .inl a))] sz)) 1 n (va_A [(b, .inl (κ 1, mm, .inl a))] sz) := by
  refine Met.ofW (cc := cJ7_copyOfRangeByte_39247) (maxL := 5) (ret := (Option.some (Jvm.ClassFile.FieldType.array Jvm.ClassFile.FieldType.byte))) (by decide) rfl ?_
  intro p e s m args below meth c s₁ B hml hv
  obtain ⟨C, hr, ⟨ls, hle, hl⟩, hP, hD, hS⟩ := s_enter RJ7 rfl (Nat.le_of_ble_eq_true rfl) B hml hv
  obtain rfl : s.heap.size = sz := hv.2.1
  clear hv
  rw [hle]
  generalize va_A [(b, .inl (κ 1, mm, .inl a))] s.heap.size = A0 at C hD hS ⊢
  have hl : lv_has ls 5 [(0, .ref b), (1, .int 0), (2, .int (nI n))] := hl
  have C0 := C
  obtain ⟨hx, hb, -, hown, hts, hK, hE, hA, hlocks⟩ := C
  refine lv_iload_n hx hb dJ7_copyOfRangeByte_39247_0 rfl (lv_at hl 1 rfl) ?_
  refine lv_iload_n hx hb dJ7_copyOfRangeByte_39247_1 rfl (lv_at hl 2 rfl) ?_
  refine s_callp (v := none) (s_runS C0 (n := 2) (wc := []) (As := [.int 0, .int (nI n)]) (rest := []) jw_ml_117 jw_st_118 jw_ii_23 jw_co_119 (by decide +kernel) (s_chkLen (α := α) (D := D) (κ := κ) n (by omega) l s.heap.size) hP hD hS [] rfl rfl (by decide) rfl dJ7_copyOfRangeByte_39247_2 hl rfl (Nat.le_of_ble_eq_true rfl) ⟨(Nat.le_of_ble_eq_true rfl), (Nat.le_of_ble_eq_true rfl)⟩ ⟨(by show 0 + 0 ≤ 1; omega), (by show 0 + 0 ≤ n; omega)⟩) hS (s_free C0 (wc := []) hD hS [] rfl) (fun locs hS => ?_)
  refine W.eq (g2 := F0 m 5 ls []) rfl ?_
  refine lv_iload_n hx hb dJ7_copyOfRangeByte_39247_5 rfl (lv_at hl 2 rfl) ?_
  refine lv_iload_n hx hb dJ7_copyOfRangeByte_39247_6 rfl (lv_at hl 1 rfl) ?_
  refine lv_isub hx hb dJ7_copyOfRangeByte_39247_7 ?_
  refine lv_topi (fun x1 hx2 => ?_)
  obtain rfl : x1 = nI n := by rw [hx2]; exact (Int32.sub_zero _)
  refine lv_istore_n hx hb dJ7_copyOfRangeByte_39247_8 rfl hl (Nat.le_of_ble_eq_true rfl) (lv' := [(3, .int (nI n)), (0, .ref b), (1, .int 0), (2, .int (nI n))]) rfl (fun ls hl => ?_)
  refine lv_iload_n hx hb dJ7_copyOfRangeByte_39247_9 rfl (lv_at hl 0 rfl) ?_
  refine va_newa (atype := .byte) (ty := .byte) (a0 := (n, .inl (fun _ => 0))) (N' := n) hx hb (hts _ jw_ac_10) rfl hK hP hD hS hA (fun cA => rfl) (nI_pos (by omega)) (nI_clamp (by omega)) (by show n * 1 ≤ 536870912; omega) (by show 0 + 0 + 1 ≤ 1; omega) (by show 0 + 0 + n ≤ n; omega) dJ7_copyOfRangeByte_39247_10 (fun b2 cA H hK2 hP hD hS => ?_)
  obtain rfl := s_byte hK hK2
  have hP : va_P D vwCl [(b, .inl (κ 1, mm, .inl a)), (b2, .inl (κ 1, n, .inl (fun _ => 0)))] H := hP
  have hD : va_D A0 [(b, .inl (κ 1, mm, .inl a)), (b2, .inl (κ 1, n, .inl (fun _ => 0)))] := hD
  refine lv_astore hx hb dJ7_copyOfRangeByte_39247_12 hl (Nat.le_of_ble_eq_true rfl) (lv' := [(4, .ref b2), (3, .int (nI n)), (0, .ref b), (1, .int 0), (2, .int (nI n))]) rfl (fun ls hl => ?_)
  refine lv_aload_n hx hb dJ7_copyOfRangeByte_39247_14 rfl (lv_at hl 2 rfl) ?_
  refine lv_iload_n hx hb dJ7_copyOfRangeByte_39247_15 rfl (lv_at hl 3 rfl) ?_
  refine lv_aload hx hb dJ7_copyOfRangeByte_39247_16 (lv_at hl 0 rfl) ?_
  refine lv_iconst hx hb dJ7_copyOfRangeByte_39247_18 (by decide : Int32.ofInt 0 = 0) ?_
  refine lv_aload_n hx hb dJ7_copyOfRangeByte_39247_19 rfl (lv_at hl 2 rfl) ?_
  refine va_alen hx hb hK hP 0 1 rfl rfl (v := nI mm) rfl dJ7_copyOfRangeByte_39247_20 ?_
  refine lv_iload_n hx hb dJ7_copyOfRangeByte_39247_21 rfl (lv_at hl 3 rfl) ?_
  refine lv_isub hx hb dJ7_copyOfRangeByte_39247_22 ?_
  refine lv_topi (fun x3 hx4 => ?_)
  obtain rfl : x3 = nI mm := by rw [hx4]; exact (Int32.sub_zero _)
  refine lv_iload_n hx hb dJ7_copyOfRangeByte_39247_23 rfl (lv_at hl 1 rfl) ?_
  refine va_mmin hx hb (C0.2.2.1.trans hl.1.symm) hown (hts _ jw_ml_11) (hts _ q_mn1) (hts _ q_init_java_lang_Math) (hts _ q_mn2) (Nat.le_of_ble_eq_true rfl) (Nat.le_of_ble_eq_true rfl) (by show 0 + 0 + 1 ≤ 1; omega) (by show 0 + 0 + n ≤ n; omega) dJ7_copyOfRangeByte_39247_24 ?_
  refine lv_topi (fun x5 hx6 => ?_)
  obtain rfl : x5 = nI n := by rw [hx6]; exact (show (if nI n < nI mm then nI n else nI mm) = nI n from if_pos ((nI_ltI (by omega) (by omega)).mpr h0))
  refine va_copyi hx hb (C0.2.2.1.trans hl.1.symm) hown (hts _ jw_ml_12) (hts _ jw_na_13) (hts _ jw_st_14) (hts _ jw_ii_15) hK hP hD hS 0 1 1 1 (ty := .byte) rfl rfl rfl rfl rfl (by decide) (by decide) (nI_pos (by omega)) (by rw [nI_clamp (n := n) (by omega)]; show 0 + n ≤ mm; omega) (by rw [nI_clamp (n := n) (by omega)]; show 0 + n ≤ n; omega) (fun i _ => hf _) (Nat.le_of_ble_eq_true rfl) (by show 0 + _ ≤ 60; decide +kernel) dJ7_copyOfRangeByte_39247_27 (fun H locs hP hD hS => ?_)
  have hP : va_P D vwCl [(b, .inl (κ 1, mm, .inl a)), (b2, .inl (κ 1, n, .inl (va_cpy a (fun _ => 0) 0 0 n)))] H := by have h9 := hP; rw [show (nI n).toNatClampNeg = n from nI_clamp (by omega)] at h9; exact h9
  have hD : va_D A0 [(b, .inl (κ 1, mm, .inl a)), (b2, .inl (κ 1, n, .inl (va_cpy a (fun _ => 0) 0 0 n)))] := by have h9 := hD; rw [show (nI n).toNatClampNeg = n from nI_clamp (by omega)] at h9; exact h9
  refine lv_aload hx hb dJ7_copyOfRangeByte_39247_30 (lv_at hl 0 rfl) ?_
  refine W.widen (k := 1) (n := n) (by omega) (by omega) ?_
  exact W.aret (v := .ref b2) hx hb hr (Or.inr ⟨_, rfl⟩) (Or.inr ⟨_, rfl⟩) (fun t ht hW => ⟨⟨(), b2, rfl, trivial, by rw [ht]; exact hP, hD⟩, hS.F ht⟩) hS.2.2 dJ7_copyOfRangeByte_39247_32 hlocks
set_option maxRecDepth 100000 in
set_option maxHeartbeats 4000000 in
theorem s_copyR {α : Nat → Nat} {D : va_G} {κ : Nat → ClassId} (b mm n : Nat) (a : Nat → Int32) (hf : sb_Fit a) (hm : mm ≤ 65536) (h0 : n < mm) (l : Launch) (sz : Nat) : Met l yJ7_copyOfRange_39247 (Cond.code yJ7_copyOfRange_39247 cJ7_copyOfRange_39247 3 (Option.some (Jvm.ClassFile.FieldType.array Jvm.ClassFile.FieldType.byte)) :: q_W) ({ frames := 2, cells := 1, slots := n, locals := 90 } : Room) (s_Pc α D κ [.ref b, .int 0, .int (nI n)] [(b, .inl (κ 1, mm, .inl a))] sz) (va_Qr (fun _ : Unit => True) (fun _ b2 t => va_P D vwCl [(b, .inl (κ 1, mm, .inl a)), (b2, .inl (κ 1, n, .inl (va_cpy a (fun _ => 0) 0 0 n)))] t.heap ∧ va_D (va_A [(b, .inl (κ 1, mm, .inl a))] sz) [(b, .inl (κ 1, mm, .inl a)), (b2, .inl (κ 1, n, .inl (va_cpy a (fun _ => 0) 0 0 n)))]) (va_A [(b, .inl (κ 1, mm, .inl a))] sz)) 1 n (va_A [(b, .inl (κ 1, mm, .inl a))] sz) := by
  refine Met.ofW (cc := cJ7_copyOfRange_39247) (maxL := 3) (ret := (Option.some (Jvm.ClassFile.FieldType.array Jvm.ClassFile.FieldType.byte))) (by decide) rfl ?_
  intro p e s m args below meth c s₁ B hml hv
  obtain ⟨C, hr, ⟨ls, hle, hl⟩, hP, hD, hS⟩ := s_enter RJ7 rfl (Nat.le_of_ble_eq_true rfl) B hml hv
  obtain rfl : s.heap.size = sz := hv.2.1
  clear hv
  rw [hle]
  generalize va_A [(b, .inl (κ 1, mm, .inl a))] s.heap.size = A0 at C hD hS ⊢
  have hl : lv_has ls 3 [(0, .ref b), (1, .int 0), (2, .int (nI n))] := hl
  have C0 := C
  obtain ⟨hx, hb, -, hown, hts, hK, hE, hA, hlocks⟩ := C
  refine lv_iload_n hx hb dJ7_copyOfRange_39247_0 rfl (lv_at hl 1 rfl) ?_
  refine lv_if_ne hx hb dJ7_copyOfRange_39247_1 (tgt := 10) (by decide) (fun hq9 => absurd ((by decide : (0 : Int32) = 0)) hq9) (fun _ => ?_)
  refine lv_iload_n hx hb dJ7_copyOfRange_39247_4 rfl (lv_at hl 2 rfl) ?_
  refine lv_aload_n hx hb dJ7_copyOfRange_39247_5 rfl (lv_at hl 0 rfl) ?_
  refine va_alen hx hb hK hP 0 1 rfl rfl (v := nI mm) rfl dJ7_copyOfRange_39247_6 ?_
  refine lv_icmp_eq hx hb dJ7_copyOfRange_39247_7 (tgt := 17) (by decide) (fun hq9 => absurd hq9 (show ¬ nI n = nI mm from fun z => by have := (nI_eq (by omega) (by omega)).mp z; omega)) (fun _ => ?_)
  refine lv_aload_n hx hb dJ7_copyOfRange_39247_10 rfl (lv_at hl 0 rfl) ?_
  refine lv_iload_n hx hb dJ7_copyOfRange_39247_11 rfl (lv_at hl 1 rfl) ?_
  refine lv_iload_n hx hb dJ7_copyOfRange_39247_12 rfl (lv_at hl 2 rfl) ?_
  have hfree := s_free C0 (wc := [(b, .inl (κ 1, mm, .inl a))]) hD hS [0] rfl
  refine va_callr (s_runS C0 (n := 3) (wc := [(b, .inl (κ 1, mm, .inl a))]) (As := [.ref b, .int 0, .int (nI n)]) (rest := []) jw_ml_120 jw_st_121 jw_ii_23 jw_co_122 (by decide +kernel) (s_copyRB (α := α) (D := D) (κ := κ) b mm n a hf hm h0 l s.heap.size) hP hD hS [0] rfl rfl (by decide) rfl dJ7_copyOfRange_39247_13 hl rfl (Nat.le_of_ble_eq_true rfl) ⟨(Nat.le_of_ble_eq_true rfl), (Nat.le_of_ble_eq_true rfl)⟩ ⟨(by show 0 + 1 ≤ 1; omega), (by show 0 + n ≤ n; omega)⟩) hS (fun q _ hq => hfree q hq) hfree (fun u ra t H locs ht hvm hpost hB hz hk hS => ?_)
  obtain ⟨hP1, hD1⟩ := hB
  rw [ht] at hP1
  have hP := hP1
  have hD := hD1.weaken (fun _ _ _ hq => hfree _ hq)
  have hP : va_P D vwCl [(b, .inl (κ 1, mm, .inl a)), (ra, .inl (κ 1, n, .inl (va_cpy a (fun _ => 0) 0 0 n)))] H := hP
  have hD : va_D A0 [(b, .inl (κ 1, mm, .inl a)), (ra, .inl (κ 1, n, .inl (va_cpy a (fun _ => 0) 0 0 n)))] := hD
  refine W.eq (g2 := F0 m 16 ls [.ref ra]) rfl ?_
  refine W.widen (k := 1) (n := n) (by omega) (by omega) ?_
  exact W.aret (v := .ref ra) hx hb hr (Or.inr ⟨_, rfl⟩) (Or.inr ⟨_, rfl⟩) (fun t ht hW => ⟨⟨(), ra, rfl, trivial, by rw [ht]; exact hP, hD⟩, hS.F ht⟩) hS.2.2 dJ7_copyOfRange_39247_16 hlocks
set_option maxRecDepth 100000 in
set_option maxHeartbeats 4000000 in
theorem s_getV {α : Nat → Nat} {D : va_G} {κ : Nat → ClassId} (h b : Nat) (ml cnt : Int32) (l : Launch) (sz : Nat) : Met l yJ5_getValue_6d5f1 (Cond.code yJ5_getValue_6d5f1 cJ5_getValue_6d5f1 1 (Option.some (Jvm.ClassFile.FieldType.array Jvm.ClassFile.FieldType.byte)) :: q_W) ({ frames := 0, cells := 0, slots := 0, locals := 0 } : Room) (s_Pc α D κ [.ref h] [(h, .inr (1, [.ref b, .int 0, .int ml, .int cnt]))] sz) (s_Qp (some (.ref b))) 0 0 (va_A [(h, .inr (1, [.ref b, .int 0, .int ml, .int cnt]))] sz) := by
  refine Met.ofW (cc := cJ5_getValue_6d5f1) (maxL := 1) (ret := (Option.some (Jvm.ClassFile.FieldType.array Jvm.ClassFile.FieldType.byte))) (by decide) rfl ?_
  intro p e s m args below meth c s₁ B hml hv
  obtain ⟨C, hr, ⟨ls, hle, hl⟩, hP, hD, hS⟩ := s_enter RJ5 rfl (Nat.le_of_ble_eq_true rfl) B hml hv
  obtain rfl : s.heap.size = sz := hv.2.1
  clear hv
  rw [hle]
  generalize va_A [(h, .inr (1, [.ref b, .int 0, .int ml, .int cnt]))] s.heap.size = A0 at C hD hS ⊢
  have hl : lv_has ls 1 [(0, .ref h)] := hl
  have C0 := C
  obtain ⟨hx, hb, -, hown, hts, hK, hE, hA, hlocks⟩ := C
  refine lv_aload_n hx hb dJ5_getValue_6d5f1_0 rfl (lv_at hl 0 rfl) ?_
  refine va_get (ci := 1) (C := RJ4) (T := TJ4) (N := 4) hx hb hts q_u_J4 hown hK hP 0 rfl rfl 0 (by decide) (hts _ jw_fl_4) (fun _ h9 => h9) rfl dJ5_getValue_6d5f1_1 ?_
  exact W.aret (v := .ref b) hx hb hr (Or.inr ⟨_, rfl⟩) (Or.inr ⟨_, rfl⟩) (fun t ht hW => ⟨rfl, ht⟩) hS.2.2 dJ5_getValue_6d5f1_4 hlocks
set_option maxRecDepth 100000 in
set_option maxHeartbeats 4000000 in
theorem s_strI {α : Nat → Nat} {D : va_G} {κ : Nat → ClassId} (g h b : Nat) (ml : Int32) (mm n : Nat) (a : Nat → Int32) (hf : sb_Fit a) (hm : mm ≤ 65536) (h0 : n < mm) (l : Launch) (sz : Nat) : Met l yJ0_init_db425 (Cond.code yJ0_init_db425 cJ0_init_db425 5 (Option.none : Option Jvm.ClassFile.FieldType) :: q_W) ({ frames := 3, cells := 1, slots := n, locals := 130 } : Room) (s_Pc α D κ [.ref g, .ref h, .null] [(g, .inr (0, [.null, .int 0, .int 0, .int 0])), (h, .inr (1, [.ref b, .int 0, .int ml, .int (nI n)])), (b, .inl (κ 1, mm, .inl a))] sz) (va_Qv (fun _ : Nat => True) (fun u t => va_P D vwCl [(g, .inr (0, [.ref u, .int 0, .int 0, .int 0])), (h, .inr (1, [.ref b, .int 0, .int ml, .int (nI n)])), (b, .inl (κ 1, mm, .inl a)), (u, .inl (κ 1, n, .inl (va_cpy a (fun _ => 0) 0 0 n)))] t.heap ∧ va_D (va_A [(g, .inr (0, [.null, .int 0, .int 0, .int 0])), (h, .inr (1, [.ref b, .int 0, .int ml, .int (nI n)])), (b, .inl (κ 1, mm, .inl a))] sz) [(g, .inr (0, [.ref u, .int 0, .int 0, .int 0])), (h, .inr (1, [.ref b, .int 0, .int ml, .int (nI n)])), (b, .inl (κ 1, mm, .inl a)), (u, .inl (κ 1, n, .inl (va_cpy a (fun _ => 0) 0 0 n)))]) (va_A [(g, .inr (0, [.null, .int 0, .int 0, .int 0])), (h, .inr (1, [.ref b, .int 0, .int ml, .int (nI n)])), (b, .inl (κ 1, mm, .inl a))] sz)) 1 n (va_A [(g, .inr (0, [.null, .int 0, .int 0, .int 0])), (h, .inr (1, [.ref b, .int 0, .int ml, .int (nI n)])), (b, .inl (κ 1, mm, .inl a))] sz) := by
  refine Met.ofW (cc := cJ0_init_db425) (maxL := 5) (ret := (Option.none : Option Jvm.ClassFile.FieldType)) (by decide) rfl ?_
  intro p e s m args below meth c s₁ B hml hv
  obtain ⟨C, hr, ⟨ls, hle, hl⟩, hP, hD, hS⟩ := s_enter RJ0 rfl (Nat.le_of_ble_eq_true rfl) B hml hv
  obtain rfl : s.heap.size = sz := hv.2.1
  clear hv
  have hin : meth.name = "<init>" := (name_of_methodNamed B.named B.method).1
  rw [hle]
  generalize va_A [(g, .inr (0, [.null, .int 0, .int 0, .int 0])), (h, .inr (1, [.ref b, .int 0, .int ml, .int (nI n)])), (b, .inl (κ 1, mm, .inl a))] s.heap.size = A0 at C hD hS ⊢
  have hl : lv_has ls 5 [(0, .ref g), (1, .ref h), (2, .null)] := hl
  have C0 := C
  obtain ⟨hx, hb, -, hown, hts, hK, hE, hA, hlocks⟩ := C
  refine lv_aload_n hx hb dJ0_init_db425_0 rfl (lv_at hl 0 rfl) ?_
  refine W.objInit hx hb hown (hts _ jw_ml_123) (hts _ jw_in_124) (hts _ jw_co_125) rfl (by rw [C0.2.2.1]; exact hl.1) rfl dJ0_init_db425_1 (Nat.le_of_ble_eq_true rfl) (Nat.le_of_ble_eq_true rfl) ?_
  refine W.eq (g2 := F0 m 4 ls []) rfl ?_
  refine lv_aload_n hx hb dJ0_init_db425_4 rfl (lv_at hl 1 rfl) ?_
  refine s_callp (v := some (.ref b)) (s_runU C0 (n := 0) (wc := [(h, .inr (1, [.ref b, .int 0, .int ml, .int (nI n)]))]) (As := []) (rest := []) jw_ml_126 jw_sa_127 jw_se_128 jw_in_129 jw_ii_19 jw_co_130 rfl (by decide +kernel) (s_getV (α := α) (D := D) (κ := κ) h b ml (nI n) l s.heap.size) hP hD hS [1] rfl rfl (by decide) 1 rfl rfl rfl dJ0_init_db425_5 hl rfl (Nat.le_of_ble_eq_true rfl) ⟨(Nat.le_of_ble_eq_true rfl), (Nat.le_of_ble_eq_true rfl)⟩ ⟨(by show 0 + 0 ≤ 1; omega), (by show 0 + 0 ≤ n; omega)⟩) hS (s_free C0 (wc := [(h, .inr (1, [.ref b, .int 0, .int ml, .int (nI n)]))]) hD hS [1] rfl) (fun locs hS => ?_)
  refine W.eq (g2 := F0 m 8 ls [.ref b]) rfl ?_
  refine lv_astore_n hx hb dJ0_init_db425_8 rfl hl (Nat.le_of_ble_eq_true rfl) (lv' := [(3, .ref b), (0, .ref g), (1, .ref h), (2, .null)]) rfl (fun ls hl => ?_)
  refine lv_aload_n hx hb dJ0_init_db425_9 rfl (lv_at hl 2 rfl) ?_
  refine s_callp (v := some (.int (nI n))) (s_runO C0 (n := 0) (wc := [(h, .inr (1, [.ref b, .int 0, .int ml, .int (nI n)]))]) (As := []) (rest := []) jw_ml_131 jw_sa_73 jw_in_74 jw_se_132 jw_in_133 jw_ii_134 jw_co_135 jw_co_75 (by decide +kernel) (s_Len (α := α) (D := D) (κ := κ) h b ml (nI n) l s.heap.size) hP hD hS [1] rfl rfl (by decide) 1 rfl rfl rfl dJ0_init_db425_10 hl rfl (Nat.le_of_ble_eq_true rfl) ⟨(Nat.le_of_ble_eq_true rfl), (Nat.le_of_ble_eq_true rfl)⟩ ⟨(by show 0 + 0 + 0 ≤ 1; omega), (by show 0 + 0 + 0 ≤ n; omega)⟩) hS (s_free C0 (wc := [(h, .inr (1, [.ref b, .int 0, .int ml, .int (nI n)]))]) hD hS [1] rfl) (fun locs hS => ?_)
  refine W.eq (g2 := F0 m 13 ls [.int (nI n)]) rfl ?_
  refine lv_istore hx hb dJ0_init_db425_13 hl (Nat.le_of_ble_eq_true rfl) (lv' := [(4, .int (nI n)), (3, .ref b), (0, .ref g), (1, .ref h), (2, .null)]) rfl (fun ls hl => ?_)
  refine lv_aload_n hx hb dJ0_init_db425_15 rfl (lv_at hl 3 rfl) ?_
  refine s_callp (v := some (.int 1)) (s_runU C0 (n := 0) (wc := [(h, .inr (1, [.ref b, .int 0, .int ml, .int (nI n)]))]) (As := []) (rest := []) jw_ml_136 jw_sa_38 jw_se_39 jw_in_40 jw_ii_19 jw_co_41 rfl (by decide +kernel) (s_isLatin1 (α := α) (D := D) (κ := κ) h b ml (nI n) l s.heap.size) hP hD hS [1] rfl rfl (by decide) 1 rfl rfl rfl dJ0_init_db425_16 hl rfl (Nat.le_of_ble_eq_true rfl) ⟨(Nat.le_of_ble_eq_true rfl), (Nat.le_of_ble_eq_true rfl)⟩ ⟨(by show 0 + 0 + 0 + 0 ≤ 1; omega), (by show 0 + 0 + 0 + 0 ≤ n; omega)⟩) hS (s_free C0 (wc := [(h, .inr (1, [.ref b, .int 0, .int ml, .int (nI n)]))]) hD hS [1] rfl) (fun locs hS => ?_)
  refine W.eq (g2 := F0 m 19 ls [.int 1]) rfl ?_
  refine lv_if_eq hx hb dJ0_init_db425_19 (tgt := 41) (by decide) (fun hq9 => absurd hq9 ((by decide : ¬ (1 : Int32) = 0))) (fun _ => ?_)
  refine lv_aload_n hx hb dJ0_init_db425_22 rfl (lv_at hl 2 rfl) ?_
  refine lv_iconst hx hb dJ0_init_db425_23 (by decide : Int32.ofInt 0 = 0) ?_
  refine va_putF (ty := .byte) (ci := 0) (C := RJ0) (T := TJ0) (N := 4) hx hb hts q_u_J0 tyJ0 tyJ0_ok nmJ0 hown hK hP hD hS 0 rfl rfl 1 (by decide) (hts _ jw_fl_81) (fun _ h9 => h9) rfl hin rfl (by decide +kernel) (by decide +kernel) (by decide +kernel) (Nat.le_of_ble_eq_true rfl) dJ0_init_db425_24 (fun H locs hP hD hS => ?_)
  have hP : va_P D vwCl [(g, .inr (0, [.null, .int 0, .int 0, .int 0])), (h, .inr (1, [.ref b, .int 0, .int ml, .int (nI n)])), (b, .inl (κ 1, mm, .inl a))] H := hP
  have hD : va_D A0 [(g, .inr (0, [.null, .int 0, .int 0, .int 0])), (h, .inr (1, [.ref b, .int 0, .int ml, .int (nI n)])), (b, .inl (κ 1, mm, .inl a))] := hD
  refine lv_aload_n hx hb dJ0_init_db425_27 rfl (lv_at hl 2 rfl) ?_
  refine lv_aload_n hx hb dJ0_init_db425_28 rfl (lv_at hl 1 rfl) ?_
  refine lv_iconst hx hb dJ0_init_db425_29 (by decide : Int32.ofInt 0 = 0) ?_
  refine lv_iload hx hb dJ0_init_db425_30 (lv_at hl 0 rfl) ?_
  have hfree := s_free C0 (wc := [(b, .inl (κ 1, mm, .inl a))]) hD hS [2] rfl
  refine va_callr (s_runS C0 (n := 3) (wc := [(b, .inl (κ 1, mm, .inl a))]) (As := [.ref b, .int 0, .int (nI n)]) (rest := [.ref g]) jw_ml_137 jw_st_138 jw_ii_23 jw_co_139 (by decide +kernel) (s_copyR (α := α) (D := D) (κ := κ) b mm n a hf hm h0 l H.size) hP hD hS [2] rfl rfl (by decide) rfl dJ0_init_db425_32 hl rfl (Nat.le_of_ble_eq_true rfl) ⟨(Nat.le_of_ble_eq_true rfl), (Nat.le_of_ble_eq_true rfl)⟩ ⟨(by show 0 + 0 + 0 + 0 + 1 ≤ 1; omega), (by show 0 + 0 + 0 + 0 + n ≤ n; omega)⟩) hS (fun q _ hq => hfree q hq) hfree (fun u ra t H locs ht hvm hpost hB hz hk hS => ?_)
  obtain ⟨hP1, hD1⟩ := hB
  rw [ht] at hP1
  obtain ⟨hP, hD⟩ := va_join hP hD [2] [0, 1] (wr := [(g, .inr (0, [.null, .int 0, .int 0, .int 0])), (h, .inr (1, [.ref b, .int 0, .int ml, .int (nI n)]))]) rfl rfl rfl (by decide) hk hfree hP1 hD1
  have hP : va_P D vwCl [(g, .inr (0, [.null, .int 0, .int 0, .int 0])), (h, .inr (1, [.ref b, .int 0, .int ml, .int (nI n)])), (b, .inl (κ 1, mm, .inl a)), (ra, .inl (κ 1, n, .inl (va_cpy a (fun _ => 0) 0 0 n)))] H := hP
  have hD : va_D A0 [(g, .inr (0, [.null, .int 0, .int 0, .int 0])), (h, .inr (1, [.ref b, .int 0, .int ml, .int (nI n)])), (b, .inl (κ 1, mm, .inl a)), (ra, .inl (κ 1, n, .inl (va_cpy a (fun _ => 0) 0 0 n)))] := hD
  refine W.eq (g2 := F0 m 35 ls [.ref ra, .ref g]) rfl ?_
  refine va_putF (ty := (.array .byte)) (ci := 0) (C := RJ0) (T := TJ0) (N := 4) hx hb hts q_u_J0 tyJ0 tyJ0_ok nmJ0 hown hK hP hD hS 0 rfl rfl 0 (by decide) (hts _ jw_fl_82) (fun _ h9 => h9) rfl hin rfl (by decide +kernel) rfl rfl (Nat.le_of_ble_eq_true rfl) dJ0_init_db425_35 (fun H locs hP hD hS => ?_)
  have hP : va_P D vwCl [(g, .inr (0, [.ref ra, .int 0, .int 0, .int 0])), (h, .inr (1, [.ref b, .int 0, .int ml, .int (nI n)])), (b, .inl (κ 1, mm, .inl a)), (ra, .inl (κ 1, n, .inl (va_cpy a (fun _ => 0) 0 0 n)))] H := hP
  have hD : va_D A0 [(g, .inr (0, [.ref ra, .int 0, .int 0, .int 0])), (h, .inr (1, [.ref b, .int 0, .int ml, .int (nI n)])), (b, .inl (κ 1, mm, .inl a)), (ra, .inl (κ 1, n, .inl (va_cpy a (fun _ => 0) 0 0 n)))] := hD
  refine lv_goto hx hb dJ0_init_db425_38 (tgt := 97) (by decide) ?_
  refine W.widen (k := 1) (n := n) (by omega) (by omega) ?_
  exact W.vret hx hb hr (fun t ht hW => ⟨⟨ra, rfl, trivial, by rw [ht]; exact hP, hD⟩, hS.F ht⟩) hS.2.2 dJ0_init_db425_97 hlocks
set_option maxRecDepth 100000 in
set_option maxHeartbeats 4000000 in
theorem s_strJ {α : Nat → Nat} {D : va_G} {κ : Nat → ClassId} (g h b : Nat) (ml : Int32) (mm n : Nat) (a : Nat → Int32) (hf : sb_Fit a) (hm : mm ≤ 65536) (h0 : n < mm) (l : Launch) (sz : Nat) : Met l yJ0_init_81219 (Cond.code yJ0_init_81219 cJ0_init_81219 2 (Option.none : Option Jvm.ClassFile.FieldType) :: q_W) ({ frames := 4, cells := 1, slots := n, locals := 160 } : Room) (s_Pc α D κ [.ref g, .ref h] [(g, .inr (0, [.null, .int 0, .int 0, .int 0])), (h, .inr (1, [.ref b, .int 0, .int ml, .int (nI n)])), (b, .inl (κ 1, mm, .inl a))] sz) (va_Qv (fun _ : Nat => True) (fun u t => va_P D vwCl [(g, .inr (0, [.ref u, .int 0, .int 0, .int 0])), (h, .inr (1, [.ref b, .int 0, .int ml, .int (nI n)])), (b, .inl (κ 1, mm, .inl a)), (u, .inl (κ 1, n, .inl (va_cpy a (fun _ => 0) 0 0 n)))] t.heap ∧ va_D (va_A [(g, .inr (0, [.null, .int 0, .int 0, .int 0])), (h, .inr (1, [.ref b, .int 0, .int ml, .int (nI n)])), (b, .inl (κ 1, mm, .inl a))] sz) [(g, .inr (0, [.ref u, .int 0, .int 0, .int 0])), (h, .inr (1, [.ref b, .int 0, .int ml, .int (nI n)])), (b, .inl (κ 1, mm, .inl a)), (u, .inl (κ 1, n, .inl (va_cpy a (fun _ => 0) 0 0 n)))]) (va_A [(g, .inr (0, [.null, .int 0, .int 0, .int 0])), (h, .inr (1, [.ref b, .int 0, .int ml, .int (nI n)])), (b, .inl (κ 1, mm, .inl a))] sz)) 1 n (va_A [(g, .inr (0, [.null, .int 0, .int 0, .int 0])), (h, .inr (1, [.ref b, .int 0, .int ml, .int (nI n)])), (b, .inl (κ 1, mm, .inl a))] sz) := by
  refine Met.ofW (cc := cJ0_init_81219) (maxL := 2) (ret := (Option.none : Option Jvm.ClassFile.FieldType)) (by decide) rfl ?_
  intro p e s m args below meth c s₁ B hml hv
  obtain ⟨C, hr, ⟨ls, hle, hl⟩, hP, hD, hS⟩ := s_enter RJ0 rfl (Nat.le_of_ble_eq_true rfl) B hml hv
  obtain rfl : s.heap.size = sz := hv.2.1
  clear hv
  have hin : meth.name = "<init>" := (name_of_methodNamed B.named B.method).1
  rw [hle]
  generalize va_A [(g, .inr (0, [.null, .int 0, .int 0, .int 0])), (h, .inr (1, [.ref b, .int 0, .int ml, .int (nI n)])), (b, .inl (κ 1, mm, .inl a))] s.heap.size = A0 at C hD hS ⊢
  have hl : lv_has ls 2 [(0, .ref g), (1, .ref h)] := hl
  have C0 := C
  obtain ⟨hx, hb, -, hown, hts, hK, hE, hA, hlocks⟩ := C
  refine lv_aload_n hx hb dJ0_init_81219_0 rfl (lv_at hl 0 rfl) ?_
  refine lv_aload_n hx hb dJ0_init_81219_1 rfl (lv_at hl 1 rfl) ?_
  refine lv_null hx hb dJ0_init_81219_2 ?_
  have hfree := s_free C0 (wc := [(g, .inr (0, [.null, .int 0, .int 0, .int 0])), (h, .inr (1, [.ref b, .int 0, .int ml, .int (nI n)])), (b, .inl (κ 1, mm, .inl a))]) hD hS [0, 1, 2] rfl
  refine va_callv (s_runI C0 (n := 2) (wc := [(g, .inr (0, [.null, .int 0, .int 0, .int 0])), (h, .inr (1, [.ref b, .int 0, .int ml, .int (nI n)])), (b, .inl (κ 1, mm, .inl a))]) (As := [.ref h, .null]) (rest := []) jw_ml_140 jw_in_141 jw_ii_56 jw_co_142 rfl (by decide +kernel) (s_strI (α := α) (D := D) (κ := κ) g h b ml mm n a hf hm h0 l s.heap.size) hP hD hS [0, 1, 2] rfl rfl (by decide) rfl rfl dJ0_init_81219_3 hl (Nat.le_of_ble_eq_true rfl) ⟨(Nat.le_of_ble_eq_true rfl), (Nat.le_of_ble_eq_true rfl)⟩ ⟨(by show 0 + 1 ≤ 1; omega), (by show 0 + n ≤ n; omega)⟩) hS (fun q _ hq => hfree q hq) hfree (fun u t H locs ht hvm hpost hB hz hk hS => ?_)
  obtain ⟨hP1, hD1⟩ := hB
  rw [ht] at hP1
  have hP := hP1
  have hD := hD1.weaken (fun _ _ _ hq => hfree _ hq)
  have hP : va_P D vwCl [(g, .inr (0, [.ref u, .int 0, .int 0, .int 0])), (h, .inr (1, [.ref b, .int 0, .int ml, .int (nI n)])), (b, .inl (κ 1, mm, .inl a)), (u, .inl (κ 1, n, .inl (va_cpy a (fun _ => 0) 0 0 n)))] H := hP
  have hD : va_D A0 [(g, .inr (0, [.ref u, .int 0, .int 0, .int 0])), (h, .inr (1, [.ref b, .int 0, .int ml, .int (nI n)])), (b, .inl (κ 1, mm, .inl a)), (u, .inl (κ 1, n, .inl (va_cpy a (fun _ => 0) 0 0 n)))] := hD
  refine W.eq (g2 := F0 m 6 ls []) rfl ?_
  refine W.widen (k := 1) (n := n) (by omega) (by omega) ?_
  exact W.vret hx hb hr (fun t ht hW => ⟨⟨u, rfl, trivial, by rw [ht]; exact hP, hD⟩, hS.F ht⟩) hS.2.2 dJ0_init_81219_6 hlocks
set_option maxRecDepth 100000 in
set_option maxHeartbeats 4000000 in
theorem s_ToStr {α : Nat → Nat} {D : va_G} {κ : Nat → ClassId} (h b : Nat) (ml : Int32) (mm n : Nat) (a : Nat → Int32) (hf : sb_Fit a) (hm : mm ≤ 65536) (h0 : n < mm) (l : Launch) (sz : Nat) : Met l yJ4_toString_0e30d (Cond.code yJ4_toString_0e30d cJ4_toString_0e30d 1 (Option.some (Jvm.ClassFile.FieldType.object "java/lang/String")) :: q_W) ({ frames := 5, cells := 2, slots := (4 + n), locals := 185 } : Room) (s_Pc α D κ [.ref h] [(h, .inr (1, [.ref b, .int 0, .int ml, .int (nI n)])), (b, .inl (κ 1, mm, .inl a))] sz) (va_Qr (fun _ : Nat => True) (fun u g t => va_P D vwCl [(g, .inr (0, [.ref u, .int 0, .int 0, .int 0])), (h, .inr (1, [.ref b, .int 0, .int ml, .int (nI n)])), (b, .inl (κ 1, mm, .inl a)), (u, .inl (κ 1, n, .inl (va_cpy a (fun _ => 0) 0 0 n)))] t.heap ∧ va_D (va_A [(h, .inr (1, [.ref b, .int 0, .int ml, .int (nI n)])), (b, .inl (κ 1, mm, .inl a))] sz) [(g, .inr (0, [.ref u, .int 0, .int 0, .int 0])), (h, .inr (1, [.ref b, .int 0, .int ml, .int (nI n)])), (b, .inl (κ 1, mm, .inl a)), (u, .inl (κ 1, n, .inl (va_cpy a (fun _ => 0) 0 0 n)))]) (va_A [(h, .inr (1, [.ref b, .int 0, .int ml, .int (nI n)])), (b, .inl (κ 1, mm, .inl a))] sz)) 2 ((4 + n)) (va_A [(h, .inr (1, [.ref b, .int 0, .int ml, .int (nI n)])), (b, .inl (κ 1, mm, .inl a))] sz) := by
  refine Met.ofW (cc := cJ4_toString_0e30d) (maxL := 1) (ret := (Option.some (Jvm.ClassFile.FieldType.object "java/lang/String"))) (by decide) rfl ?_
  intro p e s m args below meth c s₁ B hml hv
  obtain ⟨C, hr, ⟨ls, hle, hl⟩, hP, hD, hS⟩ := s_enter RJ4 rfl (Nat.le_of_ble_eq_true rfl) B hml hv
  obtain rfl : s.heap.size = sz := hv.2.1
  clear hv
  rw [hle]
  generalize va_A [(h, .inr (1, [.ref b, .int 0, .int ml, .int (nI n)])), (b, .inl (κ 1, mm, .inl a))] s.heap.size = A0 at C hD hS ⊢
  have hl : lv_has ls 1 [(0, .ref h)] := hl
  have C0 := C
  obtain ⟨hx, hb, -, hown, hts, hK, hE, hA, hlocks⟩ := C
  refine va_new (ci := 0) (fs := [.null, .int 0, .int 0, .int 0]) (C := RJ0) (T := TJ0) (N := 4) hx hb hts q_u_J0 tyJ0 tyJ0_ok hown (hts _ jw_cl_143) (hts _ jw_is_144) (hts _ jw_ii_56) hK hP hD hS hA rfl (fun j hj => by rcases (show j = 0 ∨ j = 1 ∨ j = 2 ∨ j = 3 by omega) with rfl | rfl | rfl | rfl <;> rfl) (by show 0 + 1 ≤ 2; omega) (by show 0 + 4 ≤ 4 + n; omega) dJ4_toString_0e30d_0 (fun g H hP hD hS => ?_)
  have hP : va_P D vwCl [(h, .inr (1, [.ref b, .int 0, .int ml, .int (nI n)])), (b, .inl (κ 1, mm, .inl a)), (g, .inr (0, [.null, .int 0, .int 0, .int 0]))] H := hP
  have hD : va_D A0 [(h, .inr (1, [.ref b, .int 0, .int ml, .int (nI n)])), (b, .inl (κ 1, mm, .inl a)), (g, .inr (0, [.null, .int 0, .int 0, .int 0]))] := hD
  refine lv_dup hx hb dJ4_toString_0e30d_3 rfl ?_
  refine lv_aload_n hx hb dJ4_toString_0e30d_4 rfl (lv_at hl 0 rfl) ?_
  have hfree := s_free C0 (wc := [(g, .inr (0, [.null, .int 0, .int 0, .int 0])), (h, .inr (1, [.ref b, .int 0, .int ml, .int (nI n)])), (b, .inl (κ 1, mm, .inl a))]) hD hS [2, 0, 1] rfl
  refine va_callv (s_runI C0 (n := 1) (wc := [(g, .inr (0, [.null, .int 0, .int 0, .int 0])), (h, .inr (1, [.ref b, .int 0, .int ml, .int (nI n)])), (b, .inl (κ 1, mm, .inl a))]) (As := [.ref h]) (rest := [.ref g]) jw_ml_145 jw_in_146 jw_ii_56 jw_co_147 rfl (by decide +kernel) (s_strJ (α := α) (D := D) (κ := κ) g h b ml mm n a hf hm h0 l H.size) hP hD hS [2, 0, 1] rfl rfl (by decide) rfl rfl dJ4_toString_0e30d_5 hl (Nat.le_of_ble_eq_true rfl) ⟨(Nat.le_of_ble_eq_true rfl), (Nat.le_of_ble_eq_true rfl)⟩ ⟨(by show 0 + 1 + 1 ≤ 2; omega), (by show 0 + 4 + n ≤ (4 + n); omega)⟩) hS (fun q _ hq => hfree q hq) hfree (fun u t H locs ht hvm hpost hB hz hk hS => ?_)
  obtain ⟨hP1, hD1⟩ := hB
  rw [ht] at hP1
  have hP := hP1
  have hD := hD1.weaken (fun _ _ _ hq => hfree _ hq)
  have hP : va_P D vwCl [(g, .inr (0, [.ref u, .int 0, .int 0, .int 0])), (h, .inr (1, [.ref b, .int 0, .int ml, .int (nI n)])), (b, .inl (κ 1, mm, .inl a)), (u, .inl (κ 1, n, .inl (va_cpy a (fun _ => 0) 0 0 n)))] H := hP
  have hD : va_D A0 [(g, .inr (0, [.ref u, .int 0, .int 0, .int 0])), (h, .inr (1, [.ref b, .int 0, .int ml, .int (nI n)])), (b, .inl (κ 1, mm, .inl a)), (u, .inl (κ 1, n, .inl (va_cpy a (fun _ => 0) 0 0 n)))] := hD
  refine W.eq (g2 := F0 m 8 ls [.ref g]) rfl ?_
  refine W.widen (k := 2) (n := 4 + n) (by omega) (by omega) ?_
  exact W.aret (v := .ref g) hx hb hr (Or.inl ⟨_, rfl⟩) (Or.inr ⟨_, rfl⟩) (fun t ht hW => ⟨⟨u, g, rfl, trivial, by rw [ht]; exact hP, hD⟩, hS.F ht⟩) hS.2.2 dJ4_toString_0e30d_8 hlocks
