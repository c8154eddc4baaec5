/-! The library's own methods: room in a builder, an index tested. -/
set_option maxRecDepth 100000 in
theorem jw_ml_16 : Cond.methodLink RJ5 104 yJ5_newCapacity_0f7a4 ∈ q_W := q_t1 184 rfl rfl
set_option maxRecDepth 100000 in
theorem jw_sa_17 : Cond.sameMethod "java/lang/AbstractStringBuilder" "java/lang/AbstractStringBuilder" "newCapacity" "(I)I" ∈ q_W := q_t6 173 rfl rfl
set_option maxRecDepth 100000 in
theorem jw_in_18 : Cond.instanceMethod yJ5_newCapacity_0f7a4 ∈ q_W := q_t1 186 rfl rfl
set_option maxRecDepth 100000 in
theorem jw_ii_19 : Cond.initialized "java/lang/AbstractStringBuilder" ∈ q_W := q_t1 8 rfl rfl
set_option maxRecDepth 100000 in
theorem jw_co_20 : Cond.code yJ5_newCapacity_0f7a4 cJ5_newCapacity_0f7a4 6 (Option.some Jvm.ClassFile.FieldType.int) ∈ q_W := q_t1 187 rfl rfl
set_option maxRecDepth 100000 in
theorem jw_ml_21 : Cond.methodLink RJ5 108 yJ7_copyOf_9075b ∈ q_W := q_t1 199 rfl rfl
set_option maxRecDepth 100000 in
theorem jw_st_22 : Cond.static yJ7_copyOf_9075b ∈ q_W := q_t1 200 rfl rfl
set_option maxRecDepth 100000 in
theorem jw_ii_23 : Cond.initialized "java/util/Arrays" ∈ q_W := q_t1 26 rfl rfl
set_option maxRecDepth 100000 in
theorem jw_co_24 : Cond.code yJ7_copyOf_9075b cJ7_copyOf_9075b 3 (Option.some (Jvm.ClassFile.FieldType.array Jvm.ClassFile.FieldType.byte)) ∈ q_W := q_t1 201 rfl rfl
set_option maxRecDepth 100000 in
theorem jw_fl_25 : Cond.fieldLink RJ0 1053 "jdk/internal/util/Preconditions" "SIOOBE_FORMATTER" "Ljava/util/function/BiFunction;" ∈ q_W := q_t1 232 rfl rfl
set_option maxRecDepth 100000 in
theorem jw_ml_26 : Cond.methodLink RJ0 1059 yJ3_checkIndex_8e157 ∈ q_W := q_t2 221 rfl rfl
set_option maxRecDepth 100000 in
theorem jw_st_27 : Cond.static yJ3_checkIndex_8e157 ∈ q_W := q_t2 222 rfl rfl
set_option maxRecDepth 100000 in
theorem jw_ii_28 : Cond.initialized "jdk/internal/util/Preconditions" ∈ q_W := q_t1 28 rfl rfl
set_option maxRecDepth 100000 in
theorem jw_co_29 : Cond.code yJ3_checkIndex_8e157 cJ3_checkIndex_8e157 3 (Option.some Jvm.ClassFile.FieldType.int) ∈ q_W := q_t2 223 rfl rfl
theorem dJ0_checkIndex_df160_0 : decode cJ0_checkIndex_df160 0 = .ok (.iload_n 0, 1) := by decide +kernel
theorem dJ0_checkIndex_df160_1 : decode cJ0_checkIndex_df160 1 = .ok (.iload_n 1, 1) := by decide +kernel
theorem dJ0_checkIndex_df160_2 : decode cJ0_checkIndex_df160 2 = .ok (.getstatic 1053, 3) := by decide +kernel
theorem dJ0_checkIndex_df160_5 : decode cJ0_checkIndex_df160 5 = .ok (.invokestatic 1059, 3) := by decide +kernel
theorem dJ0_checkIndex_df160_8 : decode cJ0_checkIndex_df160 8 = .ok (.pop, 1) := by decide +kernel
theorem dJ0_checkIndex_df160_9 : decode cJ0_checkIndex_df160 9 = .ok (.return_, 1) := by decide +kernel
theorem dJ3_checkIndex_8e157_0 : decode cJ3_checkIndex_8e157 0 = .ok (.iload_n 0, 1) := by decide +kernel
theorem dJ3_checkIndex_8e157_1 : decode cJ3_checkIndex_8e157 1 = .ok (.ifCond .lt 8, 3) := by decide +kernel
theorem dJ3_checkIndex_8e157_4 : decode cJ3_checkIndex_8e157 4 = .ok (.iload_n 0, 1) := by decide +kernel
theorem dJ3_checkIndex_8e157_5 : decode cJ3_checkIndex_8e157 5 = .ok (.iload_n 1, 1) := by decide +kernel
theorem dJ3_checkIndex_8e157_6 : decode cJ3_checkIndex_8e157 6 = .ok (.if_icmp .lt 10, 3) := by decide +kernel
theorem dJ3_checkIndex_8e157_16 : decode cJ3_checkIndex_8e157 16 = .ok (.iload_n 0, 1) := by decide +kernel
theorem dJ3_checkIndex_8e157_17 : decode cJ3_checkIndex_8e157 17 = .ok (.ireturn, 1) := by decide +kernel
theorem dJ5_ensureCapacityInternal_d00df_0 : decode cJ5_ensureCapacityInternal_d00df 0 = .ok (.aload_n 0, 1) := by decide +kernel
theorem dJ5_ensureCapacityInternal_d00df_1 : decode cJ5_ensureCapacityInternal_d00df 1 = .ok (.getfield 15, 3) := by decide +kernel
theorem dJ5_ensureCapacityInternal_d00df_4 : decode cJ5_ensureCapacityInternal_d00df 4 = .ok (.arraylength, 1) := by decide +kernel
theorem dJ5_ensureCapacityInternal_d00df_5 : decode cJ5_ensureCapacityInternal_d00df 5 = .ok (.aload_n 0, 1) := by decide +kernel
theorem dJ5_ensureCapacityInternal_d00df_6 : decode cJ5_ensureCapacityInternal_d00df 6 = .ok (.getfield 22, 3) := by decide +kernel
theorem dJ5_ensureCapacityInternal_d00df_9 : decode cJ5_ensureCapacityInternal_d00df 9 = .ok (.ishr, 1) := by decide +kernel
theorem dJ5_ensureCapacityInternal_d00df_10 : decode cJ5_ensureCapacityInternal_d00df 10 = .ok (.istore_n 2, 1) := by decide +kernel
theorem dJ5_ensureCapacityInternal_d00df_11 : decode cJ5_ensureCapacityInternal_d00df 11 = .ok (.iload_n 1, 1) := by decide +kernel
theorem dJ5_ensureCapacityInternal_d00df_12 : decode cJ5_ensureCapacityInternal_d00df 12 = .ok (.iload_n 2, 1) := by decide +kernel
theorem dJ5_ensureCapacityInternal_d00df_13 : decode cJ5_ensureCapacityInternal_d00df 13 = .ok (.isub, 1) := by decide +kernel
theorem dJ5_ensureCapacityInternal_d00df_14 : decode cJ5_ensureCapacityInternal_d00df 14 = .ok (.ifCond .le 24, 3) := by decide +kernel
theorem dJ5_ensureCapacityInternal_d00df_17 : decode cJ5_ensureCapacityInternal_d00df 17 = .ok (.aload_n 0, 1) := by decide +kernel
theorem dJ5_ensureCapacityInternal_d00df_18 : decode cJ5_ensureCapacityInternal_d00df 18 = .ok (.aload_n 0, 1) := by decide +kernel
theorem dJ5_ensureCapacityInternal_d00df_19 : decode cJ5_ensureCapacityInternal_d00df 19 = .ok (.getfield 15, 3) := by decide +kernel
theorem dJ5_ensureCapacityInternal_d00df_22 : decode cJ5_ensureCapacityInternal_d00df 22 = .ok (.aload_n 0, 1) := by decide +kernel
theorem dJ5_ensureCapacityInternal_d00df_23 : decode cJ5_ensureCapacityInternal_d00df 23 = .ok (.iload_n 1, 1) := by decide +kernel
theorem dJ5_ensureCapacityInternal_d00df_24 : decode cJ5_ensureCapacityInternal_d00df 24 = .ok (.invokevirtual 104, 3) := by decide +kernel
theorem dJ5_ensureCapacityInternal_d00df_27 : decode cJ5_ensureCapacityInternal_d00df 27 = .ok (.aload_n 0, 1) := by decide +kernel
theorem dJ5_ensureCapacityInternal_d00df_28 : decode cJ5_ensureCapacityInternal_d00df 28 = .ok (.getfield 22, 3) := by decide +kernel
theorem dJ5_ensureCapacityInternal_d00df_31 : decode cJ5_ensureCapacityInternal_d00df 31 = .ok (.ishl, 1) := by decide +kernel
theorem dJ5_ensureCapacityInternal_d00df_32 : decode cJ5_ensureCapacityInternal_d00df 32 = .ok (.invokestatic 108, 3) := by decide +kernel
theorem dJ5_ensureCapacityInternal_d00df_35 : decode cJ5_ensureCapacityInternal_d00df 35 = .ok (.putfield 15, 3) := by decide +kernel
theorem dJ5_ensureCapacityInternal_d00df_38 : decode cJ5_ensureCapacityInternal_d00df 38 = .ok (.return_, 1) := by decide +kernel
section q30
variable {α : Nat → Nat} {D : va_G} {κ : Nat → ClassId} {p : Program} {l : Launch} {e : Env} {R : Room} {s : State} {m : MethodId} {args : Array Value} {below : List Frame} {meth : Method} {c : Code} {cc : ByteArray} {own : String} {nL : Nat} {A : Nat → Prop} {Q : State → Prop} {n1 n2 : Nat}
variable {x : MethodName} {bytes : ByteArray} {maxL n idx : Nat} {ret : Option FieldType} {fr lo mc ms : Nat} {Qc : Array Value → State → Outcome → State → Prop} {As rest st : List Value} {ws wc : va_W} {H : Heap} {locs : List Loc} {ls : Array Slot} {lv : List (Nat × Value)} {pc : Nat}
theorem s_runP (C : s_Cx α D κ p s m args meth c cc own nL A) (w1 : Cond.methodLink own idx x ∈ q_W) (w2 : Cond.sameMethod x.cls x.cls x.name x.desc ∈ q_W) (w3 : Cond.selects "java/lang/StringBuilder" x x ∈ s_SW) (w4 : Cond.instanceMethod x ∈ q_W) (w5 : Cond.initialized x.cls ∈ q_W) (w6 : Cond.code x bytes maxL ret ∈ q_W) (hd : x.cls ≠ "java/lang/invoke/MethodHandle" ∧ x.cls ≠ "java/lang/invoke/VarHandle" ∧ (parseMethodDescriptor x.desc).map (fun d => d.parameters.length) = some n) (hgs : goodWord (Cond.selects "java/lang/StringBuilder" x x) = true ∧ (Cond.selects "java/lang/StringBuilder" x x).onTables = true)
    {b : Nat} {fs : List Value} (hM : Met l x (Cond.code x bytes maxL ret :: q_W) ({ frames := fr, cells := mc, slots := ms, locals := lo } : Room) (s_Pc α D κ (.ref b :: As) wc H.size) Qc mc ms (va_A wc H.size)) (hP : va_P D vwCl ws H) (hD : va_D A ws) (hS : va_S A s.heap H locs) (isC : List Nat) (hC : isC.map (fun i => ws[i]?) = wc.map some) (hC2 : isC.filterMap (fun i => ws[i]?) = wc) (hn : va_nd isC = true) (q0 : Nat) (hq : ws[q0]? = some (b, .inr (1, fs)))
    (hst : st = As.reverse ++ .ref b :: rest) (hlen : As.length = n) (hdg : decode cc pc = .ok (.invokevirtual idx, 3)) (hl : lv_has ls nL lv) (_hr : As.length = n) (hrest : (rest.map fun v => v.category).sum ≤ 8) (hR : fr + 1 ≤ R.frames ∧ 8 + (maxL + 11) + lo ≤ R.locals) (hcs : n1 + mc ≤ R.cells ∧ n2 + ms ≤ R.slots) :
    va_Run p l e R s m args below meth c H locs n1 n2 mc ms (F0 m pc ls st) rest (Qc (Value.ref b :: As).toArray) (va_A wc H.size) := by
  have C0 := C
  obtain ⟨hx, hb, hml, hown, hts, hK, hE, hA, hlk⟩ := C
  have hsel : (Cond.selects "java/lang/StringBuilder" x x).before args s = true := va_Nw.use hgs.2 (hE.2.2 _ w3)
  have hts2 : ∀ w ∈ Cond.selects "java/lang/StringBuilder" x x :: q_W, w.before args s = true := fun w hw => (List.mem_cons.mp hw).elim (fun e => by rw [e]; exact hsel) (hts w)
  have hG2 : GoodIn (Cond.selects "java/lang/StringBuilder" x x :: q_W) (va_wsU own idx "java/lang/StringBuilder" x.cls x x (Cond.code x bytes maxL ret :: q_W)) := by
    have g := q_GI w6
    intro w hw
    unfold va_wsU at hw
    rcases List.mem_append.mp hw with h | h
    · have hw' : w ∈ Cond.selects "java/lang/StringBuilder" x x :: q_W ∧ goodWord w = true := by
        simp only [List.mem_cons, List.not_mem_nil, or_false] at h
        rcases h with rfl | rfl | rfl | rfl | rfl
        · exact ⟨List.mem_cons_of_mem _ w1, (List.mem_filter.mp w1).2⟩
        · exact ⟨List.mem_cons_of_mem _ w2, (List.mem_filter.mp w2).2⟩
        · exact ⟨List.mem_cons_self, hgs.1⟩
        · exact ⟨List.mem_cons_of_mem _ w4, (List.mem_filter.mp w4).2⟩
        · exact ⟨List.mem_cons_of_mem _ w5, (List.mem_filter.mp w5).2⟩
      exact ⟨hw'.1, good_of_word hw'.2⟩
    · exact ⟨List.mem_cons_of_mem _ (g w h).1, (g w h).2⟩
  have hrecv := va_recv hK hP (show vwCl[1]? = some (RJ4, TJ4, 4) from rfl) hq
  exact va_runU (n := n) ⟨hx, hb, hml, hown, hts2⟩ hM (va_cwU n hts2 hG2 rfl rfl rfl (by cases x; rfl) hd hR) ⟨s_FB, hrecv, s_pre C0 hP hD hS isC hC hC2 hn⟩ rfl hlen hl.1 hst (lv_room hrest) hdg hcs
end q30
set_option maxRecDepth 100000 in
set_option maxHeartbeats 4000000 in
theorem s_ensure0 {α : Nat → Nat} {D : va_G} {κ : Nat → ClassId} (h b : Nat) (ml cnt : Int32) (mm : Nat) (a : Nat → Int32) (q : Nat) (hm : mm ≤ 65536) (h1 : q < 2 ^ 28) (h0 : q ≤ mm) (l : Launch) (sz : Nat) : Met l yJ5_ensureCapacityInternal_d00df (Cond.code yJ5_ensureCapacityInternal_d00df cJ5_ensureCapacityInternal_d00df 3 (Option.none : Option Jvm.ClassFile.FieldType) :: q_W) ({ frames := 3, cells := 0, slots := 0, locals := 85 } : Room) (s_Pc α D κ [.ref h, .int (nI q)] [(h, .inr (1, [.ref b, .int 0, .int ml, .int cnt])), (b, .inl (κ 1, mm, .inl a))] sz) (s_Qp none) 0 0 (va_A [(h, .inr (1, [.ref b, .int 0, .int ml, .int cnt])), (b, .inl (κ 1, mm, .inl a))] sz) := by
  refine Met.ofW (cc := cJ5_ensureCapacityInternal_d00df) (maxL := 3) (ret := (Option.none : Option Jvm.ClassFile.FieldType)) (by decide) rfl ?_
  intro p e s m args below meth c s₁ B hml hv
  obtain ⟨C, hr, ⟨ls, hle, hl⟩, hP, hD, hS⟩ := s_enter RJ5 rfl (Nat.le_of_ble_eq_true rfl) B hml hv
  obtain rfl : s.heap.size = sz := hv.2.1
  clear hv
  rw [hle]
  generalize va_A [(h, .inr (1, [.ref b, .int 0, .int ml, .int cnt])), (b, .inl (κ 1, mm, .inl a))] s.heap.size = A0 at C hD hS ⊢
  have hl : lv_has ls 3 [(0, .ref h), (1, .int (nI q))] := hl
  have C0 := C
  obtain ⟨hx, hb, -, hown, hts, hK, hE, hA, hlocks⟩ := C
  refine lv_aload_n hx hb dJ5_ensureCapacityInternal_d00df_0 rfl (lv_at hl 0 rfl) ?_
  refine va_get (ci := 1) (C := RJ4) (T := TJ4) (N := 4) hx hb hts q_u_J4 hown hK hP 0 rfl rfl 0 (by decide) (hts _ jw_fl_4) (fun _ h9 => h9) rfl dJ5_ensureCapacityInternal_d00df_1 ?_
  refine va_alen hx hb hK hP 1 1 rfl rfl (v := nI mm) rfl dJ5_ensureCapacityInternal_d00df_4 ?_
  refine lv_aload_n hx hb dJ5_ensureCapacityInternal_d00df_5 rfl (lv_at hl 0 rfl) ?_
  refine va_get (ci := 1) (C := RJ4) (T := TJ4) (N := 4) hx hb hts q_u_J4 hown hK hP 0 rfl rfl 1 (by decide) (hts _ jw_fl_1) (fun _ h9 => h9) rfl dJ5_ensureCapacityInternal_d00df_6 ?_
  refine lv_ishr hx hb dJ5_ensureCapacityInternal_d00df_9 ?_
  refine lv_topi (fun x1 hx2 => ?_)
  obtain rfl : x1 = nI mm := by rw [hx2]; exact (sb_shr0 _)
  refine lv_istore_n hx hb dJ5_ensureCapacityInternal_d00df_10 rfl hl (Nat.le_of_ble_eq_true rfl) (lv' := [(2, .int (nI mm)), (0, .ref h), (1, .int (nI q))]) rfl (fun ls hl => ?_)
  refine lv_iload_n hx hb dJ5_ensureCapacityInternal_d00df_11 rfl (lv_at hl 2 rfl) ?_
  refine lv_iload_n hx hb dJ5_ensureCapacityInternal_d00df_12 rfl (lv_at hl 0 rfl) ?_
  refine lv_isub hx hb dJ5_ensureCapacityInternal_d00df_13 ?_
  refine lv_if_le hx hb dJ5_ensureCapacityInternal_d00df_14 (tgt := 38) (by decide) (fun _ => ?_) (fun hq9 => absurd (show nI q - nI mm ≤ 0 from by rw [Int32.le_iff_toInt_le, (pk_sub_toInt (a := q) (b := mm) (by omega) (by omega)), Int32.toInt_zero]; omega) hq9)
  exact W.vret hx hb hr (fun t ht hW => ⟨rfl, ht⟩) hS.2.2 dJ5_ensureCapacityInternal_d00df_38 hlocks
set_option maxRecDepth 100000 in
set_option maxHeartbeats 4000000 in
theorem s_ensure {α : Nat → Nat} {D : va_G} {κ : Nat → ClassId} (h b : Nat) (ml cnt : Int32) (mm : Nat) (a : Nat → Int32) (q : Nat) (hm : mm ≤ 65536) (h1 : q < 2 ^ 28) (hf : sb_Fit a) (kc : Nat) (hkc : q ≤ mm ∨ sb_cap q mm ≤ kc) (l : Launch) (sz : Nat) : Met l yJ5_ensureCapacityInternal_d00df (Cond.code yJ5_ensureCapacityInternal_d00df cJ5_ensureCapacityInternal_d00df 3 (Option.none : Option Jvm.ClassFile.FieldType) :: q_W) ({ frames := 3, cells := 1, slots := kc, locals := 85 } : Room) (s_Pc α D κ [.ref h, .int (nI q)] [(h, .inr (1, [.ref b, .int 0, .int ml, .int cnt])), (b, .inl (κ 1, mm, .inl a))] sz) (va_Qv (fun u : Nat × (Nat → Int32) => sb_Fit u.2 ∧ ∀ j, j < mm → u.2 j = a j) (fun u t => va_P D vwCl [(h, .inr (1, [.ref u.1, .int 0, .int ml, .int cnt])), (u.1, .inl (κ 1, sb_cap q mm, .inl u.2))] t.heap ∧ va_D (va_A [(h, .inr (1, [.ref b, .int 0, .int ml, .int cnt])), (b, .inl (κ 1, mm, .inl a))] sz) [(h, .inr (1, [.ref u.1, .int 0, .int ml, .int cnt])), (u.1, .inl (κ 1, sb_cap q mm, .inl u.2))]) (va_A [(h, .inr (1, [.ref b, .int 0, .int ml, .int cnt])), (b, .inl (κ 1, mm, .inl a))] sz)) 1 (kc) (va_A [(h, .inr (1, [.ref b, .int 0, .int ml, .int cnt])), (b, .inl (κ 1, mm, .inl a))] sz) := by
  refine Met.ofW (cc := cJ5_ensureCapacityInternal_d00df) (maxL := 3) (ret := (Option.none : Option Jvm.ClassFile.FieldType)) (by decide) rfl ?_
  intro p e s m args below meth c s₁ B hml hv
  obtain ⟨C, hr, ⟨ls, hle, hl⟩, hP, hD, hS⟩ := s_enter RJ5 rfl (Nat.le_of_ble_eq_true rfl) B hml hv
  obtain rfl : s.heap.size = sz := hv.2.1
  clear hv
  rw [hle]
  generalize va_A [(h, .inr (1, [.ref b, .int 0, .int ml, .int cnt])), (b, .inl (κ 1, mm, .inl a))] s.heap.size = A0 at C hD hS ⊢
  have hl : lv_has ls 3 [(0, .ref h), (1, .int (nI q))] := hl
  have C0 := C
  obtain ⟨hx, hb, -, hown, hts, hK, hE, hA, hlocks⟩ := C
  refine lv_aload_n hx hb dJ5_ensureCapacityInternal_d00df_0 rfl (lv_at hl 0 rfl) ?_
  refine va_get (ci := 1) (C := RJ4) (T := TJ4) (N := 4) hx hb hts q_u_J4 hown hK hP 0 rfl rfl 0 (by decide) (hts _ jw_fl_4) (fun _ h9 => h9) rfl dJ5_ensureCapacityInternal_d00df_1 ?_
  refine va_alen hx hb hK hP 1 1 rfl rfl (v := nI mm) rfl dJ5_ensureCapacityInternal_d00df_4 ?_
  refine lv_aload_n hx hb dJ5_ensureCapacityInternal_d00df_5 rfl (lv_at hl 0 rfl) ?_
  refine va_get (ci := 1) (C := RJ4) (T := TJ4) (N := 4) hx hb hts q_u_J4 hown hK hP 0 rfl rfl 1 (by decide) (hts _ jw_fl_1) (fun _ h9 => h9) rfl dJ5_ensureCapacityInternal_d00df_6 ?_
  refine lv_ishr hx hb dJ5_ensureCapacityInternal_d00df_9 ?_
  refine lv_topi (fun x1 hx2 => ?_)
  obtain rfl : x1 = nI mm := by rw [hx2]; exact (sb_shr0 _)
  refine lv_istore_n hx hb dJ5_ensureCapacityInternal_d00df_10 rfl hl (Nat.le_of_ble_eq_true rfl) (lv' := [(2, .int (nI mm)), (0, .ref h), (1, .int (nI q))]) rfl (fun ls hl => ?_)
  refine lv_iload_n hx hb dJ5_ensureCapacityInternal_d00df_11 rfl (lv_at hl 2 rfl) ?_
  refine lv_iload_n hx hb dJ5_ensureCapacityInternal_d00df_12 rfl (lv_at hl 0 rfl) ?_
  refine lv_isub hx hb dJ5_ensureCapacityInternal_d00df_13 ?_
  by_cases h0 : q ≤ mm
  · skip
    refine lv_if_le hx hb dJ5_ensureCapacityInternal_d00df_14 (tgt := 38) (by decide) (fun _ => ?_) (fun hq9 => absurd (show nI q - nI mm ≤ 0 from by rw [Int32.le_iff_toInt_le, (pk_sub_toInt (a := q) (b := mm) (by omega) (by omega)), Int32.toInt_zero]; omega) hq9)
    have hcap : sb_cap q mm = mm := by unfold sb_cap; rw [if_pos h0]
    refine W.widen (k := 1) (n := kc) (by omega) (by omega) ?_
    exact W.vret hx hb hr (fun t ht hW => ⟨⟨(b, a), rfl, ⟨hf, fun j _ => rfl⟩, by rw [ht]; show va_P D vwCl [(h, .inr (1, [.ref b, .int 0, .int ml, .int cnt])), (b, .inl (κ 1, sb_cap q mm, .inl a))] s.heap; rw [hcap]; exact hP, by show va_D A0 [(h, .inr (1, [.ref b, .int 0, .int ml, .int cnt])), (b, .inl (κ 1, sb_cap q mm, .inl a))]; rw [hcap]; exact hD⟩, hS.F ht⟩) hS.2.2 dJ5_ensureCapacityInternal_d00df_38 hlocks
  replace hkc := hkc.resolve_left h0
  replace h0 : mm < q := by omega
  refine lv_if_le hx hb dJ5_ensureCapacityInternal_d00df_14 (tgt := 38) (by decide) (fun hq9 => absurd hq9 (show ¬ nI q - nI mm ≤ 0 from by rw [Int32.le_iff_toInt_le, (pk_sub_toInt (a := q) (b := mm) (by omega) (by omega)), Int32.toInt_zero]; omega)) (fun _ => ?_)
  refine lv_aload_n hx hb dJ5_ensureCapacityInternal_d00df_17 rfl (lv_at hl 1 rfl) ?_
  refine lv_aload_n hx hb dJ5_ensureCapacityInternal_d00df_18 rfl (lv_at hl 1 rfl) ?_
  refine va_get (ci := 1) (C := RJ4) (T := TJ4) (N := 4) hx hb hts q_u_J4 hown hK hP 0 rfl rfl 0 (by decide) (hts _ jw_fl_4) (fun _ h9 => h9) rfl dJ5_ensureCapacityInternal_d00df_19 ?_
  refine lv_aload_n hx hb dJ5_ensureCapacityInternal_d00df_22 rfl (lv_at hl 1 rfl) ?_
  refine lv_iload_n hx hb dJ5_ensureCapacityInternal_d00df_23 rfl (lv_at hl 2 rfl) ?_
  refine s_callp (v := some (.int (nI (sb_cap q mm)))) (s_runP C0 (n := 1) (wc := [(h, .inr (1, [.ref b, .int 0, .int ml, .int cnt])), (b, .inl (κ 1, mm, .inl a))]) (As := [.int (nI q)]) (rest := [.ref b, .ref h]) jw_ml_16 jw_sa_17 (List.mem_of_getElem? (i := 1) rfl) jw_in_18 jw_ii_19 jw_co_20 (by decide +kernel) ⟨by decide +kernel, by decide +kernel⟩ (s_newCapacity (α := α) (D := D) (κ := κ) h b ml cnt mm a q hm h1 h0 l s.heap.size) hP hD hS [0, 1] rfl rfl (by decide) 0 rfl rfl rfl dJ5_ensureCapacityInternal_d00df_24 hl rfl (Nat.le_of_ble_eq_true rfl) ⟨(Nat.le_of_ble_eq_true rfl), (Nat.le_of_ble_eq_true rfl)⟩ ⟨(by show 0 + 0 ≤ 1; omega), (by show 0 + 0 ≤ kc; omega)⟩) hS (s_free C0 (wc := [(h, .inr (1, [.ref b, .int 0, .int ml, .int cnt])), (b, .inl (κ 1, mm, .inl a))]) hD hS [0, 1] rfl) (fun locs hS => ?_)
  refine W.eq (g2 := F0 m 27 ls [.int (nI (sb_cap q mm)), .ref b, .ref h]) rfl ?_
  refine lv_aload_n hx hb dJ5_ensureCapacityInternal_d00df_27 rfl (lv_at hl 1 rfl) ?_
  refine va_get (ci := 1) (C := RJ4) (T := TJ4) (N := 4) hx hb hts q_u_J4 hown hK hP 0 rfl rfl 1 (by decide) (hts _ jw_fl_1) (fun _ h9 => h9) rfl dJ5_ensureCapacityInternal_d00df_28 ?_
  refine lv_ishl hx hb dJ5_ensureCapacityInternal_d00df_31 ?_
  refine lv_topi (fun x3 hx4 => ?_)
  obtain rfl : x3 = nI (sb_cap q mm) := by rw [hx4]; exact (sb_shl0 _)
  have hcl := (show sb_cap q mm < 2 ^ 28 ∧ mm < sb_cap q mm from by unfold sb_cap; (repeat' split) <;> omega)
  have hfree := s_free C0 (wc := [(b, .inl (κ 1, mm, .inl a))]) hD hS [1] rfl
  refine va_callr (s_runS C0 (n := 2) (wc := [(b, .inl (κ 1, mm, .inl a))]) (As := [.ref b, .int (nI (sb_cap q mm))]) (rest := [.ref h]) jw_ml_21 jw_st_22 jw_ii_23 jw_co_24 (by decide +kernel) (s_copyOf (α := α) (D := D) (κ := κ) b mm a (sb_cap q mm) hf hm hcl.1 hcl.2 l s.heap.size) hP hD hS [1] rfl rfl (by decide) rfl dJ5_ensureCapacityInternal_d00df_32 hl rfl (Nat.le_of_ble_eq_true rfl) ⟨(Nat.le_of_ble_eq_true rfl), (Nat.le_of_ble_eq_true rfl)⟩ ⟨(by show 0 + 0 + 1 ≤ 1; omega), (by show 0 + 0 + (sb_cap q mm) ≤ kc; omega)⟩) hS (fun q _ hq => hfree q hq) hfree (fun u b2 t H locs ht hvm hpost hB hz hk hS => ?_)
  obtain ⟨hP1, hD1⟩ := hB
  rw [ht] at hP1
  obtain ⟨hP, hD⟩ := va_join hP hD [1] [0] (wr := [(h, .inr (1, [.ref b, .int 0, .int ml, .int cnt]))]) rfl rfl rfl (by decide) hk hfree hP1 hD1
  have hP : va_P D vwCl [(h, .inr (1, [.ref b, .int 0, .int ml, .int cnt])), (b, .inl (κ 1, mm, .inl a)), (b2, .inl (κ 1, sb_cap q mm, .inl (va_cpy a (fun _ => 0) 0 0 mm)))] H := hP
  have hD : va_D A0 [(h, .inr (1, [.ref b, .int 0, .int ml, .int cnt])), (b, .inl (κ 1, mm, .inl a)), (b2, .inl (κ 1, sb_cap q mm, .inl (va_cpy a (fun _ => 0) 0 0 mm)))] := hD
  refine W.eq (g2 := F0 m 35 ls [.ref b2, .ref h]) rfl ?_
  refine va_put (ty := (.array .byte)) (ci := 1) (C := RJ4) (T := TJ4) (N := 4) hx hb hts q_u_J4 tyJ4 tyJ4_ok nmJ4 hown hK hP hD hS 0 rfl rfl 0 (by decide) (hts _ jw_fl_4) (fun _ h9 => h9) rfl (by decide +kernel) rfl rfl (Nat.le_of_ble_eq_true rfl) dJ5_ensureCapacityInternal_d00df_35 (fun H locs hP hD hS => ?_)
  have hP : va_P D vwCl [(h, .inr (1, [.ref b2, .int 0, .int ml, .int cnt])), (b, .inl (κ 1, mm, .inl a)), (b2, .inl (κ 1, sb_cap q mm, .inl (va_cpy a (fun _ => 0) 0 0 mm)))] H := hP
  have hD : va_D A0 [(h, .inr (1, [.ref b2, .int 0, .int ml, .int cnt])), (b, .inl (κ 1, mm, .inl a)), (b2, .inl (κ 1, sb_cap q mm, .inl (va_cpy a (fun _ => 0) 0 0 mm)))] := hD
  have hP := hP.sub (ws' := [(h, .inr (1, [.ref b2, .int 0, .int ml, .int cnt])), (b2, .inl (κ 1, sb_cap q mm, .inl (va_cpy a (fun _ => 0) 0 0 mm)))]) [0, 2] rfl
  have hD := hD.sub (ws' := [(h, .inr (1, [.ref b2, .int 0, .int ml, .int cnt])), (b2, .inl (κ 1, sb_cap q mm, .inl (va_cpy a (fun _ => 0) 0 0 mm)))]) [0, 2] (by decide) rfl
  refine W.widen (k := 1) (n := kc) (by omega) (by omega) ?_
  exact W.vret hx hb hr (fun t ht hW => ⟨⟨(b2, va_cpy a (fun _ => 0) 0 0 mm), rfl, ⟨sb_fitC hf sb_fit0, fun j hj => (sb_cpy0 hj : va_cpy a (fun _ => 0) 0 0 mm j = a j)⟩, by rw [ht]; exact hP, hD⟩, hS.F ht⟩) hS.2.2 dJ5_ensureCapacityInternal_d00df_38 hlocks
set_option maxRecDepth 100000 in
set_option maxHeartbeats 4000000 in
theorem s_chk0 {α : Nat → Nat} {D : va_G} {κ : Nat → ClassId} (i n : Nat) (h0 : i < n) (h1 : n < 2 ^ 31) (l : Launch) (sz : Nat) : Met l yJ3_checkIndex_8e157 (Cond.code yJ3_checkIndex_8e157 cJ3_checkIndex_8e157 3 (Option.some Jvm.ClassFile.FieldType.int) :: q_W) ({ frames := 0, cells := 0, slots := 0, locals := 0 } : Room) (s_Pc α D κ [.int (nI i), .int (nI n), .null] [] sz) (s_Qp (some (.int (nI i)))) 0 0 (va_A [] sz) := by
  refine Met.ofW (cc := cJ3_checkIndex_8e157) (maxL := 3) (ret := (Option.some Jvm.ClassFile.FieldType.int)) (by decide) rfl ?_
  intro p e s m args below meth c s₁ B hml hv
  obtain ⟨C, hr, ⟨ls, hle, hl⟩, hP, hD, hS⟩ := s_enter RJ3 rfl (Nat.le_of_ble_eq_true rfl) B hml hv
  obtain rfl : s.heap.size = sz := hv.2.1
  clear hv
  rw [hle]
  generalize va_A [] s.heap.size = A0 at C hD hS ⊢
  have hl : lv_has ls 3 [(0, .int (nI i)), (1, .int (nI n)), (2, .null)] := hl
  have C0 := C
  obtain ⟨hx, hb, -, hown, hts, hK, hE, hA, hlocks⟩ := C
  refine lv_iload_n hx hb dJ3_checkIndex_8e157_0 rfl (lv_at hl 0 rfl) ?_
  refine lv_if_lt hx hb dJ3_checkIndex_8e157_1 (tgt := 9) (by decide) (fun hq9 => absurd hq9 (nI_pos (by omega))) (fun _ => ?_)
  refine lv_iload_n hx hb dJ3_checkIndex_8e157_4 rfl (lv_at hl 0 rfl) ?_
  refine lv_iload_n hx hb dJ3_checkIndex_8e157_5 rfl (lv_at hl 1 rfl) ?_
  refine lv_icmp_lt hx hb dJ3_checkIndex_8e157_6 (tgt := 16) (by decide) (fun _ => ?_) (fun hq9 => absurd (nI_lt h0 h1) hq9)
  refine lv_iload_n hx hb dJ3_checkIndex_8e157_16 rfl (lv_at hl 0 rfl) ?_
  exact W.iret (v := nI i) hx hb hr (fun t ht hW => ⟨rfl, ht⟩) hS.2.2 dJ3_checkIndex_8e157_17 hlocks
set_option maxRecDepth 100000 in
set_option maxHeartbeats 4000000 in
theorem s_chk1 {α : Nat → Nat} {D : va_G} {κ : Nat → ClassId} (i n : Nat) (h0 : i < n) (h1 : n < 2 ^ 31) (x0 : Nat) (l : Launch) (sz : Nat) : Met l yJ3_checkIndex_8e157 (Cond.code yJ3_checkIndex_8e157 cJ3_checkIndex_8e157 3 (Option.some Jvm.ClassFile.FieldType.int) :: q_W) ({ frames := 0, cells := 0, slots := 0, locals := 0 } : Room) (s_Pc α D κ [.int (nI i), .int (nI n), .ref x0] [] sz) (s_Qp (some (.int (nI i)))) 0 0 (va_A [] sz) := by
  refine Met.ofW (cc := cJ3_checkIndex_8e157) (maxL := 3) (ret := (Option.some Jvm.ClassFile.FieldType.int)) (by decide) rfl ?_
  intro p e s m args below meth c s₁ B hml hv
  obtain ⟨C, hr, ⟨ls, hle, hl⟩, hP, hD, hS⟩ := s_enter RJ3 rfl (Nat.le_of_ble_eq_true rfl) B hml hv
  obtain rfl : s.heap.size = sz := hv.2.1
  clear hv
  rw [hle]
  generalize va_A [] s.heap.size = A0 at C hD hS ⊢
  have hl : lv_has ls 3 [(0, .int (nI i)), (1, .int (nI n)), (2, .ref x0)] := hl
  have C0 := C
  obtain ⟨hx, hb, -, hown, hts, hK, hE, hA, hlocks⟩ := C
  refine lv_iload_n hx hb dJ3_checkIndex_8e157_0 rfl (lv_at hl 0 rfl) ?_
  refine lv_if_lt hx hb dJ3_checkIndex_8e157_1 (tgt := 9) (by decide) (fun hq9 => absurd hq9 (nI_pos (by omega))) (fun _ => ?_)
  refine lv_iload_n hx hb dJ3_checkIndex_8e157_4 rfl (lv_at hl 0 rfl) ?_
  refine lv_iload_n hx hb dJ3_checkIndex_8e157_5 rfl (lv_at hl 1 rfl) ?_
  refine lv_icmp_lt hx hb dJ3_checkIndex_8e157_6 (tgt := 16) (by decide) (fun _ => ?_) (fun hq9 => absurd (nI_lt h0 h1) hq9)
  refine lv_iload_n hx hb dJ3_checkIndex_8e157_16 rfl (lv_at hl 0 rfl) ?_
  exact W.iret (v := nI i) hx hb hr (fun t ht hW => ⟨rfl, ht⟩) hS.2.2 dJ3_checkIndex_8e157_17 hlocks
set_option maxRecDepth 100000 in
set_option maxHeartbeats 4000000 in
theorem s_checkIndex {α : Nat → Nat} {D : va_G} {κ : Nat → ClassId} (i n : Nat) (h0 : i < n) (h1 : n < 2 ^ 31) (l : Launch) (sz : Nat) : Met l yJ0_checkIndex_df160 (Cond.code yJ0_checkIndex_df160 cJ0_checkIndex_df160 2 (Option.none : Option Jvm.ClassFile.FieldType) :: q_W) ({ frames := 1, cells := 0, slots := 0, locals := 22 } : Room) (s_Pc α D κ [.int (nI i), .int (nI n)] [] sz) (s_Qp none) 0 0 (va_A [] sz) := by
  refine Met.ofW (cc := cJ0_checkIndex_df160) (maxL := 2) (ret := (Option.none : Option Jvm.ClassFile.FieldType)) (by decide) rfl ?_
  intro p e s m args below meth c s₁ B hml hv
  obtain ⟨C, hr, ⟨ls, hle, hl⟩, hP, hD, hS⟩ := s_enter RJ0 rfl (Nat.le_of_ble_eq_true rfl) B hml hv
  obtain rfl : s.heap.size = sz := hv.2.1
  clear hv
  rw [hle]
  generalize va_A [] s.heap.size = A0 at C hD hS ⊢
  have hl : lv_has ls 2 [(0, .int (nI i)), (1, .int (nI n))] := hl
  have C0 := C
  obtain ⟨hx, hb, -, hown, hts, hK, hE, hA, hlocks⟩ := C
  refine lv_iload_n hx hb dJ0_checkIndex_df160_0 rfl (lv_at hl 0 rfl) ?_
  refine lv_iload_n hx hb dJ0_checkIndex_df160_1 rfl (lv_at hl 1 rfl) ?_
  rcases hE.2.1.2.2.2.2.2.1 with hZ | hZ
  · skip
    refine va_gets hx hb (hZ) hS hown (hts _ jw_fl_25) (fun _ h9 => h9) dJ0_checkIndex_df160_2 ?_
    refine s_callp (v := some (.int (nI i))) (s_runS C0 (n := 3) (wc := []) (As := [.int (nI i), .int (nI n), .null]) (rest := []) jw_ml_26 jw_st_27 jw_ii_28 jw_co_29 (by decide +kernel) (s_chk0 (α := α) (D := D) (κ := κ) i n h0 h1 l s.heap.size) hP hD hS [] rfl rfl (by decide) rfl dJ0_checkIndex_df160_5 hl rfl (Nat.le_of_ble_eq_true rfl) ⟨(Nat.le_of_ble_eq_true rfl), (Nat.le_of_ble_eq_true rfl)⟩ ⟨(by show 0 + 0 ≤ 0; omega), (by show 0 + 0 ≤ 0; omega)⟩) hS (s_free C0 (wc := []) hD hS [] rfl) (fun locs hS => ?_)
    refine W.eq (g2 := F0 m 8 ls [.int (nI i)]) rfl ?_
    refine lv_pop hx hb dJ0_checkIndex_df160_8 rfl ?_
    exact W.vret hx hb hr (fun t ht hW => ⟨rfl, ht⟩) hS.2.2 dJ0_checkIndex_df160_9 hlocks
  · skip
    refine va_gets hx hb (hZ) hS hown (hts _ jw_fl_25) (fun _ h9 => h9) dJ0_checkIndex_df160_2 ?_
    refine s_callp (v := some (.int (nI i))) (s_runS C0 (n := 3) (wc := []) (As := [.int (nI i), .int (nI n), .ref (α 334)]) (rest := []) jw_ml_26 jw_st_27 jw_ii_28 jw_co_29 (by decide +kernel) (s_chk1 (α := α) (D := D) (κ := κ) i n h0 h1 (α 334) l s.heap.size) hP hD hS [] rfl rfl (by decide) rfl dJ0_checkIndex_df160_5 hl rfl (Nat.le_of_ble_eq_true rfl) ⟨(Nat.le_of_ble_eq_true rfl), (Nat.le_of_ble_eq_true rfl)⟩ ⟨(by show 0 + 0 ≤ 0; omega), (by show 0 + 0 ≤ 0; omega)⟩) hS (s_free C0 (wc := []) hD hS [] rfl) (fun locs hS => ?_)
    refine W.eq (g2 := F0 m 8 ls [.int (nI i)]) rfl ?_
    refine lv_pop hx hb dJ0_checkIndex_df160_8 rfl ?_
    exact W.vret hx hb hr (fun t ht hW => ⟨rfl, ht⟩) hS.2.2 dJ0_checkIndex_df160_9 hlocks
