/-! The library's own methods: a text appended. -/
/-- a text's letters -/
def q_tn (α : Nat → Nat) (i j : Nat) : Nat := (q_tc α i j).toNatClampNeg
theorem q_tn_k : ∀ i, i < 16 → ∀ j, j < q_sl.getD i 0 → (q_ch i j).toNatClampNeg < 128 ∧ q_ch i j = nI (q_ch i j).toNatClampNeg := by decide +kernel
theorem s_tn {α : Nat → Nat} {A : Nat → Prop} {U : State} {H : Heap} (h : s_E α A U H) {i j : Nat} (hi : i < 17) (hj : j < q_tl α i) : q_tn α i j < 128 ∧ q_tc α i j = nI (q_tn α i j) := by
  unfold q_tn
  by_cases e : i = 16
  · subst e
    rw [show q_tl α 16 = α 700 from if_pos rfl] at hj
    rw [q_tc_d hj]
    have h1 := h.2.1.2.2.2.2.2.2.2.2.1 j (by have := h.2.1.2.2.2.2.2.2.2.1; omega)
    rw [nI_clamp (by omega)]
    exact ⟨h1, rfl⟩
  · have hk : i < 16 := by omega
    rw [q_tl_k hk] at hj
    rw [q_tc_k hk]
    exact q_tn_k i hk j hj
theorem sb_b7 : ∀ c, c < 128 → sb_b c = nI c ∧ fits .byte (.int (nI c)) = true := by decide +kernel
section q33b
variable {α : Nat → Nat} {D : va_G} {κ : Nat → ClassId} {p : Program} {l : Launch} {e : Env} {R : Room} {s : State} {m : MethodId} {args : Array Value} {below : List Frame} {meth : Method} {c : Code} {cc : ByteArray} {own : String} {nL : Nat} {A : Nat → Prop} {Q : State → Prop} {n1 n2 : Nat}
variable {y : MethodName} {bytes : ByteArray} {maxL n idx : Nat} {ret : Option FieldType} {fr lo mc ms : Nat} {Qc : Array Value → State → Outcome → State → Prop} {As rest st : List Value} {ws wc : va_W} {H : Heap} {locs : List Loc} {ls : Array Slot} {lv : List (Nat × Value)} {pc : Nat}
theorem s_runI (C : s_Cx α D κ p s m args meth c cc own nL A) (w1 : Cond.methodLink own idx y ∈ q_W) (w2 : Cond.instanceMethod y ∈ q_W) (w3 : Cond.initialized y.cls ∈ q_W) (w4 : Cond.code y bytes maxL none ∈ q_W) (hy : y.name = "<init>") (hd : y.cls ≠ "java/lang/invoke/MethodHandle" ∧ y.cls ≠ "java/lang/invoke/VarHandle" ∧ (parseMethodDescriptor y.desc).map (fun d => d.parameters.length) = some n)
    {b : Nat} (hM : Met l y (Cond.code y bytes maxL none :: q_W) ({ frames := fr, cells := mc, slots := ms, locals := lo } : Room) (s_Pc α D κ (.ref b :: As) wc H.size) Qc mc ms (va_A wc H.size)) (hP : va_P D vwCl ws H) (hD : va_D A ws) (hS : va_S A s.heap H locs) (isC : List Nat) (hC : isC.map (fun i => ws[i]?) = wc.map some) (hC2 : isC.filterMap (fun i => ws[i]?) = wc) (hn : va_nd isC = true)
    (hst : st = As.reverse ++ .ref b :: rest) (hlen : As.length = n) (hdg : decode cc pc = .ok (.invokespecial idx, 3)) (hl : lv_has ls nL lv) (hrest : (rest.map fun v => v.category).sum ≤ 8) (hR : fr + 1 ≤ R.frames ∧ 8 + (maxL + 11) + lo ≤ R.locals) (hcs : n1 + mc ≤ R.cells ∧ n2 + ms ≤ R.slots) :
    va_Run p l e R s m args below meth c H locs n1 n2 mc ms (F0 m pc ls st) rest (Qc (Value.ref b :: As).toArray) (va_A wc H.size) := by
  have C0 := C
  obtain ⟨hx, hb, hml, hown, hts, hK, hE, hA, hlk⟩ := C
  exact va_runI (n := n) ⟨hx, hb, hml, hown, hts⟩ hM (cwI n hts (q_GI w4) rfl rfl rfl (hts _ w3) (hts _ w1) (hts _ w2) hy hd hR) ⟨s_FB, s_pre C0 hP hD hS isC hC hC2 hn⟩ rfl hlen hl.1 hst (lv_room hrest) hdg hcs
end q33b
set_option maxRecDepth 100000 in
theorem jw_ml_95 : Cond.methodLink RJ5 40 yJ0_coder_7d493 ∈ q_W := q_t2 23 rfl rfl
set_option maxRecDepth 100000 in
theorem jw_ml_96 : Cond.methodLink RJ0 212 ⟨"java/lang/System", "arraycopy", "(Ljava/lang/Object;ILjava/lang/Object;II)V"⟩ ∈ q_W := q_t2 47 rfl rfl
set_option maxRecDepth 100000 in
theorem jw_ml_97 : Cond.methodLink RJ5 397 yJ5_inflateIfNeededFor_a7421 ∈ q_W := q_t2 19 rfl rfl
set_option maxRecDepth 100000 in
theorem jw_sa_98 : Cond.sameMethod "java/lang/AbstractStringBuilder" "java/lang/AbstractStringBuilder" "inflateIfNeededFor" "(Ljava/lang/String;)V" ∈ q_W := q_t6 175 rfl rfl
set_option maxRecDepth 100000 in
theorem jw_in_99 : Cond.instanceMethod yJ5_inflateIfNeededFor_a7421 ∈ q_W := q_t2 21 rfl rfl
set_option maxRecDepth 100000 in
theorem jw_co_100 : Cond.code yJ5_inflateIfNeededFor_a7421 cJ5_inflateIfNeededFor_a7421 2 (Option.none : Option Jvm.ClassFile.FieldType) ∈ q_W := q_t2 22 rfl rfl
set_option maxRecDepth 100000 in
theorem jw_ml_101 : Cond.methodLink RJ5 399 yJ0_getBytes_840e7 ∈ q_W := q_t2 43 rfl rfl
set_option maxRecDepth 100000 in
theorem jw_se_102 : Cond.selects "java/lang/String" yJ0_getBytes_840e7 yJ0_getBytes_840e7 ∈ q_W := q_t2 45 rfl rfl
set_option maxRecDepth 100000 in
theorem jw_in_103 : Cond.instanceMethod yJ0_getBytes_840e7 ∈ q_W := q_t2 44 rfl rfl
set_option maxRecDepth 100000 in
theorem jw_co_104 : Cond.code yJ0_getBytes_840e7 cJ0_getBytes_840e7 4 (Option.none : Option Jvm.ClassFile.FieldType) ∈ q_W := q_t2 46 rfl rfl
set_option maxRecDepth 100000 in
theorem jw_ml_105 : Cond.methodLink RJ5 32 yJ0_length_8abf5 ∈ q_W := q_t2 6 rfl rfl
set_option maxRecDepth 100000 in
theorem jw_se_106 : Cond.selects "java/lang/String" yJ0_length_8abf5 yJ0_length_8abf5 ∈ q_W := q_t2 8 rfl rfl
set_option maxRecDepth 100000 in
theorem jw_in_107 : Cond.instanceMethod yJ0_length_8abf5 ∈ q_W := q_t2 7 rfl rfl
set_option maxRecDepth 100000 in
theorem jw_co_108 : Cond.code yJ0_length_8abf5 cJ0_length_8abf5 1 (Option.some Jvm.ClassFile.FieldType.int) ∈ q_W := q_t2 9 rfl rfl
set_option maxRecDepth 100000 in
theorem jw_ml_109 : Cond.methodLink RJ5 208 yJ5_putStringAt_47b60 ∈ q_W := q_t2 15 rfl rfl
set_option maxRecDepth 100000 in
theorem jw_sa_110 : Cond.sameMethod "java/lang/AbstractStringBuilder" "java/lang/AbstractStringBuilder" "putStringAt" "(ILjava/lang/String;)V" ∈ q_W := q_t6 174 rfl rfl
set_option maxRecDepth 100000 in
theorem jw_in_111 : Cond.instanceMethod yJ5_putStringAt_47b60 ∈ q_W := q_t2 17 rfl rfl
set_option maxRecDepth 100000 in
theorem jw_co_112 : Cond.code yJ5_putStringAt_47b60 cJ5_putStringAt_47b60 3 (Option.none : Option Jvm.ClassFile.FieldType) ∈ q_W := q_t2 18 rfl rfl
set_option maxRecDepth 100000 in
theorem jw_ml_113 : Cond.methodLink RJ4 29 yJ5_append_cf1ce ∈ q_W := q_t1 173 rfl rfl
set_option maxRecDepth 100000 in
theorem jw_sa_114 : Cond.sameMethod "java/lang/AbstractStringBuilder" "java/lang/AbstractStringBuilder" "append" "(Ljava/lang/String;)Ljava/lang/AbstractStringBuilder;" ∈ q_W := q_t6 170 rfl rfl
set_option maxRecDepth 100000 in
theorem jw_in_115 : Cond.instanceMethod yJ5_append_cf1ce ∈ q_W := q_t1 174 rfl rfl
set_option maxRecDepth 100000 in
theorem jw_co_116 : Cond.code yJ5_append_cf1ce cJ5_append_cf1ce 3 (Option.some (Jvm.ClassFile.FieldType.object "java/lang/AbstractStringBuilder")) ∈ q_W := q_t1 175 rfl rfl
theorem dJ0_getBytes_840e7_0 : decode cJ0_getBytes_840e7 0 = .ok (.aload_n 0, 1) := by decide +kernel
theorem dJ0_getBytes_840e7_1 : decode cJ0_getBytes_840e7 1 = .ok (.invokevirtual 335, 3) := by decide +kernel
theorem dJ0_getBytes_840e7_4 : decode cJ0_getBytes_840e7 4 = .ok (.iload_n 3, 1) := by decide +kernel
theorem dJ0_getBytes_840e7_5 : decode cJ0_getBytes_840e7 5 = .ok (.if_icmp .ne 23, 3) := by decide +kernel
theorem dJ0_getBytes_840e7_8 : decode cJ0_getBytes_840e7 8 = .ok (.aload_n 0, 1) := by decide +kernel
theorem dJ0_getBytes_840e7_9 : decode cJ0_getBytes_840e7 9 = .ok (.getfield 9, 3) := by decide +kernel
theorem dJ0_getBytes_840e7_12 : decode cJ0_getBytes_840e7 12 = .ok (.iconst 0, 1) := by decide +kernel
theorem dJ0_getBytes_840e7_13 : decode cJ0_getBytes_840e7 13 = .ok (.aload_n 1, 1) := by decide +kernel
theorem dJ0_getBytes_840e7_14 : decode cJ0_getBytes_840e7 14 = .ok (.iload_n 2, 1) := by decide +kernel
theorem dJ0_getBytes_840e7_15 : decode cJ0_getBytes_840e7 15 = .ok (.iload_n 3, 1) := by decide +kernel
theorem dJ0_getBytes_840e7_16 : decode cJ0_getBytes_840e7 16 = .ok (.ishl, 1) := by decide +kernel
theorem dJ0_getBytes_840e7_17 : decode cJ0_getBytes_840e7 17 = .ok (.aload_n 0, 1) := by decide +kernel
theorem dJ0_getBytes_840e7_18 : decode cJ0_getBytes_840e7 18 = .ok (.getfield 9, 3) := by decide +kernel
theorem dJ0_getBytes_840e7_21 : decode cJ0_getBytes_840e7 21 = .ok (.arraylength, 1) := by decide +kernel
theorem dJ0_getBytes_840e7_22 : decode cJ0_getBytes_840e7 22 = .ok (.invokestatic 212, 3) := by decide +kernel
theorem dJ0_getBytes_840e7_25 : decode cJ0_getBytes_840e7 25 = .ok (.goto 18, 3) := by decide +kernel
theorem dJ0_getBytes_840e7_43 : decode cJ0_getBytes_840e7 43 = .ok (.return_, 1) := by decide +kernel
theorem dJ4_append_15ec4_0 : decode cJ4_append_15ec4 0 = .ok (.aload_n 0, 1) := by decide +kernel
theorem dJ4_append_15ec4_1 : decode cJ4_append_15ec4 1 = .ok (.aload_n 1, 1) := by decide +kernel
theorem dJ4_append_15ec4_2 : decode cJ4_append_15ec4 2 = .ok (.invokespecial 29, 3) := by decide +kernel
theorem dJ4_append_15ec4_5 : decode cJ4_append_15ec4 5 = .ok (.pop, 1) := by decide +kernel
theorem dJ4_append_15ec4_6 : decode cJ4_append_15ec4 6 = .ok (.aload_n 0, 1) := by decide +kernel
theorem dJ4_append_15ec4_7 : decode cJ4_append_15ec4 7 = .ok (.areturn, 1) := by decide +kernel
theorem dJ5_append_cf1ce_0 : decode cJ5_append_cf1ce 0 = .ok (.aload_n 1, 1) := by decide +kernel
theorem dJ5_append_cf1ce_1 : decode cJ5_append_cf1ce 1 = .ok (.ifnonnull 8, 3) := by decide +kernel
theorem dJ5_append_cf1ce_9 : decode cJ5_append_cf1ce 9 = .ok (.aload_n 1, 1) := by decide +kernel
theorem dJ5_append_cf1ce_10 : decode cJ5_append_cf1ce 10 = .ok (.invokevirtual 32, 3) := by decide +kernel
theorem dJ5_append_cf1ce_13 : decode cJ5_append_cf1ce 13 = .ok (.istore_n 2, 1) := by decide +kernel
theorem dJ5_append_cf1ce_14 : decode cJ5_append_cf1ce 14 = .ok (.aload_n 0, 1) := by decide +kernel
theorem dJ5_append_cf1ce_15 : decode cJ5_append_cf1ce 15 = .ok (.aload_n 0, 1) := by decide +kernel
theorem dJ5_append_cf1ce_16 : decode cJ5_append_cf1ce 16 = .ok (.getfield 79, 3) := by decide +kernel
theorem dJ5_append_cf1ce_19 : decode cJ5_append_cf1ce 19 = .ok (.iload_n 2, 1) := by decide +kernel
theorem dJ5_append_cf1ce_20 : decode cJ5_append_cf1ce 20 = .ok (.iadd, 1) := by decide +kernel
theorem dJ5_append_cf1ce_21 : decode cJ5_append_cf1ce 21 = .ok (.invokevirtual 100, 3) := by decide +kernel
theorem dJ5_append_cf1ce_24 : decode cJ5_append_cf1ce 24 = .ok (.aload_n 0, 1) := by decide +kernel
theorem dJ5_append_cf1ce_25 : decode cJ5_append_cf1ce 25 = .ok (.aload_n 0, 1) := by decide +kernel
theorem dJ5_append_cf1ce_26 : decode cJ5_append_cf1ce 26 = .ok (.getfield 79, 3) := by decide +kernel
theorem dJ5_append_cf1ce_29 : decode cJ5_append_cf1ce 29 = .ok (.aload_n 1, 1) := by decide +kernel
theorem dJ5_append_cf1ce_30 : decode cJ5_append_cf1ce 30 = .ok (.invokevirtual 208, 3) := by decide +kernel
theorem dJ5_append_cf1ce_33 : decode cJ5_append_cf1ce 33 = .ok (.aload_n 0, 1) := by decide +kernel
theorem dJ5_append_cf1ce_34 : decode cJ5_append_cf1ce 34 = .ok (.dup, 1) := by decide +kernel
theorem dJ5_append_cf1ce_35 : decode cJ5_append_cf1ce 35 = .ok (.getfield 79, 3) := by decide +kernel
theorem dJ5_append_cf1ce_38 : decode cJ5_append_cf1ce 38 = .ok (.iload_n 2, 1) := by decide +kernel
theorem dJ5_append_cf1ce_39 : decode cJ5_append_cf1ce 39 = .ok (.iadd, 1) := by decide +kernel
theorem dJ5_append_cf1ce_40 : decode cJ5_append_cf1ce 40 = .ok (.putfield 79, 3) := by decide +kernel
theorem dJ5_append_cf1ce_43 : decode cJ5_append_cf1ce 43 = .ok (.aload_n 0, 1) := by decide +kernel
theorem dJ5_append_cf1ce_44 : decode cJ5_append_cf1ce 44 = .ok (.areturn, 1) := by decide +kernel
theorem dJ5_inflateIfNeededFor_a7421_0 : decode cJ5_inflateIfNeededFor_a7421 0 = .ok (.getstatic 18, 3) := by decide +kernel
theorem dJ5_inflateIfNeededFor_a7421_3 : decode cJ5_inflateIfNeededFor_a7421 3 = .ok (.ifCond .eq 18, 3) := by decide +kernel
theorem dJ5_inflateIfNeededFor_a7421_6 : decode cJ5_inflateIfNeededFor_a7421 6 = .ok (.aload_n 0, 1) := by decide +kernel
theorem dJ5_inflateIfNeededFor_a7421_7 : decode cJ5_inflateIfNeededFor_a7421 7 = .ok (.getfield 22, 3) := by decide +kernel
theorem dJ5_inflateIfNeededFor_a7421_10 : decode cJ5_inflateIfNeededFor_a7421 10 = .ok (.aload_n 1, 1) := by decide +kernel
theorem dJ5_inflateIfNeededFor_a7421_11 : decode cJ5_inflateIfNeededFor_a7421 11 = .ok (.invokevirtual 40, 3) := by decide +kernel
theorem dJ5_inflateIfNeededFor_a7421_14 : decode cJ5_inflateIfNeededFor_a7421 14 = .ok (.if_icmp .eq 7, 3) := by decide +kernel
theorem dJ5_inflateIfNeededFor_a7421_21 : decode cJ5_inflateIfNeededFor_a7421 21 = .ok (.return_, 1) := by decide +kernel
theorem dJ5_putStringAt_47b60_0 : decode cJ5_putStringAt_47b60 0 = .ok (.aload_n 0, 1) := by decide +kernel
theorem dJ5_putStringAt_47b60_1 : decode cJ5_putStringAt_47b60 1 = .ok (.aload_n 2, 1) := by decide +kernel
theorem dJ5_putStringAt_47b60_2 : decode cJ5_putStringAt_47b60 2 = .ok (.invokevirtual 397, 3) := by decide +kernel
theorem dJ5_putStringAt_47b60_5 : decode cJ5_putStringAt_47b60 5 = .ok (.aload_n 2, 1) := by decide +kernel
theorem dJ5_putStringAt_47b60_6 : decode cJ5_putStringAt_47b60 6 = .ok (.aload_n 0, 1) := by decide +kernel
theorem dJ5_putStringAt_47b60_7 : decode cJ5_putStringAt_47b60 7 = .ok (.getfield 15, 3) := by decide +kernel
theorem dJ5_putStringAt_47b60_10 : decode cJ5_putStringAt_47b60 10 = .ok (.iload_n 1, 1) := by decide +kernel
theorem dJ5_putStringAt_47b60_11 : decode cJ5_putStringAt_47b60 11 = .ok (.aload_n 0, 1) := by decide +kernel
theorem dJ5_putStringAt_47b60_12 : decode cJ5_putStringAt_47b60 12 = .ok (.getfield 22, 3) := by decide +kernel
theorem dJ5_putStringAt_47b60_15 : decode cJ5_putStringAt_47b60 15 = .ok (.invokevirtual 399, 3) := by decide +kernel
theorem dJ5_putStringAt_47b60_18 : decode cJ5_putStringAt_47b60 18 = .ok (.return_, 1) := by decide +kernel
set_option maxRecDepth 100000 in
set_option maxHeartbeats 4000000 in
theorem s_infl {α : Nat → Nat} {D : va_G} {κ : Nat → ClassId} (h b : Nat) (ml cnt : Int32) (i : Nat) (hi : i < 17) (l : Launch) (sz : Nat) : Met l yJ5_inflateIfNeededFor_a7421 (Cond.code yJ5_inflateIfNeededFor_a7421 cJ5_inflateIfNeededFor_a7421 2 (Option.none : Option Jvm.ClassFile.FieldType) :: q_W) ({ frames := 1, cells := 0, slots := 0, locals := 20 } : Room) (s_Pc α D κ [.ref h, .ref (α (340 + i))] [(h, .inr (1, [.ref b, .int 0, .int ml, .int cnt]))] sz) (s_Qp none) 0 0 (va_A [(h, .inr (1, [.ref b, .int 0, .int ml, .int cnt]))] sz) := by
  refine Met.ofW (cc := cJ5_inflateIfNeededFor_a7421) (maxL := 2) (ret := (Option.none : Option Jvm.ClassFile.FieldType)) (by decide) rfl ?_
  intro p e s m args below meth c s₁ B hml hv
  obtain ⟨C, hr, ⟨ls, hle, hl⟩, hP, hD, hS⟩ := s_enter RJ5 rfl (Nat.le_of_ble_eq_true rfl) B hml hv
  obtain rfl : s.heap.size = sz := hv.2.1
  clear hv
  rw [hle]
  generalize va_A [(h, .inr (1, [.ref b, .int 0, .int ml, .int cnt]))] s.heap.size = A0 at C hD hS ⊢
  have hl : lv_has ls 2 [(0, .ref h), (1, .ref (α (340 + i)))] := hl
  have C0 := C
  obtain ⟨hx, hb, -, hown, hts, hK, hE, hA, hlocks⟩ := C
  refine va_gets hx hb (hE.2.1.1) hS hown (hts _ jw_fl_0) (fun _ h9 => h9) dJ5_inflateIfNeededFor_a7421_0 ?_
  refine lv_if_eq hx hb dJ5_inflateIfNeededFor_a7421_3 (tgt := 21) (by decide) (fun hq9 => absurd hq9 ((by decide : ¬ (1 : Int32) = 0))) (fun _ => ?_)
  refine lv_aload_n hx hb dJ5_inflateIfNeededFor_a7421_6 rfl (lv_at hl 0 rfl) ?_
  refine va_get (ci := 1) (C := RJ4) (T := TJ4) (N := 4) hx hb hts q_u_J4 hown hK hP 0 rfl rfl 1 (by decide) (hts _ jw_fl_1) (fun _ h9 => h9) rfl dJ5_inflateIfNeededFor_a7421_7 ?_
  refine lv_aload_n hx hb dJ5_inflateIfNeededFor_a7421_10 rfl (lv_at hl 1 rfl) ?_
  refine s_callp (v := some (.int 0)) (s_runK C0 (n := 0) (wc := []) (As := []) (rest := [.int 0]) jw_ml_95 jw_se_84 jw_in_85 jw_ii_56 jw_co_86 (by decide +kernel) rfl hi (s_coder (α := α) (D := D) (κ := κ) i hi l s.heap.size) hP hD hS [] rfl rfl (by decide) rfl rfl dJ5_inflateIfNeededFor_a7421_11 hl rfl (Nat.le_of_ble_eq_true rfl) ⟨(Nat.le_of_ble_eq_true rfl), (Nat.le_of_ble_eq_true rfl)⟩ ⟨(by show 0 + 0 ≤ 0; omega), (by show 0 + 0 ≤ 0; omega)⟩) hS (s_free C0 (wc := []) hD hS [] rfl) (fun locs hS => ?_)
  refine W.eq (g2 := F0 m 14 ls [.int 0, .int 0]) rfl ?_
  refine lv_icmp_eq hx hb dJ5_inflateIfNeededFor_a7421_14 (tgt := 21) (by decide) (fun _ => ?_) (fun hq9 => absurd ((by decide : (0 : Int32) = 0)) hq9)
  exact W.vret hx hb hr (fun t ht hW => ⟨rfl, ht⟩) hS.2.2 dJ5_inflateIfNeededFor_a7421_21 hlocks
set_option maxRecDepth 100000 in
set_option maxHeartbeats 4000000 in
theorem s_getB {α : Nat → Nat} {D : va_G} {κ : Nat → ClassId} (b mm n : Nat) (a : Nat → Int32) (i : Nat) (hi : i < 17) (hm : mm ≤ 65536) (hq : n + q_tl α i ≤ mm) (l : Launch) (sz : Nat) : Met l yJ0_getBytes_840e7 (Cond.code yJ0_getBytes_840e7 cJ0_getBytes_840e7 4 (Option.none : Option Jvm.ClassFile.FieldType) :: q_W) ({ frames := 1, cells := 0, slots := 0, locals := 60 } : Room) (s_Pc α D κ [.ref (α (340 + i)), .ref b, .int (nI n), .int 0] [(b, .inl (κ 1, mm, .inl a))] sz) (va_Qv (fun _ : Unit => True) (fun _ t => va_P D vwCl [(b, .inl (κ 1, mm, .inl (va_cpy (q_tc α i) a 0 n (q_tl α i))))] t.heap ∧ va_D (va_A [(b, .inl (κ 1, mm, .inl a))] sz) [(b, .inl (κ 1, mm, .inl (va_cpy (q_tc α i) a 0 n (q_tl α i))))]) (va_A [(b, .inl (κ 1, mm, .inl a))] sz)) 0 0 (va_A [(b, .inl (κ 1, mm, .inl a))] sz) := by
  refine Met.ofW (cc := cJ0_getBytes_840e7) (maxL := 4) (ret := (Option.none : Option Jvm.ClassFile.FieldType)) (by decide) rfl ?_
  intro p e s m args below meth c s₁ B hml hv
  obtain ⟨C, hr, ⟨ls, hle, hl⟩, hP, hD, hS⟩ := s_enter RJ0 rfl (Nat.le_of_ble_eq_true rfl) B hml hv
  obtain rfl : s.heap.size = sz := hv.2.1
  clear hv
  rw [hle]
  generalize va_A [(b, .inl (κ 1, mm, .inl a))] s.heap.size = A0 at C hD hS ⊢
  have hl : lv_has ls 4 [(0, .ref (α (340 + i))), (1, .ref b), (2, .int (nI n)), (3, .int 0)] := hl
  have C0 := C
  obtain ⟨hx, hb, -, hown, hts, hK, hE, hA, hlocks⟩ := C
  refine lv_aload_n hx hb dJ0_getBytes_840e7_0 rfl (lv_at hl 0 rfl) ?_
  refine s_callp (v := some (.int 0)) (s_runK C0 (n := 0) (wc := []) (As := []) (rest := []) jw_ml_83 jw_se_84 jw_in_85 jw_ii_56 jw_co_86 (by decide +kernel) rfl hi (s_coder (α := α) (D := D) (κ := κ) i hi l s.heap.size) hP hD hS [] rfl rfl (by decide) rfl rfl dJ0_getBytes_840e7_1 hl rfl (Nat.le_of_ble_eq_true rfl) ⟨(Nat.le_of_ble_eq_true rfl), (Nat.le_of_ble_eq_true rfl)⟩ ⟨(by show 0 + 0 ≤ 0; omega), (by show 0 + 0 ≤ 0; omega)⟩) hS (s_free C0 (wc := []) hD hS [] rfl) (fun locs hS => ?_)
  refine W.eq (g2 := F0 m 4 ls [.int 0]) rfl ?_
  refine lv_iload_n hx hb dJ0_getBytes_840e7_4 rfl (lv_at hl 3 rfl) ?_
  refine lv_icmp_ne hx hb dJ0_getBytes_840e7_5 (tgt := 28) (by decide) (fun hq9 => absurd ((by decide : (0 : Int32) = 0)) hq9) (fun _ => ?_)
  refine lv_aload_n hx hb dJ0_getBytes_840e7_8 rfl (lv_at hl 0 rfl) ?_
  refine vk_getf hx hb ((s_T hE hi).2.2.1) hS hown (hts _ jw_fl_82) (fun _ h9 => h9) dJ0_getBytes_840e7_9 ?_
  refine lv_iconst hx hb dJ0_getBytes_840e7_12 (by decide : Int32.ofInt 0 = 0) ?_
  refine lv_aload_n hx hb dJ0_getBytes_840e7_13 rfl (lv_at hl 1 rfl) ?_
  refine lv_iload_n hx hb dJ0_getBytes_840e7_14 rfl (lv_at hl 2 rfl) ?_
  refine lv_iload_n hx hb dJ0_getBytes_840e7_15 rfl (lv_at hl 3 rfl) ?_
  refine lv_ishl hx hb dJ0_getBytes_840e7_16 ?_
  refine lv_topi (fun x1 hx2 => ?_)
  obtain rfl : x1 = nI n := by rw [hx2]; exact (sb_shl0 _)
  refine lv_aload_n hx hb dJ0_getBytes_840e7_17 rfl (lv_at hl 0 rfl) ?_
  refine vk_getf hx hb ((s_T hE hi).2.2.1) hS hown (hts _ jw_fl_82) (fun _ h9 => h9) dJ0_getBytes_840e7_18 ?_
  refine va_tlen hx hb ((s_T hE hi).2.2.2) hS (v := nI (q_tl α i)) rfl dJ0_getBytes_840e7_21 ?_
  have htl := s_tlt hE hi
  have hcl1 : (nI n).toNatClampNeg = n := nI_clamp (by omega)
  have hcl2 : (nI (q_tl α i)).toNatClampNeg = q_tl α i := nI_clamp (by omega)
  refine vk_copyt hx hb (C0.2.2.1.trans hl.1.symm) hown (hts _ jw_ml_96) (hts _ jw_na_13) (hts _ jw_st_14) (hts _ jw_ii_15) hK hP hD hS (s_T hE hi).2.2.2 0 1 rfl rfl (by decide) (nI_pos (by omega)) (nI_pos (by omega)) (by rw [hcl2]; show 0 + q_tl α i ≤ q_tl α i; omega) (by rw [hcl1, hcl2]; exact hq) (fun j hj => by rw [hcl2] at hj; show fits .byte (.int (q_tc α i (0 + j))) = true; rw [Nat.zero_add]; obtain ⟨z1, z2⟩ := s_tn hE hi hj; rw [z2]; exact (sb_b7 _ z1).2) (Nat.le_of_ble_eq_true rfl) (by show 0 + _ ≤ 60; decide +kernel) dJ0_getBytes_840e7_22 (fun H locs hP hD hS => ?_)
  rw [hcl1, hcl2] at hP hD
  have hP : va_P D vwCl [(b, .inl (κ 1, mm, .inl (va_cpy (q_tc α i) a 0 n (q_tl α i))))] H := hP
  have hD : va_D A0 [(b, .inl (κ 1, mm, .inl (va_cpy (q_tc α i) a 0 n (q_tl α i))))] := hD
  refine lv_goto hx hb dJ0_getBytes_840e7_25 (tgt := 43) (by decide) ?_
  exact W.vret hx hb hr (fun t ht hW => ⟨⟨(), rfl, trivial, by rw [ht]; exact hP, hD⟩, hS.F ht⟩) hS.2.2 dJ0_getBytes_840e7_43 hlocks
set_option maxRecDepth 100000 in
set_option maxHeartbeats 4000000 in
theorem s_putS {α : Nat → Nat} {D : va_G} {κ : Nat → ClassId} (h b : Nat) (ml cnt : Int32) (mm n : Nat) (a : Nat → Int32) (i : Nat) (hi : i < 17) (hm : mm ≤ 65536) (hq : n + q_tl α i ≤ mm) (l : Launch) (sz : Nat) : Met l yJ5_putStringAt_47b60 (Cond.code yJ5_putStringAt_47b60 cJ5_putStringAt_47b60 3 (Option.none : Option Jvm.ClassFile.FieldType) :: q_W) ({ frames := 2, cells := 0, slots := 0, locals := 90 } : Room) (s_Pc α D κ [.ref h, .int (nI n), .ref (α (340 + i))] [(h, .inr (1, [.ref b, .int 0, .int ml, .int cnt])), (b, .inl (κ 1, mm, .inl a))] sz) (va_Qv (fun _ : Unit => True) (fun _ t => va_P D vwCl [(h, .inr (1, [.ref b, .int 0, .int ml, .int cnt])), (b, .inl (κ 1, mm, .inl (va_cpy (q_tc α i) a 0 n (q_tl α i))))] t.heap ∧ va_D (va_A [(h, .inr (1, [.ref b, .int 0, .int ml, .int cnt])), (b, .inl (κ 1, mm, .inl a))] sz) [(h, .inr (1, [.ref b, .int 0, .int ml, .int cnt])), (b, .inl (κ 1, mm, .inl (va_cpy (q_tc α i) a 0 n (q_tl α i))))]) (va_A [(h, .inr (1, [.ref b, .int 0, .int ml, .int cnt])), (b, .inl (κ 1, mm, .inl a))] sz)) 0 0 (va_A [(h, .inr (1, [.ref b, .int 0, .int ml, .int cnt])), (b, .inl (κ 1, mm, .inl a))] sz) := by
  refine Met.ofW (cc := cJ5_putStringAt_47b60) (maxL := 3) (ret := (Option.none : Option Jvm.ClassFile.FieldType)) (by decide) rfl ?_
  intro p e s m args below meth c s₁ B hml hv
  obtain ⟨C, hr, ⟨ls, hle, hl⟩, hP, hD, hS⟩ := s_enter RJ5 rfl (Nat.le_of_ble_eq_true rfl) B hml hv
  obtain rfl : s.heap.size = sz := hv.2.1
  clear hv
  rw [hle]
  generalize va_A [(h, .inr (1, [.ref b, .int 0, .int ml, .int cnt])), (b, .inl (κ 1, mm, .inl a))] s.heap.size = A0 at C hD hS ⊢
  have hl : lv_has ls 3 [(0, .ref h), (1, .int (nI n)), (2, .ref (α (340 + i)))] := hl
  have C0 := C
  obtain ⟨hx, hb, -, hown, hts, hK, hE, hA, hlocks⟩ := C
  refine lv_aload_n hx hb dJ5_putStringAt_47b60_0 rfl (lv_at hl 0 rfl) ?_
  refine lv_aload_n hx hb dJ5_putStringAt_47b60_1 rfl (lv_at hl 2 rfl) ?_
  refine s_callp (v := none) (s_runP C0 (n := 1) (wc := [(h, .inr (1, [.ref b, .int 0, .int ml, .int cnt]))]) (As := [.ref (α (340 + i))]) (rest := []) jw_ml_97 jw_sa_98 (List.mem_of_getElem? (i := 3) rfl) jw_in_99 jw_ii_19 jw_co_100 (by decide +kernel) ⟨by decide +kernel, by decide +kernel⟩ (s_infl (α := α) (D := D) (κ := κ) h b ml cnt i hi l s.heap.size) hP hD hS [0] rfl rfl (by decide) 0 rfl rfl rfl dJ5_putStringAt_47b60_2 hl rfl (Nat.le_of_ble_eq_true rfl) ⟨(Nat.le_of_ble_eq_true rfl), (Nat.le_of_ble_eq_true rfl)⟩ ⟨(by show 0 + 0 ≤ 0; omega), (by show 0 + 0 ≤ 0; omega)⟩) hS (s_free C0 (wc := [(h, .inr (1, [.ref b, .int 0, .int ml, .int cnt]))]) hD hS [0] rfl) (fun locs hS => ?_)
  refine W.eq (g2 := F0 m 5 ls []) rfl ?_
  refine lv_aload_n hx hb dJ5_putStringAt_47b60_5 rfl (lv_at hl 2 rfl) ?_
  refine lv_aload_n hx hb dJ5_putStringAt_47b60_6 rfl (lv_at hl 0 rfl) ?_
  refine va_get (ci := 1) (C := RJ4) (T := TJ4) (N := 4) hx hb hts q_u_J4 hown hK hP 0 rfl rfl 0 (by decide) (hts _ jw_fl_4) (fun _ h9 => h9) rfl dJ5_putStringAt_47b60_7 ?_
  refine lv_iload_n hx hb dJ5_putStringAt_47b60_10 rfl (lv_at hl 1 rfl) ?_
  refine lv_aload_n hx hb dJ5_putStringAt_47b60_11 rfl (lv_at hl 0 rfl) ?_
  refine va_get (ci := 1) (C := RJ4) (T := TJ4) (N := 4) hx hb hts q_u_J4 hown hK hP 0 rfl rfl 1 (by decide) (hts _ jw_fl_1) (fun _ h9 => h9) rfl dJ5_putStringAt_47b60_12 ?_
  have hfree := s_free C0 (wc := [(b, .inl (κ 1, mm, .inl a))]) hD hS [1] rfl
  refine va_callv (s_runK C0 (n := 3) (wc := [(b, .inl (κ 1, mm, .inl a))]) (As := [.ref b, .int (nI n), .int 0]) (rest := []) jw_ml_101 jw_se_102 jw_in_103 jw_ii_56 jw_co_104 (by decide +kernel) rfl hi (s_getB (α := α) (D := D) (κ := κ) b mm n a i hi hm hq l s.heap.size) hP hD hS [1] rfl rfl (by decide) rfl rfl dJ5_putStringAt_47b60_15 hl rfl (Nat.le_of_ble_eq_true rfl) ⟨(Nat.le_of_ble_eq_true rfl), (Nat.le_of_ble_eq_true rfl)⟩ ⟨(by show 0 + 0 + 0 ≤ 0; omega), (by show 0 + 0 + 0 ≤ 0; omega)⟩) hS (fun q _ hq => hfree q hq) hfree (fun u t H locs ht hvm hpost hB hz hk hS => ?_)
  obtain ⟨hP1, hD1⟩ := hB
  rw [ht] at hP1
  obtain ⟨hP, hD⟩ := va_join hP hD [1] [0] (wr := [(h, .inr (1, [.ref b, .int 0, .int ml, .int cnt]))]) rfl rfl rfl (by decide) hk hfree hP1 hD1
  have hP : va_P D vwCl [(h, .inr (1, [.ref b, .int 0, .int ml, .int cnt])), (b, .inl (κ 1, mm, .inl (va_cpy (q_tc α i) a 0 n (q_tl α i))))] H := hP
  have hD : va_D A0 [(h, .inr (1, [.ref b, .int 0, .int ml, .int cnt])), (b, .inl (κ 1, mm, .inl (va_cpy (q_tc α i) a 0 n (q_tl α i))))] := hD
  refine W.eq (g2 := F0 m 18 ls []) rfl ?_
  exact W.vret hx hb hr (fun t ht hW => ⟨⟨(), rfl, trivial, by rw [ht]; exact hP, hD⟩, hS.F ht⟩) hS.2.2 dJ5_putStringAt_47b60_18 hlocks
set_option maxRecDepth 100000 in
set_option maxHeartbeats 4000000 in
theorem s_appS {α : Nat → Nat} {D : va_G} {κ : Nat → ClassId} (h b : Nat) (ml : Int32) (mm n : Nat) (a : Nat → Int32) (tx : Nat → Nat) (i kc : Nat) (hi : i < 17) (hm : mm ≤ 65536) (hn : n ≤ mm) (hL : sb_Lat tx n a) (hf : sb_Fit a) (hkc : n + q_tl α i ≤ mm ∨ sb_cap (n + q_tl α i) mm ≤ kc) (hcap : sb_cap (n + q_tl α i) mm ≤ 65536) (l : Launch) (sz : Nat) : Met l yJ5_append_cf1ce (Cond.code yJ5_append_cf1ce cJ5_append_cf1ce 3 (Option.some (Jvm.ClassFile.FieldType.object "java/lang/AbstractStringBuilder")) :: q_W) ({ frames := 4, cells := 1, slots := kc, locals := 120 } : Room) (s_Pc α D κ [.ref h, .ref (α (340 + i))] [(h, .inr (1, [.ref b, .int 0, .int ml, .int (nI n)])), (b, .inl (κ 1, mm, .inl a))] sz) (va_Qr (fun u : Nat × (Nat → Int32) => sb_Lat (sb_cat tx n (q_tn α i)) (n + q_tl α i) u.2 ∧ sb_Fit u.2) (fun u ra t => ra = h ∧ va_P D vwCl [(h, .inr (1, [.ref u.1, .int 0, .int ml, .int (nI (n + q_tl α i))])), (u.1, .inl (κ 1, sb_cap (n + q_tl α i) mm, .inl u.2))] t.heap ∧ va_D (va_A [(h, .inr (1, [.ref b, .int 0, .int ml, .int (nI n)])), (b, .inl (κ 1, mm, .inl a))] sz) [(h, .inr (1, [.ref u.1, .int 0, .int ml, .int (nI (n + q_tl α i))])), (u.1, .inl (κ 1, sb_cap (n + q_tl α i) mm, .inl u.2))]) (va_A [(h, .inr (1, [.ref b, .int 0, .int ml, .int (nI n)])), (b, .inl (κ 1, mm, .inl a))] sz)) 1 (kc) (va_A [(h, .inr (1, [.ref b, .int 0, .int ml, .int (nI n)])), (b, .inl (κ 1, mm, .inl a))] sz) := by
  refine Met.ofW (cc := cJ5_append_cf1ce) (maxL := 3) (ret := (Option.some (Jvm.ClassFile.FieldType.object "java/lang/AbstractStringBuilder"))) (by decide) rfl ?_
  intro p e s m args below meth c s₁ B hml hv
  obtain ⟨C, hr, ⟨ls, hle, hl⟩, hP, hD, hS⟩ := s_enter RJ5 rfl (Nat.le_of_ble_eq_true rfl) B hml hv
  obtain rfl : s.heap.size = sz := hv.2.1
  clear hv
  rw [hle]
  generalize va_A [(h, .inr (1, [.ref b, .int 0, .int ml, .int (nI n)])), (b, .inl (κ 1, mm, .inl a))] s.heap.size = A0 at C hD hS ⊢
  have hl : lv_has ls 3 [(0, .ref h), (1, .ref (α (340 + i)))] := hl
  have C0 := C
  obtain ⟨hx, hb, -, hown, hts, hK, hE, hA, hlocks⟩ := C
  have htl := s_tlt hE hi
  have hg := sb_cap_ge (n + q_tl α i) mm
  refine lv_aload_n hx hb dJ5_append_cf1ce_0 rfl (lv_at hl 1 rfl) ?_
  refine lv_ifnonnull hx hb dJ5_append_cf1ce_1 (tgt := 9) (by decide) ?_
  refine lv_aload_n hx hb dJ5_append_cf1ce_9 rfl (lv_at hl 1 rfl) ?_
  refine s_callp (v := some (.int (nI (q_tl α i)))) (s_runK C0 (n := 0) (wc := []) (As := []) (rest := []) jw_ml_105 jw_se_106 jw_in_107 jw_ii_56 jw_co_108 (by decide +kernel) rfl hi (s_strLen (α := α) (D := D) (κ := κ) i hi l s.heap.size) hP hD hS [] rfl rfl (by decide) rfl rfl dJ5_append_cf1ce_10 hl rfl (Nat.le_of_ble_eq_true rfl) ⟨(Nat.le_of_ble_eq_true rfl), (Nat.le_of_ble_eq_true rfl)⟩ ⟨(by show 0 + 0 ≤ 1; omega), (by show 0 + 0 ≤ kc; omega)⟩) hS (s_free C0 (wc := []) hD hS [] rfl) (fun locs hS => ?_)
  refine W.eq (g2 := F0 m 13 ls [.int (nI (q_tl α i))]) rfl ?_
  refine lv_istore_n hx hb dJ5_append_cf1ce_13 rfl hl (Nat.le_of_ble_eq_true rfl) (lv' := [(2, .int (nI (q_tl α i))), (0, .ref h), (1, .ref (α (340 + i)))]) rfl (fun ls hl => ?_)
  refine lv_aload_n hx hb dJ5_append_cf1ce_14 rfl (lv_at hl 1 rfl) ?_
  refine lv_aload_n hx hb dJ5_append_cf1ce_15 rfl (lv_at hl 1 rfl) ?_
  refine va_get (ci := 1) (C := RJ4) (T := TJ4) (N := 4) hx hb hts q_u_J4 hown hK hP 0 rfl rfl 3 (by decide) (hts _ jw_fl_32) (fun _ h9 => h9) rfl dJ5_append_cf1ce_16 ?_
  refine lv_iload_n hx hb dJ5_append_cf1ce_19 rfl (lv_at hl 0 rfl) ?_
  refine lv_iadd hx hb dJ5_append_cf1ce_20 ?_
  refine lv_topi (fun x1 hx2 => ?_)
  obtain rfl : x1 = nI (n + q_tl α i) := by rw [hx2]; exact (nI_add _ _)
  have hfree := s_free C0 (wc := [(h, .inr (1, [.ref b, .int 0, .int ml, .int (nI n)])), (b, .inl (κ 1, mm, .inl a))]) hD hS [0, 1] rfl
  refine va_callv (s_runP C0 (n := 1) (wc := [(h, .inr (1, [.ref b, .int 0, .int ml, .int (nI n)])), (b, .inl (κ 1, mm, .inl a))]) (As := [.int (nI (n + q_tl α i))]) (rest := []) jw_ml_33 jw_sa_34 (List.mem_of_getElem? (i := 0) rfl) jw_in_35 jw_ii_19 jw_co_36 (by decide +kernel) ⟨by decide +kernel, by decide +kernel⟩ (s_ensure (α := α) (D := D) (κ := κ) h b ml (nI n) mm a (n + q_tl α i) hm (by omega) hf kc hkc l s.heap.size) hP hD hS [0, 1] rfl rfl (by decide) 0 rfl rfl rfl dJ5_append_cf1ce_21 hl rfl (Nat.le_of_ble_eq_true rfl) ⟨(Nat.le_of_ble_eq_true rfl), (Nat.le_of_ble_eq_true rfl)⟩ ⟨(by show 0 + 1 ≤ 1; omega), (by show 0 + kc ≤ kc; omega)⟩) hS (fun q _ hq => hfree q hq) hfree (fun u t H locs ht hvm hpost hB hz hk hS => ?_)
  obtain ⟨b2, a2⟩ := u
  obtain ⟨hf2, hk2⟩ := hpost
  obtain ⟨hP1, hD1⟩ := hB
  rw [ht] at hP1
  have hP := hP1
  have hD := hD1.weaken (fun _ _ _ hq => hfree _ hq)
  have hP : va_P D vwCl [(h, .inr (1, [.ref b2, .int 0, .int ml, .int (nI n)])), (b2, .inl (κ 1, sb_cap (n + q_tl α i) mm, .inl a2))] H := hP
  have hD : va_D A0 [(h, .inr (1, [.ref b2, .int 0, .int ml, .int (nI n)])), (b2, .inl (κ 1, sb_cap (n + q_tl α i) mm, .inl a2))] := hD
  refine W.eq (g2 := F0 m 24 ls []) rfl ?_
  have hk2 : ∀ j, j < mm → a2 j = a j := hk2
  refine lv_aload_n hx hb dJ5_append_cf1ce_24 rfl (lv_at hl 1 rfl) ?_
  refine lv_aload_n hx hb dJ5_append_cf1ce_25 rfl (lv_at hl 1 rfl) ?_
  refine va_get (ci := 1) (C := RJ4) (T := TJ4) (N := 4) hx hb hts q_u_J4 hown hK hP 0 rfl rfl 3 (by decide) (hts _ jw_fl_32) (fun _ h9 => h9) rfl dJ5_append_cf1ce_26 ?_
  refine lv_aload_n hx hb dJ5_append_cf1ce_29 rfl (lv_at hl 2 rfl) ?_
  have hfree := s_free C0 (wc := [(h, .inr (1, [.ref b2, .int 0, .int ml, .int (nI n)])), (b2, .inl (κ 1, sb_cap (n + q_tl α i) mm, .inl a2))]) hD hS [0, 1] rfl
  refine va_callv (s_runP C0 (n := 2) (wc := [(h, .inr (1, [.ref b2, .int 0, .int ml, .int (nI n)])), (b2, .inl (κ 1, sb_cap (n + q_tl α i) mm, .inl a2))]) (As := [.int (nI n), .ref (α (340 + i))]) (rest := []) jw_ml_109 jw_sa_110 (List.mem_of_getElem? (i := 2) rfl) jw_in_111 jw_ii_19 jw_co_112 (by decide +kernel) ⟨by decide +kernel, by decide +kernel⟩ (s_putS (α := α) (D := D) (κ := κ) h b2 ml (nI n) (sb_cap (n + q_tl α i) mm) n a2 i hi hcap hg l H.size) hP hD hS [0, 1] rfl rfl (by decide) 0 rfl rfl rfl dJ5_append_cf1ce_30 hl rfl (Nat.le_of_ble_eq_true rfl) ⟨(Nat.le_of_ble_eq_true rfl), (Nat.le_of_ble_eq_true rfl)⟩ ⟨(by show (0 + 1) + 0 ≤ 1; omega), (by show (0 + kc) + 0 ≤ kc; omega)⟩) hS (fun q _ hq => hfree q hq) hfree (fun u t H locs ht hvm hpost hB hz hk hS => ?_)
  obtain ⟨hP1, hD1⟩ := hB
  rw [ht] at hP1
  have hP := hP1
  have hD := hD1.weaken (fun _ _ _ hq => hfree _ hq)
  have hP : va_P D vwCl [(h, .inr (1, [.ref b2, .int 0, .int ml, .int (nI n)])), (b2, .inl (κ 1, sb_cap (n + q_tl α i) mm, .inl (va_cpy (q_tc α i) a2 0 n (q_tl α i))))] H := hP
  have hD : va_D A0 [(h, .inr (1, [.ref b2, .int 0, .int ml, .int (nI n)])), (b2, .inl (κ 1, sb_cap (n + q_tl α i) mm, .inl (va_cpy (q_tc α i) a2 0 n (q_tl α i))))] := hD
  refine W.eq (g2 := F0 m 33 ls []) rfl ?_
  refine lv_aload_n hx hb dJ5_append_cf1ce_33 rfl (lv_at hl 1 rfl) ?_
  refine lv_dup hx hb dJ5_append_cf1ce_34 rfl ?_
  refine va_get (ci := 1) (C := RJ4) (T := TJ4) (N := 4) hx hb hts q_u_J4 hown hK hP 0 rfl rfl 3 (by decide) (hts _ jw_fl_32) (fun _ h9 => h9) rfl dJ5_append_cf1ce_35 ?_
  refine lv_iload_n hx hb dJ5_append_cf1ce_38 rfl (lv_at hl 0 rfl) ?_
  refine lv_iadd hx hb dJ5_append_cf1ce_39 ?_
  refine lv_topi (fun x3 hx4 => ?_)
  obtain rfl : x3 = nI (n + q_tl α i) := by rw [hx4]; exact (nI_add _ _)
  refine va_put (ty := .int) (ci := 1) (C := RJ4) (T := TJ4) (N := 4) hx hb hts q_u_J4 tyJ4 tyJ4_ok nmJ4 hown hK hP hD hS 0 rfl rfl 3 (by decide) (hts _ jw_fl_32) (fun _ h9 => h9) rfl (by decide +kernel) rfl rfl (Nat.le_of_ble_eq_true rfl) dJ5_append_cf1ce_40 (fun H locs hP hD hS => ?_)
  have hP : va_P D vwCl [(h, .inr (1, [.ref b2, .int 0, .int ml, .int (nI (n + q_tl α i))])), (b2, .inl (κ 1, sb_cap (n + q_tl α i) mm, .inl (va_cpy (q_tc α i) a2 0 n (q_tl α i))))] H := hP
  have hD : va_D A0 [(h, .inr (1, [.ref b2, .int 0, .int ml, .int (nI (n + q_tl α i))])), (b2, .inl (κ 1, sb_cap (n + q_tl α i) mm, .inl (va_cpy (q_tc α i) a2 0 n (q_tl α i))))] := hD
  refine lv_aload_n hx hb dJ5_append_cf1ce_43 rfl (lv_at hl 1 rfl) ?_
  refine W.widen (k := 1) (n := kc) (by omega) (by omega) ?_
  have hLat : sb_Lat (sb_cat tx n (q_tn α i)) (n + q_tl α i) (va_cpy (q_tc α i) a2 0 n (q_tl α i)) := by
    intro j hj
    by_cases hj2 : j < n
    · rw [sb_cat_lo hj2]
      have h9 := hL j hj2
      refine ⟨h9.1, ?_⟩
      show (if n ≤ j ∧ j < n + q_tl α i then q_tc α i (0 + (j - n)) else a2 j) = _
      rw [if_neg (by omega), hk2 j (by omega)]
      exact h9.2
    · obtain ⟨k, rfl⟩ : ∃ k, j = n + k := ⟨j - n, by omega⟩
      rw [sb_cat_hi]
      obtain ⟨z1, z2⟩ := s_tn hE hi (j := k) (by omega)
      refine ⟨by omega, ?_⟩
      show (if n ≤ n + k ∧ n + k < n + q_tl α i then q_tc α i (0 + (n + k - n)) else a2 (n + k)) = _
      rw [if_pos (by omega), show 0 + (n + k - n) = k by omega, z2, (sb_b7 _ z1).1]
  have hFit : sb_Fit (va_cpy (q_tc α i) a2 0 n (q_tl α i)) := by
    intro j
    show fits .byte (.int (if n ≤ j ∧ j < n + q_tl α i then q_tc α i (0 + (j - n)) else a2 j)) = true
    split
    · obtain ⟨z1, z2⟩ := s_tn hE hi (j := 0 + (j - n)) (by omega)
      rw [z2]
      exact (sb_b7 _ z1).2
    · exact hf2 j
  exact W.aret (v := .ref h) hx hb hr (Or.inl ⟨_, rfl⟩) (Or.inr ⟨_, rfl⟩) (fun t ht hW => ⟨⟨(b2, (va_cpy (q_tc α i) a2 0 n (q_tl α i))), h, rfl, ⟨hLat, hFit⟩, rfl, by rw [ht]; exact hP, hD⟩, hS.F ht⟩) hS.2.2 dJ5_append_cf1ce_44 hlocks
set_option maxRecDepth 100000 in
set_option maxHeartbeats 4000000 in
theorem s_AppS {α : Nat → Nat} {D : va_G} {κ : Nat → ClassId} (h b : Nat) (ml : Int32) (mm n : Nat) (a : Nat → Int32) (tx : Nat → Nat) (i kc : Nat) (hi : i < 17) (hm : mm ≤ 65536) (hn : n ≤ mm) (hL : sb_Lat tx n a) (hf : sb_Fit a) (hkc : n + q_tl α i ≤ mm ∨ sb_cap (n + q_tl α i) mm ≤ kc) (hcap : sb_cap (n + q_tl α i) mm ≤ 65536) (l : Launch) (sz : Nat) : Met l yJ4_append_15ec4 (Cond.code yJ4_append_15ec4 cJ4_append_15ec4 2 (Option.some (Jvm.ClassFile.FieldType.object "java/lang/StringBuilder")) :: q_W) ({ frames := 5, cells := 1, slots := kc, locals := 145 } : Room) (s_Pc α D κ [.ref h, .ref (α (340 + i))] [(h, .inr (1, [.ref b, .int 0, .int ml, .int (nI n)])), (b, .inl (κ 1, mm, .inl a))] sz) (va_Qr (fun u : Nat × (Nat → Int32) => sb_Lat (sb_cat tx n (q_tn α i)) (n + q_tl α i) u.2 ∧ sb_Fit u.2) (fun u ra t => ra = h ∧ va_P D vwCl [(h, .inr (1, [.ref u.1, .int 0, .int ml, .int (nI (n + q_tl α i))])), (u.1, .inl (κ 1, sb_cap (n + q_tl α i) mm, .inl u.2))] t.heap ∧ va_D (va_A [(h, .inr (1, [.ref b, .int 0, .int ml, .int (nI n)])), (b, .inl (κ 1, mm, .inl a))] sz) [(h, .inr (1, [.ref u.1, .int 0, .int ml, .int (nI (n + q_tl α i))])), (u.1, .inl (κ 1, sb_cap (n + q_tl α i) mm, .inl u.2))]) (va_A [(h, .inr (1, [.ref b, .int 0, .int ml, .int (nI n)])), (b, .inl (κ 1, mm, .inl a))] sz)) 1 (kc) (va_A [(h, .inr (1, [.ref b, .int 0, .int ml, .int (nI n)])), (b, .inl (κ 1, mm, .inl a))] sz) := by
  refine Met.ofW (cc := cJ4_append_15ec4) (maxL := 2) (ret := (Option.some (Jvm.ClassFile.FieldType.object "java/lang/StringBuilder"))) (by decide) rfl ?_
  intro p e s m args below meth c s₁ B hml hv
  obtain ⟨C, hr, ⟨ls, hle, hl⟩, hP, hD, hS⟩ := s_enter RJ4 rfl (Nat.le_of_ble_eq_true rfl) B hml hv
  obtain rfl : s.heap.size = sz := hv.2.1
  clear hv
  rw [hle]
  generalize va_A [(h, .inr (1, [.ref b, .int 0, .int ml, .int (nI n)])), (b, .inl (κ 1, mm, .inl a))] s.heap.size = A0 at C hD hS ⊢
  have hl : lv_has ls 2 [(0, .ref h), (1, .ref (α (340 + i)))] := hl
  have C0 := C
  obtain ⟨hx, hb, -, hown, hts, hK, hE, hA, hlocks⟩ := C
  refine lv_aload_n hx hb dJ4_append_15ec4_0 rfl (lv_at hl 0 rfl) ?_
  refine lv_aload_n hx hb dJ4_append_15ec4_1 rfl (lv_at hl 1 rfl) ?_
  have hfree := s_free C0 (wc := [(h, .inr (1, [.ref b, .int 0, .int ml, .int (nI n)])), (b, .inl (κ 1, mm, .inl a))]) hD hS [0, 1] rfl
  refine va_callr (s_runSU C0 (n := 1) (wc := [(h, .inr (1, [.ref b, .int 0, .int ml, .int (nI n)])), (b, .inl (κ 1, mm, .inl a))]) (As := [.ref (α (340 + i))]) (rest := []) jw_ml_113 jw_sa_114 jw_su_61 jw_in_115 jw_ii_19 jw_co_116 (by decide +kernel) (s_appS (α := α) (D := D) (κ := κ) h b ml mm n a tx i kc hi hm hn hL hf hkc hcap l s.heap.size) hP hD hS [0, 1] rfl rfl (by decide) 0 rfl rfl rfl dJ4_append_15ec4_2 hl rfl (Nat.le_of_ble_eq_true rfl) ⟨(Nat.le_of_ble_eq_true rfl), (Nat.le_of_ble_eq_true rfl)⟩ ⟨(by show 0 + 1 ≤ 1; omega), (by show 0 + kc ≤ kc; omega)⟩) hS (fun q _ hq => hfree q hq) hfree (fun u ra t H locs ht hvm hpost hB hz hk hS => ?_)
  obtain ⟨b2, a2⟩ := u
  obtain ⟨hLat, hf2⟩ := hpost
  obtain ⟨hra, hP1, hD1⟩ := hB
  rw [ht] at hP1
  have hP := hP1
  have hD := hD1.weaken (fun _ _ _ hq => hfree _ hq)
  have hP : va_P D vwCl [(h, .inr (1, [.ref b2, .int 0, .int ml, .int (nI (n + q_tl α i))])), (b2, .inl (κ 1, sb_cap (n + q_tl α i) mm, .inl a2))] H := hP
  have hD : va_D A0 [(h, .inr (1, [.ref b2, .int 0, .int ml, .int (nI (n + q_tl α i))])), (b2, .inl (κ 1, sb_cap (n + q_tl α i) mm, .inl a2))] := hD
  refine W.eq (g2 := F0 m 5 ls [.ref ra]) rfl ?_
  refine lv_pop hx hb dJ4_append_15ec4_5 rfl ?_
  refine lv_aload_n hx hb dJ4_append_15ec4_6 rfl (lv_at hl 0 rfl) ?_
  refine W.widen (k := 1) (n := kc) (by omega) (by omega) ?_
  exact W.aret (v := .ref h) hx hb hr (Or.inl ⟨_, rfl⟩) (Or.inr ⟨_, rfl⟩) (fun t ht hW => ⟨⟨(b2, a2), h, rfl, ⟨hLat, hf2⟩, rfl, by rw [ht]; exact hP, hD⟩, hS.F ht⟩) hS.2.2 dJ4_append_15ec4_7 hlocks
