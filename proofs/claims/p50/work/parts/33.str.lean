/-! The library's own methods: constant texts. -/
def q_ch (i j : Nat) : Int32 := (q_sb.getD i []).getD j 0
theorem q_ch_ok : ∀ i, i < 16 → ∀ j, j < q_sl.getD i 0 → q_ch i j &&& 255 = q_ch i j ∧ ((q_ch i j).toUInt32 % 65536).toInt32 = q_ch i j ∧ narrow .char (.int (q_ch i j)) = .int (q_ch i j) := by decide +kernel
theorem q_sl_lt : ∀ i, i < 16 → q_sl.getD i 0 < 100 := by decide +kernel
/-- a text's length and bytes: the constants, then the one that the law has made -/
def q_tl (α : Nat → Nat) (i : Nat) : Nat := if i = 16 then α 700 else q_sl.getD i 0
def q_txb (α : Nat → Nat) (i : Nat) : List Int32 := if i = 16 then (List.range (α 700)).map (fun i => nI (α (701 + i))) else q_sb.getD i []
def q_tc (α : Nat → Nat) (i j : Nat) : Int32 := (q_txb α i).getD j 0
theorem q_tl_k {α : Nat → Nat} {i : Nat} (h : i < 16) : q_tl α i = q_sl.getD i 0 := if_neg (by omega)
theorem q_tc_k {α : Nat → Nat} {i j : Nat} (h : i < 16) : q_tc α i j = q_ch i j := by unfold q_tc q_txb; rw [if_neg (by omega)]; rfl
theorem q_tc_d {α : Nat → Nat} {j : Nat} (h : j < α 700) : q_tc α 16 j = nI (α (701 + j)) := by
  unfold q_tc q_txb
  rw [if_pos rfl]
  simp [List.getD, h]
theorem q_nI_ok : ∀ x, x < 128 → nI x &&& 255 = nI x ∧ ((nI x).toUInt32 % 65536).toInt32 = nI x ∧ narrow .char (.int (nI x)) = .int (nI x) := by decide +kernel
theorem s_T {α : Nat → Nat} {A : Nat → Prop} {U : State} {H : Heap} (h : s_E α A U H) {i : Nat} (hi : i < 17) : va_O "java/lang/String" (α (340 + i)) A U H ∧ va_OF "java/lang/String" "coder" "B" (.int 0) (α (340 + i)) A U H ∧ va_OF "java/lang/String" "value" "[B" (.ref (α (360 + i))) (α (340 + i)) A U H ∧ va_T .byte (α (360 + i)) (q_tl α i) (fun j => .int (q_tc α i j)) A U H := by
  by_cases e : i = 16
  · subst e
    have t := h.2.1.2.2.2.2.2.2.1.1 0 (by decide)
    have e1 : q_tl α 16 = α 700 := if_pos rfl
    have e2 : ∀ j, q_tc α 16 j = ((List.range (α 700)).map (fun i => nI (α (701 + i)))).getD j 0 := fun j => by unfold q_tc q_txb; rw [if_pos rfl]
    rw [e1]
    simp only [e2]
    exact t
  · have hk : i < 16 := by omega
    have t := h.1.1 i hk
    rw [q_tl_k hk]
    simp only [q_tc_k hk]
    exact t
theorem s_tlt {α : Nat → Nat} {A : Nat → Prop} {U : State} {H : Heap} (h : s_E α A U H) {i : Nat} (hi : i < 17) : q_tl α i < 101 := by
  by_cases e : i = 16
  · subst e
    rw [show q_tl α 16 = α 700 from if_pos rfl]
    have := h.2.1.2.2.2.2.2.2.2.1
    omega
  · rw [q_tl_k (by omega)]
    have := q_sl_lt i (by omega)
    omega
theorem s_tok {α : Nat → Nat} {A : Nat → Prop} {U : State} {H : Heap} (h : s_E α A U H) {i j : Nat} (hi : i < 17) (hj : j < q_tl α i) : q_tc α i j &&& 255 = q_tc α i j ∧ ((q_tc α i j).toUInt32 % 65536).toInt32 = q_tc α i j ∧ narrow .char (.int (q_tc α i j)) = .int (q_tc α i j) := by
  by_cases e : i = 16
  · subst e
    rw [show q_tl α 16 = α 700 from if_pos rfl] at hj
    rw [q_tc_d hj]
    exact q_nI_ok _ (h.2.1.2.2.2.2.2.2.2.2.1 j (by have := h.2.1.2.2.2.2.2.2.2.1; omega))
  · have hk : i < 16 := by omega
    rw [q_tl_k hk] at hj
    rw [q_tc_k hk]
    exact q_ch_ok i hk j hj
section q33
variable {α : Nat → Nat} {D : va_G} {κ : Nat → ClassId} {p : Program} {l : Launch} {e : Env} {R : Room} {s : State} {m : MethodId} {args : Array Value} {below : List Frame} {meth : Method} {c : Code} {cc : ByteArray} {own : String} {nL : Nat} {A : Nat → Prop} {Q : State → Prop} {n1 n2 : Nat}
variable {y : MethodName} {bytes : ByteArray} {maxL n idx : Nat} {ret : Option FieldType} {fr lo mc ms : Nat} {Qc : Array Value → State → Outcome → State → Prop} {As rest st : List Value} {ws wc : va_W} {H : Heap} {locs : List Loc} {ls : Array Slot} {lv : List (Nat × Value)} {pc : Nat}
theorem s_runK (C : s_Cx α D κ p s m args meth c cc own nL A) (w1 : Cond.methodLink own idx y ∈ q_W) (w2 : Cond.selects "java/lang/String" y y ∈ q_W) (w3 : Cond.instanceMethod y ∈ q_W) (w4 : Cond.initialized y.cls ∈ q_W) (w5 : Cond.code y bytes maxL ret ∈ q_W) (hd : y.cls ≠ "java/lang/invoke/MethodHandle" ∧ y.cls ≠ "java/lang/invoke/VarHandle" ∧ (parseMethodDescriptor y.desc).map (fun d => d.parameters.length) = some n) (hyc : y.cls = "java/lang/String") {i : Nat} (hi : i < 17)
    (hM : Met l y (Cond.code y bytes maxL ret :: q_W) ({ frames := fr, cells := mc, slots := ms, locals := lo } : Room) (s_Pc α D κ (.ref (α (340 + i)) :: As) wc H.size) Qc mc ms (va_A wc H.size)) (hP : va_P D vwCl ws H) (hD : va_D A ws) (hS : va_S A s.heap H locs) (isC : List Nat) (hC : isC.map (fun i => ws[i]?) = wc.map some) (hC2 : isC.filterMap (fun i => ws[i]?) = wc) (hn : va_nd isC = true)
    (hst : st = As.reverse ++ .ref (α (340 + i)) :: rest) (hlen : As.length = n) (hdg : decode cc pc = .ok (.invokevirtual idx, 3)) (hl : lv_has ls nL lv) (_hr : As.length = n) (hrest : (rest.map fun v => v.category).sum ≤ 8) (hR : fr + 1 ≤ R.frames ∧ 8 + (maxL + 11) + lo ≤ R.locals) (hcs : n1 + mc ≤ R.cells ∧ n2 + ms ≤ R.slots) :
    va_Run p l e R s m args below meth c H locs n1 n2 mc ms (F0 m pc ls st) rest (Qc (Value.ref (α (340 + i)) :: As).toArray) (va_A wc H.size) := by
  have C0 := C
  obtain ⟨hx, hb, hml, hown, hts, hK, hE, hA, hlk⟩ := C
  have hG2 : GoodIn q_W (wsV own idx "java/lang/String" y (Cond.code y bytes maxL ret :: q_W)) := by
    have g := q_GI w5
    intro w hw
    unfold wsV at hw
    rcases List.mem_append.mp hw with h | h
    · have hw' : w ∈ q_W := by
        simp only [List.mem_cons, List.not_mem_nil, or_false] at h
        rcases h with rfl | rfl | rfl | rfl
        · exact w1
        · exact w3
        · exact w2
        · exact hyc ▸ w4
      exact ⟨hw', good_of_word (List.mem_filter.mp hw').2⟩
    · exact g w h
  have hrecv : ∃ cell : Cell, H[α (340 + i)]? = some cell ∧ cell.vm.isStatics = false ∧ s.vm.findClass "java/lang/String" = some cell.cls := by
    obtain ⟨cell, h1, h2, h3, -⟩ := (s_T hE hi).1.kept hS.2.1
    exact ⟨cell, h1, h2, h3⟩
  exact va_runV (n := n) ⟨hx, hb, hml, hown, hts⟩ hM (cwV n hts hG2 rfl rfl rfl ⟨hyc, hd.1, hd.2.1, hd.2.2⟩ hR) ⟨s_FB, hrecv, s_pre C0 hP hD hS isC hC hC2 hn⟩ rfl hlen hl.1 hst (lv_room hrest) hdg hcs
end q33
set_option maxRecDepth 100000 in
theorem jw_fl_80 : Cond.fieldLink RJ0 38 "java/lang/String" "COMPACT_STRINGS" "Z" ∈ q_W := q_t2 14 rfl rfl
set_option maxRecDepth 100000 in
theorem jw_fl_81 : Cond.fieldLink RJ0 15 "java/lang/String" "coder" "B" ∈ q_W := q_t2 145 rfl rfl
set_option maxRecDepth 100000 in
theorem jw_fl_82 : Cond.fieldLink RJ0 9 "java/lang/String" "value" "[B" ∈ q_W := q_t2 144 rfl rfl
set_option maxRecDepth 100000 in
theorem jw_ml_83 : Cond.methodLink RJ0 335 yJ0_coder_7d493 ∈ q_W := q_t2 10 rfl rfl
set_option maxRecDepth 100000 in
theorem jw_se_84 : Cond.selects "java/lang/String" yJ0_coder_7d493 yJ0_coder_7d493 ∈ q_W := q_t2 12 rfl rfl
set_option maxRecDepth 100000 in
theorem jw_in_85 : Cond.instanceMethod yJ0_coder_7d493 ∈ q_W := q_t2 11 rfl rfl
set_option maxRecDepth 100000 in
theorem jw_co_86 : Cond.code yJ0_coder_7d493 cJ0_coder_7d493 1 (Option.some Jvm.ClassFile.FieldType.byte) ∈ q_W := q_t2 13 rfl rfl
set_option maxRecDepth 100000 in
theorem jw_ml_87 : Cond.methodLink RJ1 9 yJ0_checkIndex_df160 ∈ q_W := q_t5 174 rfl rfl
set_option maxRecDepth 100000 in
theorem jw_ml_88 : Cond.methodLink RJ0 492 yJ0_isLatin1_aae02 ∈ q_W := q_t5 167 rfl rfl
set_option maxRecDepth 100000 in
theorem jw_se_89 : Cond.selects "java/lang/String" yJ0_isLatin1_aae02 yJ0_isLatin1_aae02 ∈ q_W := q_t5 169 rfl rfl
set_option maxRecDepth 100000 in
theorem jw_in_90 : Cond.instanceMethod yJ0_isLatin1_aae02 ∈ q_W := q_t5 168 rfl rfl
set_option maxRecDepth 100000 in
theorem jw_co_91 : Cond.code yJ0_isLatin1_aae02 cJ0_isLatin1_aae02 1 (Option.some Jvm.ClassFile.FieldType.boolean) ∈ q_W := q_t5 170 rfl rfl
set_option maxRecDepth 100000 in
theorem jw_ml_92 : Cond.methodLink RJ0 495 yJ1_charAt_3b067 ∈ q_W := q_t5 171 rfl rfl
set_option maxRecDepth 100000 in
theorem jw_st_93 : Cond.static yJ1_charAt_3b067 ∈ q_W := q_t5 172 rfl rfl
set_option maxRecDepth 100000 in
theorem jw_co_94 : Cond.code yJ1_charAt_3b067 cJ1_charAt_3b067 2 (Option.some Jvm.ClassFile.FieldType.char) ∈ q_W := q_t5 173 rfl rfl
theorem dJ0_charAt_5068e_0 : decode cJ0_charAt_5068e 0 = .ok (.aload_n 0, 1) := by decide +kernel
theorem dJ0_charAt_5068e_1 : decode cJ0_charAt_5068e 1 = .ok (.invokevirtual 492, 3) := by decide +kernel
theorem dJ0_charAt_5068e_4 : decode cJ0_charAt_5068e 4 = .ok (.ifCond .eq 12, 3) := by decide +kernel
theorem dJ0_charAt_5068e_7 : decode cJ0_charAt_5068e 7 = .ok (.aload_n 0, 1) := by decide +kernel
theorem dJ0_charAt_5068e_8 : decode cJ0_charAt_5068e 8 = .ok (.getfield 9, 3) := by decide +kernel
theorem dJ0_charAt_5068e_11 : decode cJ0_charAt_5068e 11 = .ok (.iload_n 1, 1) := by decide +kernel
theorem dJ0_charAt_5068e_12 : decode cJ0_charAt_5068e 12 = .ok (.invokestatic 495, 3) := by decide +kernel
theorem dJ0_charAt_5068e_15 : decode cJ0_charAt_5068e 15 = .ok (.ireturn, 1) := by decide +kernel
theorem dJ0_coder_7d493_0 : decode cJ0_coder_7d493 0 = .ok (.getstatic 38, 3) := by decide +kernel
theorem dJ0_coder_7d493_3 : decode cJ0_coder_7d493 3 = .ok (.ifCond .eq 10, 3) := by decide +kernel
theorem dJ0_coder_7d493_6 : decode cJ0_coder_7d493 6 = .ok (.aload_n 0, 1) := by decide +kernel
theorem dJ0_coder_7d493_7 : decode cJ0_coder_7d493 7 = .ok (.getfield 15, 3) := by decide +kernel
theorem dJ0_coder_7d493_10 : decode cJ0_coder_7d493 10 = .ok (.goto 4, 3) := by decide +kernel
theorem dJ0_coder_7d493_14 : decode cJ0_coder_7d493 14 = .ok (.ireturn, 1) := by decide +kernel
theorem dJ0_isLatin1_aae02_0 : decode cJ0_isLatin1_aae02 0 = .ok (.getstatic 38, 3) := by decide +kernel
theorem dJ0_isLatin1_aae02_3 : decode cJ0_isLatin1_aae02 3 = .ok (.ifCond .eq 14, 3) := by decide +kernel
theorem dJ0_isLatin1_aae02_6 : decode cJ0_isLatin1_aae02 6 = .ok (.aload_n 0, 1) := by decide +kernel
theorem dJ0_isLatin1_aae02_7 : decode cJ0_isLatin1_aae02 7 = .ok (.getfield 15, 3) := by decide +kernel
theorem dJ0_isLatin1_aae02_10 : decode cJ0_isLatin1_aae02 10 = .ok (.ifCond .ne 7, 3) := by decide +kernel
theorem dJ0_isLatin1_aae02_13 : decode cJ0_isLatin1_aae02 13 = .ok (.iconst 1, 1) := by decide +kernel
theorem dJ0_isLatin1_aae02_14 : decode cJ0_isLatin1_aae02 14 = .ok (.goto 4, 3) := by decide +kernel
theorem dJ0_isLatin1_aae02_18 : decode cJ0_isLatin1_aae02 18 = .ok (.ireturn, 1) := by decide +kernel
theorem dJ0_length_8abf5_0 : decode cJ0_length_8abf5 0 = .ok (.aload_n 0, 1) := by decide +kernel
theorem dJ0_length_8abf5_1 : decode cJ0_length_8abf5 1 = .ok (.getfield 9, 3) := by decide +kernel
theorem dJ0_length_8abf5_4 : decode cJ0_length_8abf5 4 = .ok (.arraylength, 1) := by decide +kernel
theorem dJ0_length_8abf5_5 : decode cJ0_length_8abf5 5 = .ok (.aload_n 0, 1) := by decide +kernel
theorem dJ0_length_8abf5_6 : decode cJ0_length_8abf5 6 = .ok (.invokevirtual 335, 3) := by decide +kernel
theorem dJ0_length_8abf5_9 : decode cJ0_length_8abf5 9 = .ok (.ishr, 1) := by decide +kernel
theorem dJ0_length_8abf5_10 : decode cJ0_length_8abf5 10 = .ok (.ireturn, 1) := by decide +kernel
theorem dJ1_charAt_3b067_0 : decode cJ1_charAt_3b067 0 = .ok (.iload_n 1, 1) := by decide +kernel
theorem dJ1_charAt_3b067_1 : decode cJ1_charAt_3b067 1 = .ok (.aload_n 0, 1) := by decide +kernel
theorem dJ1_charAt_3b067_2 : decode cJ1_charAt_3b067 2 = .ok (.arraylength, 1) := by decide +kernel
theorem dJ1_charAt_3b067_3 : decode cJ1_charAt_3b067 3 = .ok (.invokestatic 9, 3) := by decide +kernel
theorem dJ1_charAt_3b067_6 : decode cJ1_charAt_3b067 6 = .ok (.aload_n 0, 1) := by decide +kernel
theorem dJ1_charAt_3b067_7 : decode cJ1_charAt_3b067 7 = .ok (.iload_n 1, 1) := by decide +kernel
theorem dJ1_charAt_3b067_8 : decode cJ1_charAt_3b067 8 = .ok (.baload, 1) := by decide +kernel
theorem dJ1_charAt_3b067_9 : decode cJ1_charAt_3b067 9 = .ok (.sipush 255, 3) := by decide +kernel
theorem dJ1_charAt_3b067_12 : decode cJ1_charAt_3b067 12 = .ok (.iand, 1) := by decide +kernel
theorem dJ1_charAt_3b067_13 : decode cJ1_charAt_3b067 13 = .ok (.i2c, 1) := by decide +kernel
theorem dJ1_charAt_3b067_14 : decode cJ1_charAt_3b067 14 = .ok (.ireturn, 1) := by decide +kernel
set_option maxRecDepth 100000 in
set_option maxHeartbeats 4000000 in
theorem s_coder {α : Nat → Nat} {D : va_G} {κ : Nat → ClassId} (i : Nat) (hi : i < 17) (l : Launch) (sz : Nat) : Met l yJ0_coder_7d493 (Cond.code yJ0_coder_7d493 cJ0_coder_7d493 1 (Option.some Jvm.ClassFile.FieldType.byte) :: q_W) ({ frames := 0, cells := 0, slots := 0, locals := 0 } : Room) (s_Pc α D κ [.ref (α (340 + i))] [] sz) (s_Qp (some (.int 0))) 0 0 (va_A [] sz) := by
  refine Met.ofW (cc := cJ0_coder_7d493) (maxL := 1) (ret := (Option.some Jvm.ClassFile.FieldType.byte)) (by decide) rfl ?_
  intro p e s m args below meth c s₁ B hml hv
  obtain ⟨C, hr, ⟨ls, hle, hl⟩, hP, hD, hS⟩ := s_enter RJ0 rfl (Nat.le_of_ble_eq_true rfl) B hml hv
  obtain rfl : s.heap.size = sz := hv.2.1
  clear hv
  rw [hle]
  generalize va_A [] s.heap.size = A0 at C hD hS ⊢
  have hl : lv_has ls 1 [(0, .ref (α (340 + i)))] := hl
  have C0 := C
  obtain ⟨hx, hb, -, hown, hts, hK, hE, hA, hlocks⟩ := C
  refine va_gets hx hb (hE.2.1.1) hS hown (hts _ jw_fl_80) (fun _ h9 => h9) dJ0_coder_7d493_0 ?_
  refine lv_if_eq hx hb dJ0_coder_7d493_3 (tgt := 13) (by decide) (fun hq9 => absurd hq9 ((by decide : ¬ (1 : Int32) = 0))) (fun _ => ?_)
  refine lv_aload_n hx hb dJ0_coder_7d493_6 rfl (lv_at hl 0 rfl) ?_
  refine vk_getf hx hb ((s_T hE hi).2.1) hS hown (hts _ jw_fl_81) (fun _ h9 => h9) dJ0_coder_7d493_7 ?_
  refine lv_goto hx hb dJ0_coder_7d493_10 (tgt := 14) (by decide) ?_
  exact W.zret (v := 0) hx hb hr (by decide +kernel) (fun t ht hW => ⟨rfl, ht⟩) hS.2.2 dJ0_coder_7d493_14 hlocks
set_option maxRecDepth 100000 in
set_option maxHeartbeats 4000000 in
theorem s_strLatin {α : Nat → Nat} {D : va_G} {κ : Nat → ClassId} (i : Nat) (hi : i < 17) (l : Launch) (sz : Nat) : Met l yJ0_isLatin1_aae02 (Cond.code yJ0_isLatin1_aae02 cJ0_isLatin1_aae02 1 (Option.some Jvm.ClassFile.FieldType.boolean) :: q_W) ({ frames := 0, cells := 0, slots := 0, locals := 0 } : Room) (s_Pc α D κ [.ref (α (340 + i))] [] sz) (s_Qp (some (.int 1))) 0 0 (va_A [] sz) := by
  refine Met.ofW (cc := cJ0_isLatin1_aae02) (maxL := 1) (ret := (Option.some Jvm.ClassFile.FieldType.boolean)) (by decide) rfl ?_
  intro p e s m args below meth c s₁ B hml hv
  obtain ⟨C, hr, ⟨ls, hle, hl⟩, hP, hD, hS⟩ := s_enter RJ0 rfl (Nat.le_of_ble_eq_true rfl) B hml hv
  obtain rfl : s.heap.size = sz := hv.2.1
  clear hv
  rw [hle]
  generalize va_A [] s.heap.size = A0 at C hD hS ⊢
  have hl : lv_has ls 1 [(0, .ref (α (340 + i)))] := hl
  have C0 := C
  obtain ⟨hx, hb, -, hown, hts, hK, hE, hA, hlocks⟩ := C
  refine va_gets hx hb (hE.2.1.1) hS hown (hts _ jw_fl_80) (fun _ h9 => h9) dJ0_isLatin1_aae02_0 ?_
  refine lv_if_eq hx hb dJ0_isLatin1_aae02_3 (tgt := 17) (by decide) (fun hq9 => absurd hq9 ((by decide : ¬ (1 : Int32) = 0))) (fun _ => ?_)
  refine lv_aload_n hx hb dJ0_isLatin1_aae02_6 rfl (lv_at hl 0 rfl) ?_
  refine vk_getf hx hb ((s_T hE hi).2.1) hS hown (hts _ jw_fl_81) (fun _ h9 => h9) dJ0_isLatin1_aae02_7 ?_
  refine lv_if_ne hx hb dJ0_isLatin1_aae02_10 (tgt := 17) (by decide) (fun hq9 => absurd ((by decide : (0 : Int32) = 0)) hq9) (fun _ => ?_)
  refine lv_iconst hx hb dJ0_isLatin1_aae02_13 (by decide : Int32.ofInt 1 = 1) ?_
  refine lv_goto hx hb dJ0_isLatin1_aae02_14 (tgt := 18) (by decide) ?_
  exact W.zret (v := 1) hx hb hr (by decide +kernel) (fun t ht hW => ⟨rfl, ht⟩) hS.2.2 dJ0_isLatin1_aae02_18 hlocks
set_option maxRecDepth 100000 in
set_option maxHeartbeats 4000000 in
theorem s_strLen {α : Nat → Nat} {D : va_G} {κ : Nat → ClassId} (i : Nat) (hi : i < 17) (l : Launch) (sz : Nat) : Met l yJ0_length_8abf5 (Cond.code yJ0_length_8abf5 cJ0_length_8abf5 1 (Option.some Jvm.ClassFile.FieldType.int) :: q_W) ({ frames := 1, cells := 0, slots := 0, locals := 20 } : Room) (s_Pc α D κ [.ref (α (340 + i))] [] sz) (s_Qp (some (.int (nI (q_tl α i))))) 0 0 (va_A [] sz) := by
  refine Met.ofW (cc := cJ0_length_8abf5) (maxL := 1) (ret := (Option.some Jvm.ClassFile.FieldType.int)) (by decide) rfl ?_
  intro p e s m args below meth c s₁ B hml hv
  obtain ⟨C, hr, ⟨ls, hle, hl⟩, hP, hD, hS⟩ := s_enter RJ0 rfl (Nat.le_of_ble_eq_true rfl) B hml hv
  obtain rfl : s.heap.size = sz := hv.2.1
  clear hv
  rw [hle]
  generalize va_A [] s.heap.size = A0 at C hD hS ⊢
  have hl : lv_has ls 1 [(0, .ref (α (340 + i)))] := hl
  have C0 := C
  obtain ⟨hx, hb, -, hown, hts, hK, hE, hA, hlocks⟩ := C
  refine lv_aload_n hx hb dJ0_length_8abf5_0 rfl (lv_at hl 0 rfl) ?_
  refine vk_getf hx hb ((s_T hE hi).2.2.1) hS hown (hts _ jw_fl_82) (fun _ h9 => h9) dJ0_length_8abf5_1 ?_
  refine va_tlen hx hb ((s_T hE hi).2.2.2) hS (v := nI (q_tl α i)) rfl dJ0_length_8abf5_4 ?_
  refine lv_aload_n hx hb dJ0_length_8abf5_5 rfl (lv_at hl 0 rfl) ?_
  refine s_callp (v := some (.int 0)) (s_runK C0 (n := 0) (wc := []) (As := []) (rest := [.int (nI (q_tl α i))]) jw_ml_83 jw_se_84 jw_in_85 jw_ii_56 jw_co_86 (by decide +kernel) rfl hi (s_coder (α := α) (D := D) (κ := κ) i hi l s.heap.size) hP hD hS [] rfl rfl (by decide) rfl rfl dJ0_length_8abf5_6 hl rfl (Nat.le_of_ble_eq_true rfl) ⟨(Nat.le_of_ble_eq_true rfl), (Nat.le_of_ble_eq_true rfl)⟩ ⟨(by show 0 + 0 ≤ 0; omega), (by show 0 + 0 ≤ 0; omega)⟩) hS (s_free C0 (wc := []) hD hS [] rfl) (fun locs hS => ?_)
  refine W.eq (g2 := F0 m 9 ls [.int 0, .int (nI (q_tl α i))]) rfl ?_
  refine lv_ishr hx hb dJ0_length_8abf5_9 ?_
  refine lv_topi (fun x1 hx2 => ?_)
  obtain rfl : x1 = nI (q_tl α i) := by rw [hx2]; exact (sb_shr0 _)
  exact W.iret (v := nI (q_tl α i)) hx hb hr (fun t ht hW => ⟨rfl, ht⟩) hS.2.2 dJ0_length_8abf5_10 hlocks
set_option maxRecDepth 100000 in
set_option maxHeartbeats 4000000 in
theorem s_l1At {α : Nat → Nat} {D : va_G} {κ : Nat → ClassId} (i j : Nat) (hi : i < 17) (hj : j < q_tl α i) (l : Launch) (sz : Nat) : Met l yJ1_charAt_3b067 (Cond.code yJ1_charAt_3b067 cJ1_charAt_3b067 2 (Option.some Jvm.ClassFile.FieldType.char) :: q_W) ({ frames := 2, cells := 0, slots := 0, locals := 45 } : Room) (s_Pc α D κ [.ref (α (360 + i)), .int (nI j)] [] sz) (s_Qp (some (.int (q_tc α i j)))) 0 0 (va_A [] sz) := by
  refine Met.ofW (cc := cJ1_charAt_3b067) (maxL := 2) (ret := (Option.some Jvm.ClassFile.FieldType.char)) (by decide) rfl ?_
  intro p e s m args below meth c s₁ B hml hv
  obtain ⟨C, hr, ⟨ls, hle, hl⟩, hP, hD, hS⟩ := s_enter RJ1 rfl (Nat.le_of_ble_eq_true rfl) B hml hv
  obtain rfl : s.heap.size = sz := hv.2.1
  clear hv
  rw [hle]
  generalize va_A [] s.heap.size = A0 at C hD hS ⊢
  have hl : lv_has ls 2 [(0, .ref (α (360 + i))), (1, .int (nI j))] := hl
  have C0 := C
  obtain ⟨hx, hb, -, hown, hts, hK, hE, hA, hlocks⟩ := C
  have hl9 := s_tlt hE hi
  refine lv_iload_n hx hb dJ1_charAt_3b067_0 rfl (lv_at hl 1 rfl) ?_
  refine lv_aload_n hx hb dJ1_charAt_3b067_1 rfl (lv_at hl 0 rfl) ?_
  refine va_tlen hx hb ((s_T hE hi).2.2.2) hS (v := nI (q_tl α i)) rfl dJ1_charAt_3b067_2 ?_
  refine s_callp (v := none) (s_runS C0 (n := 2) (wc := []) (As := [.int (nI j), .int (nI (q_tl α i))]) (rest := []) jw_ml_87 jw_st_55 jw_ii_56 jw_co_57 (by decide +kernel) (s_checkIndex (α := α) (D := D) (κ := κ) j (q_tl α i) hj (by omega) l s.heap.size) hP hD hS [] rfl rfl (by decide) rfl dJ1_charAt_3b067_3 hl rfl (Nat.le_of_ble_eq_true rfl) ⟨(Nat.le_of_ble_eq_true rfl), (Nat.le_of_ble_eq_true rfl)⟩ ⟨(by show 0 + 0 ≤ 0; omega), (by show 0 + 0 ≤ 0; omega)⟩) hS (s_free C0 (wc := []) hD hS [] rfl) (fun locs hS => ?_)
  refine W.eq (g2 := F0 m 6 ls []) rfl ?_
  refine lv_aload_n hx hb dJ1_charAt_3b067_6 rfl (lv_at hl 0 rfl) ?_
  refine lv_iload_n hx hb dJ1_charAt_3b067_7 rfl (lv_at hl 1 rfl) ?_
  refine va_tb hx hb ((s_T hE hi).2.2.2) hS (vp_in_nI hj (by omega)) (v := .int (q_tc α i j)) (by show Value.int (q_tc α i (nI j).toNatClampNeg) = _; rw [nI_clamp (n := j) (by omega)]) dJ1_charAt_3b067_8 ?_
  refine lv_sipush hx hb dJ1_charAt_3b067_9 (by decide : (Int16.ofInt 255).toInt32 = 255) ?_
  refine lv_iand hx hb dJ1_charAt_3b067_12 ?_
  refine lv_topi (fun x1 hx2 => ?_)
  obtain rfl : x1 = q_tc α i j := by rw [hx2]; exact ((s_tok hE hi hj).1)
  refine lv_i2c hx hb dJ1_charAt_3b067_13 (s_tok hE hi hj).2.1 ?_
  exact W.zret (v := q_tc α i j) hx hb hr ((s_tok hE hi hj).2.2) (fun t ht hW => ⟨rfl, ht⟩) hS.2.2 dJ1_charAt_3b067_14 hlocks
set_option maxRecDepth 100000 in
set_option maxHeartbeats 4000000 in
theorem s_strAt {α : Nat → Nat} {D : va_G} {κ : Nat → ClassId} (i j : Nat) (hi : i < 17) (hj : j < q_tl α i) (l : Launch) (sz : Nat) : Met l yJ0_charAt_5068e (Cond.code yJ0_charAt_5068e cJ0_charAt_5068e 2 (Option.some Jvm.ClassFile.FieldType.char) :: q_W) ({ frames := 3, cells := 0, slots := 0, locals := 70 } : Room) (s_Pc α D κ [.ref (α (340 + i)), .int (nI j)] [] sz) (s_Qp (some (.int (q_tc α i j)))) 0 0 (va_A [] sz) := by
  refine Met.ofW (cc := cJ0_charAt_5068e) (maxL := 2) (ret := (Option.some Jvm.ClassFile.FieldType.char)) (by decide) rfl ?_
  intro p e s m args below meth c s₁ B hml hv
  obtain ⟨C, hr, ⟨ls, hle, hl⟩, hP, hD, hS⟩ := s_enter RJ0 rfl (Nat.le_of_ble_eq_true rfl) B hml hv
  obtain rfl : s.heap.size = sz := hv.2.1
  clear hv
  rw [hle]
  generalize va_A [] s.heap.size = A0 at C hD hS ⊢
  have hl : lv_has ls 2 [(0, .ref (α (340 + i))), (1, .int (nI j))] := hl
  have C0 := C
  obtain ⟨hx, hb, -, hown, hts, hK, hE, hA, hlocks⟩ := C
  refine lv_aload_n hx hb dJ0_charAt_5068e_0 rfl (lv_at hl 0 rfl) ?_
  refine s_callp (v := some (.int 1)) (s_runK C0 (n := 0) (wc := []) (As := []) (rest := []) jw_ml_88 jw_se_89 jw_in_90 jw_ii_56 jw_co_91 (by decide +kernel) rfl hi (s_strLatin (α := α) (D := D) (κ := κ) i hi l s.heap.size) hP hD hS [] rfl rfl (by decide) rfl rfl dJ0_charAt_5068e_1 hl rfl (Nat.le_of_ble_eq_true rfl) ⟨(Nat.le_of_ble_eq_true rfl), (Nat.le_of_ble_eq_true rfl)⟩ ⟨(by show 0 + 0 ≤ 0; omega), (by show 0 + 0 ≤ 0; omega)⟩) hS (s_free C0 (wc := []) hD hS [] rfl) (fun locs hS => ?_)
  refine W.eq (g2 := F0 m 4 ls [.int 1]) rfl ?_
  refine lv_if_eq hx hb dJ0_charAt_5068e_4 (tgt := 16) (by decide) (fun hq9 => absurd hq9 ((by decide : ¬ (1 : Int32) = 0))) (fun _ => ?_)
  refine lv_aload_n hx hb dJ0_charAt_5068e_7 rfl (lv_at hl 0 rfl) ?_
  refine vk_getf hx hb ((s_T hE hi).2.2.1) hS hown (hts _ jw_fl_82) (fun _ h9 => h9) dJ0_charAt_5068e_8 ?_
  refine lv_iload_n hx hb dJ0_charAt_5068e_11 rfl (lv_at hl 1 rfl) ?_
  refine s_callp (v := some (.int (q_tc α i j))) (s_runS C0 (n := 2) (wc := []) (As := [.ref (α (360 + i)), .int (nI j)]) (rest := []) jw_ml_92 jw_st_93 jw_ii_44 jw_co_94 (by decide +kernel) (s_l1At (α := α) (D := D) (κ := κ) i j hi hj l s.heap.size) hP hD hS [] rfl rfl (by decide) rfl dJ0_charAt_5068e_12 hl rfl (Nat.le_of_ble_eq_true rfl) ⟨(Nat.le_of_ble_eq_true rfl), (Nat.le_of_ble_eq_true rfl)⟩ ⟨(by show 0 + 0 ≤ 0; omega), (by show 0 + 0 ≤ 0; omega)⟩) hS (s_free C0 (wc := []) hD hS [] rfl) (fun locs hS => ?_)
  refine W.eq (g2 := F0 m 15 ls [.int (q_tc α i j)]) rfl ?_
  exact W.zret (v := q_tc α i j) hx hb hr ((s_tok hE hi hj).2.2) (fun t ht hW => ⟨rfl, ht⟩) hS.2.2 dJ0_charAt_5068e_15 hlocks
