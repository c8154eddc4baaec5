def c_hb (β : Nat → Nat) (κ : Nat → ClassId) (h r : Nat) (A : Nat → Nat → Nat) : va_W := (((((((([(h, .inr (4, [.ref r, .int 0, .int 0])), (r, .inl (κ 5, 8, .inr (.inr (.inr (.inr (fun i => some (A i 0)))))))] ++ c_rb β κ (A 0)) ++ c_rb β κ (A 1)) ++ c_rb β κ (A 2)) ++ c_rb β κ (A 3)) ++ c_rb β κ (A 4)) ++ c_rb β κ (A 5)) ++ c_rb β κ (A 6)) ++ c_rb β κ (A 7))
def c_pb (β : Nat → Nat) (κ : Nat → ClassId) (h t b g : Nat) : va_W := [(h, .inr (5, [.ref t, .ref g, .int 0, .int 0, .int 0, .ref (β 20)])), (t, .inr (1, [.ref b, .int 0, .int 0, .int 0])), (b, .inl (κ 1, 16, .inl (fun _ => 0))), (g, .inl (κ 0, 3, .inl (fun _ => 0)))]
def c_sb (κ : Nat → ClassId) (h b : Nat) : va_W := [(h, .inr (1, [.ref b, .int 0, .int 0, .int 0])), (b, .inl (κ 1, 16, .inl (fun _ => 0)))]
abbrev c_fs (β : Nat → Nat) (A : Nat → Nat → Nat) (g : Nat → Nat) : List Value := [.ref (A 0 0), .ref (A 1 0), .ref (A 2 0), .ref (g 221), .ref (g 223), .ref (g 226), .int 0, .int 0, .int (-1), .int (-1), .int (-1)]
def c_qb (β : Nat → Nat) (κ : Nat → ClassId) (A : Nat → Nat → Nat) (g : Nat → Nat) : va_W := (((((([(g 220, .inr (8, c_fs β A g))] ++ c_rb β κ (A 0)) ++ c_rb β κ (A 1)) ++ c_rb β κ (A 2)) ++ c_hb β κ (g 221) (g 222) (fun i => A (i + 3))) ++ c_pb β κ (g 223) (g 225) (g 227) (g 224)) ++ c_sb κ (g 226) (g 228))
set_option maxRecDepth 100000 in
theorem ji_ml_47 : Cond.methodLink RX8 1 Lib.objectInit ∈ q_W := q_t4 123 rfl rfl
set_option maxRecDepth 100000 in
theorem ji_cl_48 : Cond.classLink RX8 7 "QuillRelay$Race" ∈ q_W := q_t4 124 rfl rfl
set_option maxRecDepth 100000 in
theorem ji_ml_49 : Cond.methodLink RX8 9 yX4_init ∈ q_W := q_t4 125 rfl rfl
set_option maxRecDepth 100000 in
theorem ji_fl_50 : Cond.fieldLink RX8 10 "QuillRelay" "race" "LQuillRelay$Race;" ∈ q_W := q_t5 30 rfl rfl
set_option maxRecDepth 100000 in
theorem ji_fl_51 : Cond.fieldLink RX8 16 "QuillRelay" "before" "LQuillRelay$Race;" ∈ q_W := q_t5 31 rfl rfl
set_option maxRecDepth 100000 in
theorem ji_fl_52 : Cond.fieldLink RX8 19 "QuillRelay" "snapshot" "LQuillRelay$Race;" ∈ q_W := q_t5 32 rfl rfl
set_option maxRecDepth 100000 in
theorem ji_cl_53 : Cond.classLink RX8 22 "QuillRelay$History" ∈ q_W := q_t4 215 rfl rfl
set_option maxRecDepth 100000 in
theorem ji_is_54 : Cond.instantiable "QuillRelay$History" 3 ∈ q_W := q_t4 216 rfl rfl
set_option maxRecDepth 100000 in
theorem ji_ii_55 : Cond.initialized "QuillRelay$History" ∈ q_W := q_t1 6 rfl rfl
set_option maxRecDepth 100000 in
theorem ji_ml_56 : Cond.methodLink RX8 24 yX2_init ∈ q_W := q_t4 217 rfl rfl
set_option maxRecDepth 100000 in
theorem ji_in_57 : Cond.instanceMethod yX2_init ∈ q_W := q_t4 218 rfl rfl
set_option maxRecDepth 100000 in
theorem ji_co_58 : Cond.code yX2_init cX2_init 2 (Option.none : Option Jvm.ClassFile.FieldType) ∈ q_W := q_t4 219 rfl rfl
set_option maxRecDepth 100000 in
theorem ji_fl_59 : Cond.fieldLink RX8 25 "QuillRelay" "history" "LQuillRelay$History;" ∈ q_W := q_t5 33 rfl rfl
set_option maxRecDepth 100000 in
theorem ji_cl_60 : Cond.classLink RX8 29 "QuillRelay$Program" ∈ q_W := q_t4 235 rfl rfl
set_option maxRecDepth 100000 in
theorem ji_is_61 : Cond.instantiable "QuillRelay$Program" 6 ∈ q_W := q_t4 236 rfl rfl
set_option maxRecDepth 100000 in
theorem ji_ii_62 : Cond.initialized "QuillRelay$Program" ∈ q_W := q_t1 7 rfl rfl
set_option maxRecDepth 100000 in
theorem ji_ml_63 : Cond.methodLink RX8 31 yX3_init ∈ q_W := q_t4 237 rfl rfl
set_option maxRecDepth 100000 in
theorem ji_in_64 : Cond.instanceMethod yX3_init ∈ q_W := q_t4 238 rfl rfl
set_option maxRecDepth 100000 in
theorem ji_co_65 : Cond.code yX3_init cX3_init 1 (Option.none : Option Jvm.ClassFile.FieldType) ∈ q_W := q_t4 239 rfl rfl
set_option maxRecDepth 100000 in
theorem ji_fl_66 : Cond.fieldLink RX8 32 "QuillRelay" "program" "LQuillRelay$Program;" ∈ q_W := q_t5 34 rfl rfl
set_option maxRecDepth 100000 in
theorem ji_cl_67 : Cond.classLink RX8 36 "java/lang/StringBuilder" ∈ q_W := q_t5 28 rfl rfl
set_option maxRecDepth 100000 in
theorem ji_ml_68 : Cond.methodLink RX8 38 yJ4_init_da8c8 ∈ q_W := q_t5 29 rfl rfl
set_option maxRecDepth 100000 in
theorem ji_fl_69 : Cond.fieldLink RX8 39 "QuillRelay" "banner" "Ljava/lang/StringBuilder;" ∈ q_W := q_t5 35 rfl rfl
set_option maxRecDepth 100000 in
theorem ji_fl_70 : Cond.fieldLink RX8 43 "QuillRelay" "snapshotTaken" "Z" ∈ q_W := q_t5 36 rfl rfl
set_option maxRecDepth 100000 in
theorem ji_fl_71 : Cond.fieldLink RX8 47 "QuillRelay" "lastReason" "I" ∈ q_W := q_t5 37 rfl rfl
set_option maxRecDepth 100000 in
theorem ji_fl_72 : Cond.fieldLink RX8 51 "QuillRelay" "lastRefusedTeam" "I" ∈ q_W := q_t5 38 rfl rfl
set_option maxRecDepth 100000 in
theorem ji_fl_73 : Cond.fieldLink RX8 54 "QuillRelay" "lastError" "I" ∈ q_W := q_t5 39 rfl rfl
set_option maxRecDepth 100000 in
theorem ji_fl_74 : Cond.fieldLink RX8 57 "QuillRelay" "lastFailure" "I" ∈ q_W := q_t5 40 rfl rfl
theorem dX8_init_0 : decode cX8_init 0 = .ok (.aload_n 0, 1) := by decide +kernel
theorem dX8_init_1 : decode cX8_init 1 = .ok (.invokespecial 1, 3) := by decide +kernel
theorem dX8_init_4 : decode cX8_init 4 = .ok (.aload_n 0, 1) := by decide +kernel
theorem dX8_init_5 : decode cX8_init 5 = .ok (.new 7, 3) := by decide +kernel
theorem dX8_init_8 : decode cX8_init 8 = .ok (.dup, 1) := by decide +kernel
theorem dX8_init_9 : decode cX8_init 9 = .ok (.invokespecial 9, 3) := by decide +kernel
theorem dX8_init_12 : decode cX8_init 12 = .ok (.putfield 10, 3) := by decide +kernel
theorem dX8_init_15 : decode cX8_init 15 = .ok (.aload_n 0, 1) := by decide +kernel
theorem dX8_init_16 : decode cX8_init 16 = .ok (.new 7, 3) := by decide +kernel
theorem dX8_init_19 : decode cX8_init 19 = .ok (.dup, 1) := by decide +kernel
theorem dX8_init_20 : decode cX8_init 20 = .ok (.invokespecial 9, 3) := by decide +kernel
theorem dX8_init_23 : decode cX8_init 23 = .ok (.putfield 16, 3) := by decide +kernel
theorem dX8_init_26 : decode cX8_init 26 = .ok (.aload_n 0, 1) := by decide +kernel
theorem dX8_init_27 : decode cX8_init 27 = .ok (.new 7, 3) := by decide +kernel
theorem dX8_init_30 : decode cX8_init 30 = .ok (.dup, 1) := by decide +kernel
theorem dX8_init_31 : decode cX8_init 31 = .ok (.invokespecial 9, 3) := by decide +kernel
theorem dX8_init_34 : decode cX8_init 34 = .ok (.putfield 19, 3) := by decide +kernel
theorem dX8_init_37 : decode cX8_init 37 = .ok (.aload_n 0, 1) := by decide +kernel
theorem dX8_init_38 : decode cX8_init 38 = .ok (.new 22, 3) := by decide +kernel
theorem dX8_init_41 : decode cX8_init 41 = .ok (.dup, 1) := by decide +kernel
theorem dX8_init_42 : decode cX8_init 42 = .ok (.invokespecial 24, 3) := by decide +kernel
theorem dX8_init_45 : decode cX8_init 45 = .ok (.putfield 25, 3) := by decide +kernel
theorem dX8_init_48 : decode cX8_init 48 = .ok (.aload_n 0, 1) := by decide +kernel
theorem dX8_init_49 : decode cX8_init 49 = .ok (.new 29, 3) := by decide +kernel
theorem dX8_init_52 : decode cX8_init 52 = .ok (.dup, 1) := by decide +kernel
theorem dX8_init_53 : decode cX8_init 53 = .ok (.invokespecial 31, 3) := by decide +kernel
theorem dX8_init_56 : decode cX8_init 56 = .ok (.putfield 32, 3) := by decide +kernel
theorem dX8_init_59 : decode cX8_init 59 = .ok (.aload_n 0, 1) := by decide +kernel
theorem dX8_init_60 : decode cX8_init 60 = .ok (.new 36, 3) := by decide +kernel
theorem dX8_init_63 : decode cX8_init 63 = .ok (.dup, 1) := by decide +kernel
theorem dX8_init_64 : decode cX8_init 64 = .ok (.invokespecial 38, 3) := by decide +kernel
theorem dX8_init_67 : decode cX8_init 67 = .ok (.putfield 39, 3) := by decide +kernel
theorem dX8_init_70 : decode cX8_init 70 = .ok (.aload_n 0, 1) := by decide +kernel
theorem dX8_init_71 : decode cX8_init 71 = .ok (.iconst 0, 1) := by decide +kernel
theorem dX8_init_72 : decode cX8_init 72 = .ok (.putfield 43, 3) := by decide +kernel
theorem dX8_init_75 : decode cX8_init 75 = .ok (.aload_n 0, 1) := by decide +kernel
theorem dX8_init_76 : decode cX8_init 76 = .ok (.iconst 0, 1) := by decide +kernel
theorem dX8_init_77 : decode cX8_init 77 = .ok (.putfield 47, 3) := by decide +kernel
theorem dX8_init_80 : decode cX8_init 80 = .ok (.aload_n 0, 1) := by decide +kernel
theorem dX8_init_81 : decode cX8_init 81 = .ok (.iconst (-1), 1) := by decide +kernel
theorem dX8_init_82 : decode cX8_init 82 = .ok (.putfield 51, 3) := by decide +kernel
theorem dX8_init_85 : decode cX8_init 85 = .ok (.aload_n 0, 1) := by decide +kernel
theorem dX8_init_86 : decode cX8_init 86 = .ok (.iconst (-1), 1) := by decide +kernel
theorem dX8_init_87 : decode cX8_init 87 = .ok (.putfield 54, 3) := by decide +kernel
theorem dX8_init_90 : decode cX8_init 90 = .ok (.aload_n 0, 1) := by decide +kernel
theorem dX8_init_91 : decode cX8_init 91 = .ok (.iconst (-1), 1) := by decide +kernel
theorem dX8_init_92 : decode cX8_init 92 = .ok (.putfield 57, 3) := by decide +kernel
theorem dX8_init_95 : decode cX8_init 95 = .ok (.return_, 1) := by decide +kernel
set_option maxRecDepth 100000 in
set_option maxHeartbeats 4000000 in
theorem c_initQ {α β : Nat → Nat} {D : va_G} {κ : Nat → ClassId} (h : Nat) (l : Launch) (sz : Nat) : Met l yX8_init (Cond.code yX8_init cX8_init 1 (Option.none : Option Jvm.ClassFile.FieldType) :: q_W) ({ frames := 4, cells := 228, slots := 1622, locals := 100 } : Room) (c_Pc α β D κ [.ref h] [(h, .inr (8, [.null, .null, .null, .null, .null, .null, .int 0, .int 0, .int 0, .int 0, .int 0]))] sz) (va_Qv (fun u : (Nat → Nat → Nat) × (Nat → Nat) => u.2 220 = h) (fun u t => va_P D vwCl (c_qb β κ u.1 u.2) t.heap ∧ va_D (va_A [(h, .inr (8, [.null, .null, .null, .null, .null, .null, .int 0, .int 0, .int 0, .int 0, .int 0]))] sz) (c_qb β κ u.1 u.2)) (va_A [(h, .inr (8, [.null, .null, .null, .null, .null, .null, .int 0, .int 0, .int 0, .int 0, .int 0]))] sz)) 228 1622 (va_A [(h, .inr (8, [.null, .null, .null, .null, .null, .null, .int 0, .int 0, .int 0, .int 0, .int 0]))] sz) := by
  refine Met.ofW (cc := cX8_init) (maxL := 1) (ret := (Option.none : Option Jvm.ClassFile.FieldType)) (by decide) rfl ?_
  intro p e s m args below meth c s₁ B hml hv
  obtain ⟨C, hr, ⟨ls, hle, hl⟩, hP, hD, hS⟩ := c_enter RX8 rfl (Nat.le_of_ble_eq_true rfl) B hml hv
  obtain rfl : s.heap.size = sz := hv.2.1
  clear hv
  have hin : meth.name = "<init>" := (name_of_methodNamed B.named B.method).1
  rw [hle]
  generalize va_A [(h, .inr (8, [.null, .null, .null, .null, .null, .null, .int 0, .int 0, .int 0, .int 0, .int 0]))] s.heap.size = A0 at C hD hS ⊢
  have hl : lv_has ls 1 [(0, .ref h)] := hl
  have C0 := C
  obtain ⟨hx, hb, -, hown, hts, hK, ⟨hE, hAO6, hAO4⟩, hA, hlocks⟩ := C
  refine lv_aload_n hx hb dX8_init_0 rfl (lv_at hl 0 rfl) ?_
  refine W.objInit hx hb hown (hts _ ji_ml_47) (hts _ ji_in_1) (hts _ ji_co_2) rfl (by rw [C0.2.2.1]; exact hl.1) rfl dX8_init_1 (Nat.le_of_ble_eq_true rfl) (Nat.le_of_ble_eq_true rfl) ?_
  refine W.eq (g2 := F0 m 4 ls []) rfl ?_
  refine lv_aload_n hx hb dX8_init_4 rfl (lv_at hl 0 rfl) ?_
  refine va_new (ci := 6) (fs := [.null, .int 0, .int 0, .int 0]) (C := RX4) (T := TX4) (N := 4) hx hb hts q_u_X4 tyX4 tyX4_ok hown (hts _ ji_cl_48) (hts _ ji_is_42) (hts _ ji_ii_43) hK hP hD hS hA rfl (fun j hj => by rcases (show j = 0 ∨ j = 1 ∨ j = 2 ∨ j = 3 by omega) with rfl | rfl | rfl | rfl <;> rfl) (by show 0 + 1 ≤ 228; omega) (by show 0 + 4 ≤ 1622; omega) dX8_init_5 (fun q1 H hP hD hS => ?_)
  have hP : va_P D vwCl ([(h, .inr (8, [.null, .null, .null, .null, .null, .null, .int 0, .int 0, .int 0, .int 0, .int 0]))] ++ [(q1, .inr (6, [.null, .int 0, .int 0, .int 0]))]) H := hP
  have hD : va_D A0 ([(h, .inr (8, [.null, .null, .null, .null, .null, .null, .int 0, .int 0, .int 0, .int 0, .int 0]))] ++ [(q1, .inr (6, [.null, .int 0, .int 0, .int 0]))]) := hD
  refine lv_dup hx hb dX8_init_8 rfl ?_
  have hfree := c_free C0 hD hS
  refine va_callv (c_runI C0 (n := 0) (As := []) (rest := [.ref q1, .ref h]) ji_ml_49 ji_in_45 ji_ii_43 ji_co_46 rfl (by decide +kernel) (c_initR (α := α) (β := β) (D := D) (κ := κ) q1 l H.size) hP hD hS rfl rfl dX8_init_9 hl (Nat.le_of_ble_eq_true rfl) ⟨(Nat.le_of_ble_eq_true rfl), (Nat.le_of_ble_eq_true rfl)⟩ ⟨(by show 0 + 1 + 19 ≤ 228; omega), (by show 0 + 4 + 138 ≤ 1622; omega)⟩) hS (fun q _ hq => hfree q hq) hfree (fun a0 t H locs ht hvm hpost hB hz hk hS => ?_)
  obtain ⟨hP1, hD1⟩ := hB
  rw [ht] at hP1
  obtain ⟨hP, hD⟩ := c_join hP hD hk hfree hP1 hD1
  have g0 := hpost
  have hP : va_P D vwCl ([(h, .inr (8, [.null, .null, .null, .null, .null, .null, .int 0, .int 0, .int 0, .int 0, .int 0]))] ++ c_rb β κ a0) H := hP
  have hD : va_D A0 ([(h, .inr (8, [.null, .null, .null, .null, .null, .null, .int 0, .int 0, .int 0, .int 0, .int 0]))] ++ c_rb β κ a0) := hD
  refine W.eq (g2 := F0 m 12 ls [.ref q1, .ref h]) rfl ?_
  refine va_putF (ty := (.object "QuillRelay$Race")) (ci := 8) (C := RX8) (T := TX8) (N := 11) hx hb hts q_u_X8 tyX8 tyX8_ok nmX8 hown hK hP hD hS 0 rfl rfl 0 (by decide) (hts _ ji_fl_50) (fun _ h9 => h9) rfl hin rfl (by decide +kernel) rfl rfl (Nat.le_of_ble_eq_true rfl) dX8_init_12 (fun H locs hP hD hS => ?_)
  have hP : va_P D vwCl ([(h, .inr (8, [.ref q1, .null, .null, .null, .null, .null, .int 0, .int 0, .int 0, .int 0, .int 0]))] ++ c_rb β κ a0) H := hP
  have hD : va_D A0 ([(h, .inr (8, [.ref q1, .null, .null, .null, .null, .null, .int 0, .int 0, .int 0, .int 0, .int 0]))] ++ c_rb β κ a0) := hD
  refine lv_aload_n hx hb dX8_init_15 rfl (lv_at hl 0 rfl) ?_
  refine va_new (ci := 6) (fs := [.null, .int 0, .int 0, .int 0]) (C := RX4) (T := TX4) (N := 4) hx hb hts q_u_X4 tyX4 tyX4_ok hown (hts _ ji_cl_48) (hts _ ji_is_42) (hts _ ji_ii_43) hK hP hD hS hA rfl (fun j hj => by rcases (show j = 0 ∨ j = 1 ∨ j = 2 ∨ j = 3 by omega) with rfl | rfl | rfl | rfl <;> rfl) (by show 0 + 1 + 19 + 1 ≤ 228; omega) (by show 0 + 4 + 138 + 4 ≤ 1622; omega) dX8_init_16 (fun q2 H hP hD hS => ?_)
  have hP : va_P D vwCl (([(h, .inr (8, [.ref q1, .null, .null, .null, .null, .null, .int 0, .int 0, .int 0, .int 0, .int 0]))] ++ c_rb β κ a0) ++ [(q2, .inr (6, [.null, .int 0, .int 0, .int 0]))]) H := hP
  have hD : va_D A0 (([(h, .inr (8, [.ref q1, .null, .null, .null, .null, .null, .int 0, .int 0, .int 0, .int 0, .int 0]))] ++ c_rb β κ a0) ++ [(q2, .inr (6, [.null, .int 0, .int 0, .int 0]))]) := hD
  refine lv_dup hx hb dX8_init_19 rfl ?_
  have hfree := c_free C0 hD hS
  refine va_callv (c_runI C0 (n := 0) (As := []) (rest := [.ref q2, .ref h]) ji_ml_49 ji_in_45 ji_ii_43 ji_co_46 rfl (by decide +kernel) (c_initR (α := α) (β := β) (D := D) (κ := κ) q2 l H.size) hP hD hS rfl rfl dX8_init_20 hl (Nat.le_of_ble_eq_true rfl) ⟨(Nat.le_of_ble_eq_true rfl), (Nat.le_of_ble_eq_true rfl)⟩ ⟨(by show 0 + 1 + 19 + 1 + 19 ≤ 228; omega), (by show 0 + 4 + 138 + 4 + 138 ≤ 1622; omega)⟩) hS (fun q _ hq => hfree q hq) hfree (fun a1 t H locs ht hvm hpost hB hz hk hS => ?_)
  obtain ⟨hP1, hD1⟩ := hB
  rw [ht] at hP1
  obtain ⟨hP, hD⟩ := c_join hP hD hk hfree hP1 hD1
  have g1 := hpost
  have hP : va_P D vwCl ([(h, .inr (8, [.ref q1, .null, .null, .null, .null, .null, .int 0, .int 0, .int 0, .int 0, .int 0]))] ++ c_rb β κ a0 ++ c_rb β κ a1) H := hP
  have hD : va_D A0 ([(h, .inr (8, [.ref q1, .null, .null, .null, .null, .null, .int 0, .int 0, .int 0, .int 0, .int 0]))] ++ c_rb β κ a0 ++ c_rb β κ a1) := hD
  refine W.eq (g2 := F0 m 23 ls [.ref q2, .ref h]) rfl ?_
  refine va_putF (ty := (.object "QuillRelay$Race")) (ci := 8) (C := RX8) (T := TX8) (N := 11) hx hb hts q_u_X8 tyX8 tyX8_ok nmX8 hown hK hP hD hS 0 rfl rfl 1 (by decide) (hts _ ji_fl_51) (fun _ h9 => h9) rfl hin rfl (by decide +kernel) rfl rfl (Nat.le_of_ble_eq_true rfl) dX8_init_23 (fun H locs hP hD hS => ?_)
  have hP : va_P D vwCl ([(h, .inr (8, [.ref q1, .ref q2, .null, .null, .null, .null, .int 0, .int 0, .int 0, .int 0, .int 0]))] ++ c_rb β κ a0 ++ c_rb β κ a1) H := hP
  have hD : va_D A0 ([(h, .inr (8, [.ref q1, .ref q2, .null, .null, .null, .null, .int 0, .int 0, .int 0, .int 0, .int 0]))] ++ c_rb β κ a0 ++ c_rb β κ a1) := hD
  refine lv_aload_n hx hb dX8_init_26 rfl (lv_at hl 0 rfl) ?_
  refine va_new (ci := 6) (fs := [.null, .int 0, .int 0, .int 0]) (C := RX4) (T := TX4) (N := 4) hx hb hts q_u_X4 tyX4 tyX4_ok hown (hts _ ji_cl_48) (hts _ ji_is_42) (hts _ ji_ii_43) hK hP hD hS hA rfl (fun j hj => by rcases (show j = 0 ∨ j = 1 ∨ j = 2 ∨ j = 3 by omega) with rfl | rfl | rfl | rfl <;> rfl) (by show 0 + 1 + 19 + 1 + 19 + 1 ≤ 228; omega) (by show 0 + 4 + 138 + 4 + 138 + 4 ≤ 1622; omega) dX8_init_27 (fun q3 H hP hD hS => ?_)
  have hP : va_P D vwCl (([(h, .inr (8, [.ref q1, .ref q2, .null, .null, .null, .null, .int 0, .int 0, .int 0, .int 0, .int 0]))] ++ c_rb β κ a0 ++ c_rb β κ a1) ++ [(q3, .inr (6, [.null, .int 0, .int 0, .int 0]))]) H := hP
  have hD : va_D A0 (([(h, .inr (8, [.ref q1, .ref q2, .null, .null, .null, .null, .int 0, .int 0, .int 0, .int 0, .int 0]))] ++ c_rb β κ a0 ++ c_rb β κ a1) ++ [(q3, .inr (6, [.null, .int 0, .int 0, .int 0]))]) := hD
  refine lv_dup hx hb dX8_init_30 rfl ?_
  have hfree := c_free C0 hD hS
  refine va_callv (c_runI C0 (n := 0) (As := []) (rest := [.ref q3, .ref h]) ji_ml_49 ji_in_45 ji_ii_43 ji_co_46 rfl (by decide +kernel) (c_initR (α := α) (β := β) (D := D) (κ := κ) q3 l H.size) hP hD hS rfl rfl dX8_init_31 hl (Nat.le_of_ble_eq_true rfl) ⟨(Nat.le_of_ble_eq_true rfl), (Nat.le_of_ble_eq_true rfl)⟩ ⟨(by show 0 + 1 + 19 + 1 + 19 + 1 + 19 ≤ 228; omega), (by show 0 + 4 + 138 + 4 + 138 + 4 + 138 ≤ 1622; omega)⟩) hS (fun q _ hq => hfree q hq) hfree (fun a2 t H locs ht hvm hpost hB hz hk hS => ?_)
  obtain ⟨hP1, hD1⟩ := hB
  rw [ht] at hP1
  obtain ⟨hP, hD⟩ := c_join hP hD hk hfree hP1 hD1
  have g2 := hpost
  have hP : va_P D vwCl ([(h, .inr (8, [.ref q1, .ref q2, .null, .null, .null, .null, .int 0, .int 0, .int 0, .int 0, .int 0]))] ++ c_rb β κ a0 ++ c_rb β κ a1 ++ c_rb β κ a2) H := hP
  have hD : va_D A0 ([(h, .inr (8, [.ref q1, .ref q2, .null, .null, .null, .null, .int 0, .int 0, .int 0, .int 0, .int 0]))] ++ c_rb β κ a0 ++ c_rb β κ a1 ++ c_rb β κ a2) := hD
  refine W.eq (g2 := F0 m 34 ls [.ref q3, .ref h]) rfl ?_
  refine va_putF (ty := (.object "QuillRelay$Race")) (ci := 8) (C := RX8) (T := TX8) (N := 11) hx hb hts q_u_X8 tyX8 tyX8_ok nmX8 hown hK hP hD hS 0 rfl rfl 2 (by decide) (hts _ ji_fl_52) (fun _ h9 => h9) rfl hin rfl (by decide +kernel) rfl rfl (Nat.le_of_ble_eq_true rfl) dX8_init_34 (fun H locs hP hD hS => ?_)
  have hP : va_P D vwCl ([(h, .inr (8, [.ref q1, .ref q2, .ref q3, .null, .null, .null, .int 0, .int 0, .int 0, .int 0, .int 0]))] ++ c_rb β κ a0 ++ c_rb β κ a1 ++ c_rb β κ a2) H := hP
  have hD : va_D A0 ([(h, .inr (8, [.ref q1, .ref q2, .ref q3, .null, .null, .null, .int 0, .int 0, .int 0, .int 0, .int 0]))] ++ c_rb β κ a0 ++ c_rb β κ a1 ++ c_rb β κ a2) := hD
  refine lv_aload_n hx hb dX8_init_37 rfl (lv_at hl 0 rfl) ?_
  refine va_new (ci := 4) (fs := [.null, .int 0, .int 0]) (C := RX2) (T := TX2) (N := 3) hx hb hts q_u_X2 tyX2 tyX2_ok hown (hts _ ji_cl_53) (hts _ ji_is_54) (hts _ ji_ii_55) hK hP hD hS hA rfl (fun j hj => by rcases (show j = 0 ∨ j = 1 ∨ j = 2 by omega) with rfl | rfl | rfl <;> rfl) (by show 0 + 1 + 19 + 1 + 19 + 1 + 19 + 1 ≤ 228; omega) (by show 0 + 4 + 138 + 4 + 138 + 4 + 138 + 3 ≤ 1622; omega) dX8_init_38 (fun q4 H hP hD hS => ?_)
  have hP : va_P D vwCl (([(h, .inr (8, [.ref q1, .ref q2, .ref q3, .null, .null, .null, .int 0, .int 0, .int 0, .int 0, .int 0]))] ++ c_rb β κ a0 ++ c_rb β κ a1 ++ c_rb β κ a2) ++ [(q4, .inr (4, [.null, .int 0, .int 0]))]) H := hP
  have hD : va_D A0 (([(h, .inr (8, [.ref q1, .ref q2, .ref q3, .null, .null, .null, .int 0, .int 0, .int 0, .int 0, .int 0]))] ++ c_rb β κ a0 ++ c_rb β κ a1 ++ c_rb β κ a2) ++ [(q4, .inr (4, [.null, .int 0, .int 0]))]) := hD
  refine lv_dup hx hb dX8_init_41 rfl ?_
  have hfree := c_free C0 hD hS
  refine va_callv (c_runI C0 (n := 0) (As := []) (rest := [.ref q4, .ref h]) ji_ml_56 ji_in_57 ji_ii_55 ji_co_58 rfl (by decide +kernel) (c_initH (α := α) (β := β) (D := D) (κ := κ) q4 l H.size) hP hD hS rfl rfl dX8_init_42 hl (Nat.le_of_ble_eq_true rfl) ⟨(Nat.le_of_ble_eq_true rfl), (Nat.le_of_ble_eq_true rfl)⟩ ⟨(by show 0 + 1 + 19 + 1 + 19 + 1 + 19 + 1 + 161 ≤ 228; omega), (by show 0 + 4 + 138 + 4 + 138 + 4 + 138 + 3 + 1144 ≤ 1622; omega)⟩) hS (fun q _ hq => hfree q hq) hfree (fun uh t H locs ht hvm hpost hB hz hk hS => ?_)
  obtain ⟨hP1, hD1⟩ := hB
  rw [ht] at hP1
  obtain ⟨hP, hD⟩ := c_join hP hD hk hfree hP1 hD1
  have hP : va_P D vwCl ([(h, .inr (8, [.ref q1, .ref q2, .ref q3, .null, .null, .null, .int 0, .int 0, .int 0, .int 0, .int 0]))] ++ c_rb β κ a0 ++ c_rb β κ a1 ++ c_rb β κ a2 ++ c_hb β κ q4 uh.1 uh.2) H := hP
  have hD : va_D A0 ([(h, .inr (8, [.ref q1, .ref q2, .ref q3, .null, .null, .null, .int 0, .int 0, .int 0, .int 0, .int 0]))] ++ c_rb β κ a0 ++ c_rb β κ a1 ++ c_rb β κ a2 ++ c_hb β κ q4 uh.1 uh.2) := hD
  refine W.eq (g2 := F0 m 45 ls [.ref q4, .ref h]) rfl ?_
  refine va_putF (ty := (.object "QuillRelay$History")) (ci := 8) (C := RX8) (T := TX8) (N := 11) hx hb hts q_u_X8 tyX8 tyX8_ok nmX8 hown hK hP hD hS 0 rfl rfl 3 (by decide) (hts _ ji_fl_59) (fun _ h9 => h9) rfl hin rfl (by decide +kernel) rfl rfl (Nat.le_of_ble_eq_true rfl) dX8_init_45 (fun H locs hP hD hS => ?_)
  have hP : va_P D vwCl ([(h, .inr (8, [.ref q1, .ref q2, .ref q3, .ref q4, .null, .null, .int 0, .int 0, .int 0, .int 0, .int 0]))] ++ c_rb β κ a0 ++ c_rb β κ a1 ++ c_rb β κ a2 ++ c_hb β κ q4 uh.1 uh.2) H := hP
  have hD : va_D A0 ([(h, .inr (8, [.ref q1, .ref q2, .ref q3, .ref q4, .null, .null, .int 0, .int 0, .int 0, .int 0, .int 0]))] ++ c_rb β κ a0 ++ c_rb β κ a1 ++ c_rb β κ a2 ++ c_hb β κ q4 uh.1 uh.2) := hD
  refine lv_aload_n hx hb dX8_init_48 rfl (lv_at hl 0 rfl) ?_
  refine va_new (ci := 5) (fs := [.null, .null, .int 0, .int 0, .int 0, .null]) (C := RX3) (T := TX3) (N := 6) hx hb hts q_u_X3 tyX3 tyX3_ok hown (hts _ ji_cl_60) (hts _ ji_is_61) (hts _ ji_ii_62) hK hP hD hS hA rfl (fun j hj => by rcases (show j = 0 ∨ j = 1 ∨ j = 2 ∨ j = 3 ∨ j = 4 ∨ j = 5 by omega) with rfl | rfl | rfl | rfl | rfl | rfl <;> rfl) (by show 0 + 1 + 19 + 1 + 19 + 1 + 19 + 1 + 161 + 1 ≤ 228; omega) (by show 0 + 4 + 138 + 4 + 138 + 4 + 138 + 3 + 1144 + 6 ≤ 1622; omega) dX8_init_49 (fun q5 H hP hD hS => ?_)
  have hP : va_P D vwCl (([(h, .inr (8, [.ref q1, .ref q2, .ref q3, .ref q4, .null, .null, .int 0, .int 0, .int 0, .int 0, .int 0]))] ++ c_rb β κ a0 ++ c_rb β κ a1 ++ c_rb β κ a2 ++ c_hb β κ q4 uh.1 uh.2) ++ [(q5, .inr (5, [.null, .null, .int 0, .int 0, .int 0, .null]))]) H := hP
  have hD : va_D A0 (([(h, .inr (8, [.ref q1, .ref q2, .ref q3, .ref q4, .null, .null, .int 0, .int 0, .int 0, .int 0, .int 0]))] ++ c_rb β κ a0 ++ c_rb β κ a1 ++ c_rb β κ a2 ++ c_hb β κ q4 uh.1 uh.2) ++ [(q5, .inr (5, [.null, .null, .int 0, .int 0, .int 0, .null]))]) := hD
  refine lv_dup hx hb dX8_init_52 rfl ?_
  have hfree := c_free C0 hD hS
  refine va_callv (c_runI C0 (n := 0) (As := []) (rest := [.ref q5, .ref h]) ji_ml_63 ji_in_64 ji_ii_62 ji_co_65 rfl (by decide +kernel) (c_initP (α := α) (β := β) (D := D) (κ := κ) q5 l H.size) hP hD hS rfl rfl dX8_init_53 hl (Nat.le_of_ble_eq_true rfl) ⟨(Nat.le_of_ble_eq_true rfl), (Nat.le_of_ble_eq_true rfl)⟩ ⟨(by show 0 + 1 + 19 + 1 + 19 + 1 + 19 + 1 + 161 + 1 + 3 ≤ 228; omega), (by show 0 + 4 + 138 + 4 + 138 + 4 + 138 + 3 + 1144 + 6 + 23 ≤ 1622; omega)⟩) hS (fun q _ hq => hfree q hq) hfree (fun up t H locs ht hvm hpost hB hz hk hS => ?_)
  obtain ⟨hP1, hD1⟩ := hB
  rw [ht] at hP1
  obtain ⟨hP, hD⟩ := c_join hP hD hk hfree hP1 hD1
  have hP : va_P D vwCl ([(h, .inr (8, [.ref q1, .ref q2, .ref q3, .ref q4, .null, .null, .int 0, .int 0, .int 0, .int 0, .int 0]))] ++ c_rb β κ a0 ++ c_rb β κ a1 ++ c_rb β κ a2 ++ c_hb β κ q4 uh.1 uh.2 ++ c_pb β κ q5 up.1 up.2.1 up.2.2) H := hP
  have hD : va_D A0 ([(h, .inr (8, [.ref q1, .ref q2, .ref q3, .ref q4, .null, .null, .int 0, .int 0, .int 0, .int 0, .int 0]))] ++ c_rb β κ a0 ++ c_rb β κ a1 ++ c_rb β κ a2 ++ c_hb β κ q4 uh.1 uh.2 ++ c_pb β κ q5 up.1 up.2.1 up.2.2) := hD
  refine W.eq (g2 := F0 m 56 ls [.ref q5, .ref h]) rfl ?_
  refine va_putF (ty := (.object "QuillRelay$Program")) (ci := 8) (C := RX8) (T := TX8) (N := 11) hx hb hts q_u_X8 tyX8 tyX8_ok nmX8 hown hK hP hD hS 0 rfl rfl 4 (by decide) (hts _ ji_fl_66) (fun _ h9 => h9) rfl hin rfl (by decide +kernel) rfl rfl (Nat.le_of_ble_eq_true rfl) dX8_init_56 (fun H locs hP hD hS => ?_)
  have hP : va_P D vwCl ([(h, .inr (8, [.ref q1, .ref q2, .ref q3, .ref q4, .ref q5, .null, .int 0, .int 0, .int 0, .int 0, .int 0]))] ++ c_rb β κ a0 ++ c_rb β κ a1 ++ c_rb β κ a2 ++ c_hb β κ q4 uh.1 uh.2 ++ c_pb β κ q5 up.1 up.2.1 up.2.2) H := hP
  have hD : va_D A0 ([(h, .inr (8, [.ref q1, .ref q2, .ref q3, .ref q4, .ref q5, .null, .int 0, .int 0, .int 0, .int 0, .int 0]))] ++ c_rb β κ a0 ++ c_rb β κ a1 ++ c_rb β κ a2 ++ c_hb β κ q4 uh.1 uh.2 ++ c_pb β κ q5 up.1 up.2.1 up.2.2) := hD
  refine lv_aload_n hx hb dX8_init_59 rfl (lv_at hl 0 rfl) ?_
  refine va_new (ci := 1) (fs := [.null, .int 0, .int 0, .int 0]) (C := RJ4) (T := TJ4) (N := 4) hx hb hts q_u_J4 tyJ4 tyJ4_ok hown (hts _ ji_cl_67) (hts _ ji_is_30) (hts _ ji_ii_31) hK hP hD hS hA rfl (fun j hj => by rcases (show j = 0 ∨ j = 1 ∨ j = 2 ∨ j = 3 by omega) with rfl | rfl | rfl | rfl <;> rfl) (by show 0 + 1 + 19 + 1 + 19 + 1 + 19 + 1 + 161 + 1 + 3 + 1 ≤ 228; omega) (by show 0 + 4 + 138 + 4 + 138 + 4 + 138 + 3 + 1144 + 6 + 23 + 4 ≤ 1622; omega) dX8_init_60 (fun q6 H hP hD hS => ?_)
  have hP : va_P D vwCl (([(h, .inr (8, [.ref q1, .ref q2, .ref q3, .ref q4, .ref q5, .null, .int 0, .int 0, .int 0, .int 0, .int 0]))] ++ c_rb β κ a0 ++ c_rb β κ a1 ++ c_rb β κ a2 ++ c_hb β κ q4 uh.1 uh.2 ++ c_pb β κ q5 up.1 up.2.1 up.2.2) ++ [(q6, .inr (1, [.null, .int 0, .int 0, .int 0]))]) H := hP
  have hD : va_D A0 (([(h, .inr (8, [.ref q1, .ref q2, .ref q3, .ref q4, .ref q5, .null, .int 0, .int 0, .int 0, .int 0, .int 0]))] ++ c_rb β κ a0 ++ c_rb β κ a1 ++ c_rb β κ a2 ++ c_hb β κ q4 uh.1 uh.2 ++ c_pb β κ q5 up.1 up.2.1 up.2.2) ++ [(q6, .inr (1, [.null, .int 0, .int 0, .int 0]))]) := hD
  refine lv_dup hx hb dX8_init_63 rfl ?_
  have hfree := c_free C0 hD hS
  refine va_callv (c_runI C0 (n := 0) (As := []) (rest := [.ref q6, .ref h]) ji_ml_68 ji_in_33 ji_ii_31 ji_co_34 rfl (by decide +kernel) (c_initS (α := α) (β := β) (D := D) (κ := κ) q6 l H.size) hP hD hS rfl rfl dX8_init_64 hl (Nat.le_of_ble_eq_true rfl) ⟨(Nat.le_of_ble_eq_true rfl), (Nat.le_of_ble_eq_true rfl)⟩ ⟨(by show 0 + 1 + 19 + 1 + 19 + 1 + 19 + 1 + 161 + 1 + 3 + 1 + 1 ≤ 228; omega), (by show 0 + 4 + 138 + 4 + 138 + 4 + 138 + 3 + 1144 + 6 + 23 + 4 + 16 ≤ 1622; omega)⟩) hS (fun q _ hq => hfree q hq) hfree (fun us t H locs ht hvm hpost hB hz hk hS => ?_)
  obtain ⟨hP1, hD1⟩ := hB
  rw [ht] at hP1
  obtain ⟨hP, hD⟩ := c_join hP hD hk hfree hP1 hD1
  have hP : va_P D vwCl ([(h, .inr (8, [.ref q1, .ref q2, .ref q3, .ref q4, .ref q5, .null, .int 0, .int 0, .int 0, .int 0, .int 0]))] ++ c_rb β κ a0 ++ c_rb β κ a1 ++ c_rb β κ a2 ++ c_hb β κ q4 uh.1 uh.2 ++ c_pb β κ q5 up.1 up.2.1 up.2.2 ++ c_sb κ q6 us) H := hP
  have hD : va_D A0 ([(h, .inr (8, [.ref q1, .ref q2, .ref q3, .ref q4, .ref q5, .null, .int 0, .int 0, .int 0, .int 0, .int 0]))] ++ c_rb β κ a0 ++ c_rb β κ a1 ++ c_rb β κ a2 ++ c_hb β κ q4 uh.1 uh.2 ++ c_pb β κ q5 up.1 up.2.1 up.2.2 ++ c_sb κ q6 us) := hD
  refine W.eq (g2 := F0 m 67 ls [.ref q6, .ref h]) rfl ?_
  refine va_putF (ty := (.object "java/lang/StringBuilder")) (ci := 8) (C := RX8) (T := TX8) (N := 11) hx hb hts q_u_X8 tyX8 tyX8_ok nmX8 hown hK hP hD hS 0 rfl rfl 5 (by decide) (hts _ ji_fl_69) (fun _ h9 => h9) rfl hin rfl (by decide +kernel) rfl rfl (Nat.le_of_ble_eq_true rfl) dX8_init_67 (fun H locs hP hD hS => ?_)
  have hP : va_P D vwCl ([(h, .inr (8, [.ref q1, .ref q2, .ref q3, .ref q4, .ref q5, .ref q6, .int 0, .int 0, .int 0, .int 0, .int 0]))] ++ c_rb β κ a0 ++ c_rb β κ a1 ++ c_rb β κ a2 ++ c_hb β κ q4 uh.1 uh.2 ++ c_pb β κ q5 up.1 up.2.1 up.2.2 ++ c_sb κ q6 us) H := hP
  have hD : va_D A0 ([(h, .inr (8, [.ref q1, .ref q2, .ref q3, .ref q4, .ref q5, .ref q6, .int 0, .int 0, .int 0, .int 0, .int 0]))] ++ c_rb β κ a0 ++ c_rb β κ a1 ++ c_rb β κ a2 ++ c_hb β κ q4 uh.1 uh.2 ++ c_pb β κ q5 up.1 up.2.1 up.2.2 ++ c_sb κ q6 us) := hD
  refine lv_aload_n hx hb dX8_init_70 rfl (lv_at hl 0 rfl) ?_
  refine lv_iconst hx hb dX8_init_71 (by decide : Int32.ofInt 0 = 0) ?_
  refine va_put (ty := .boolean) (ci := 8) (C := RX8) (T := TX8) (N := 11) hx hb hts q_u_X8 tyX8 tyX8_ok nmX8 hown hK hP hD hS 0 rfl rfl 6 (by decide) (hts _ ji_fl_70) (fun _ h9 => h9) rfl (by decide +kernel) rfl rfl (Nat.le_of_ble_eq_true rfl) dX8_init_72 (fun H locs hP hD hS => ?_)
  have hP : va_P D vwCl ([(h, .inr (8, [.ref q1, .ref q2, .ref q3, .ref q4, .ref q5, .ref q6, .int 0, .int 0, .int 0, .int 0, .int 0]))] ++ c_rb β κ a0 ++ c_rb β κ a1 ++ c_rb β κ a2 ++ c_hb β κ q4 uh.1 uh.2 ++ c_pb β κ q5 up.1 up.2.1 up.2.2 ++ c_sb κ q6 us) H := hP
  have hD : va_D A0 ([(h, .inr (8, [.ref q1, .ref q2, .ref q3, .ref q4, .ref q5, .ref q6, .int 0, .int 0, .int 0, .int 0, .int 0]))] ++ c_rb β κ a0 ++ c_rb β κ a1 ++ c_rb β κ a2 ++ c_hb β κ q4 uh.1 uh.2 ++ c_pb β κ q5 up.1 up.2.1 up.2.2 ++ c_sb κ q6 us) := hD
  refine lv_aload_n hx hb dX8_init_75 rfl (lv_at hl 0 rfl) ?_
  refine lv_iconst hx hb dX8_init_76 (by decide : Int32.ofInt 0 = 0) ?_
  refine va_put (ty := .int) (ci := 8) (C := RX8) (T := TX8) (N := 11) hx hb hts q_u_X8 tyX8 tyX8_ok nmX8 hown hK hP hD hS 0 rfl rfl 7 (by decide) (hts _ ji_fl_71) (fun _ h9 => h9) rfl (by decide +kernel) rfl rfl (Nat.le_of_ble_eq_true rfl) dX8_init_77 (fun H locs hP hD hS => ?_)
  have hP : va_P D vwCl ([(h, .inr (8, [.ref q1, .ref q2, .ref q3, .ref q4, .ref q5, .ref q6, .int 0, .int 0, .int 0, .int 0, .int 0]))] ++ c_rb β κ a0 ++ c_rb β κ a1 ++ c_rb β κ a2 ++ c_hb β κ q4 uh.1 uh.2 ++ c_pb β κ q5 up.1 up.2.1 up.2.2 ++ c_sb κ q6 us) H := hP
  have hD : va_D A0 ([(h, .inr (8, [.ref q1, .ref q2, .ref q3, .ref q4, .ref q5, .ref q6, .int 0, .int 0, .int 0, .int 0, .int 0]))] ++ c_rb β κ a0 ++ c_rb β κ a1 ++ c_rb β κ a2 ++ c_hb β κ q4 uh.1 uh.2 ++ c_pb β κ q5 up.1 up.2.1 up.2.2 ++ c_sb κ q6 us) := hD
  refine lv_aload_n hx hb dX8_init_80 rfl (lv_at hl 0 rfl) ?_
  refine lv_iconst hx hb dX8_init_81 (by decide : Int32.ofInt (-1) = (-1)) ?_
  refine va_put (ty := .int) (ci := 8) (C := RX8) (T := TX8) (N := 11) hx hb hts q_u_X8 tyX8 tyX8_ok nmX8 hown hK hP hD hS 0 rfl rfl 8 (by decide) (hts _ ji_fl_72) (fun _ h9 => h9) rfl (by decide +kernel) rfl rfl (Nat.le_of_ble_eq_true rfl) dX8_init_82 (fun H locs hP hD hS => ?_)
  have hP : va_P D vwCl ([(h, .inr (8, [.ref q1, .ref q2, .ref q3, .ref q4, .ref q5, .ref q6, .int 0, .int 0, .int (-1), .int 0, .int 0]))] ++ c_rb β κ a0 ++ c_rb β κ a1 ++ c_rb β κ a2 ++ c_hb β κ q4 uh.1 uh.2 ++ c_pb β κ q5 up.1 up.2.1 up.2.2 ++ c_sb κ q6 us) H := hP
  have hD : va_D A0 ([(h, .inr (8, [.ref q1, .ref q2, .ref q3, .ref q4, .ref q5, .ref q6, .int 0, .int 0, .int (-1), .int 0, .int 0]))] ++ c_rb β κ a0 ++ c_rb β κ a1 ++ c_rb β κ a2 ++ c_hb β κ q4 uh.1 uh.2 ++ c_pb β κ q5 up.1 up.2.1 up.2.2 ++ c_sb κ q6 us) := hD
  refine lv_aload_n hx hb dX8_init_85 rfl (lv_at hl 0 rfl) ?_
  refine lv_iconst hx hb dX8_init_86 (by decide : Int32.ofInt (-1) = (-1)) ?_
  refine va_put (ty := .int) (ci := 8) (C := RX8) (T := TX8) (N := 11) hx hb hts q_u_X8 tyX8 tyX8_ok nmX8 hown hK hP hD hS 0 rfl rfl 9 (by decide) (hts _ ji_fl_73) (fun _ h9 => h9) rfl (by decide +kernel) rfl rfl (Nat.le_of_ble_eq_true rfl) dX8_init_87 (fun H locs hP hD hS => ?_)
  have hP : va_P D vwCl ([(h, .inr (8, [.ref q1, .ref q2, .ref q3, .ref q4, .ref q5, .ref q6, .int 0, .int 0, .int (-1), .int (-1), .int 0]))] ++ c_rb β κ a0 ++ c_rb β κ a1 ++ c_rb β κ a2 ++ c_hb β κ q4 uh.1 uh.2 ++ c_pb β κ q5 up.1 up.2.1 up.2.2 ++ c_sb κ q6 us) H := hP
  have hD : va_D A0 ([(h, .inr (8, [.ref q1, .ref q2, .ref q3, .ref q4, .ref q5, .ref q6, .int 0, .int 0, .int (-1), .int (-1), .int 0]))] ++ c_rb β κ a0 ++ c_rb β κ a1 ++ c_rb β κ a2 ++ c_hb β κ q4 uh.1 uh.2 ++ c_pb β κ q5 up.1 up.2.1 up.2.2 ++ c_sb κ q6 us) := hD
  refine lv_aload_n hx hb dX8_init_90 rfl (lv_at hl 0 rfl) ?_
  refine lv_iconst hx hb dX8_init_91 (by decide : Int32.ofInt (-1) = (-1)) ?_
  refine va_put (ty := .int) (ci := 8) (C := RX8) (T := TX8) (N := 11) hx hb hts q_u_X8 tyX8 tyX8_ok nmX8 hown hK hP hD hS 0 rfl rfl 10 (by decide) (hts _ ji_fl_74) (fun _ h9 => h9) rfl (by decide +kernel) rfl rfl (Nat.le_of_ble_eq_true rfl) dX8_init_92 (fun H locs hP hD hS => ?_)
  have hP : va_P D vwCl ([(h, .inr (8, [.ref q1, .ref q2, .ref q3, .ref q4, .ref q5, .ref q6, .int 0, .int 0, .int (-1), .int (-1), .int (-1)]))] ++ c_rb β κ a0 ++ c_rb β κ a1 ++ c_rb β κ a2 ++ c_hb β κ q4 uh.1 uh.2 ++ c_pb β κ q5 up.1 up.2.1 up.2.2 ++ c_sb κ q6 us) H := hP
  have hD : va_D A0 ([(h, .inr (8, [.ref q1, .ref q2, .ref q3, .ref q4, .ref q5, .ref q6, .int 0, .int 0, .int (-1), .int (-1), .int (-1)]))] ++ c_rb β κ a0 ++ c_rb β κ a1 ++ c_rb β κ a2 ++ c_hb β κ q4 uh.1 uh.2 ++ c_pb β κ q5 up.1 up.2.1 up.2.2 ++ c_sb κ q6 us) := hD
  let AA : Nat → Nat → Nat := fun i => match i with | 0 => a0 | 1 => a1 | 2 => a2 | i + 3 => uh.2 i
  let GG : Nat → Nat := fun k => ([h, q4, uh.1, q5, up.2.2, up.1, q6, up.2.1, us] : List Nat).getD (k - 220) 0
  obtain rfl := g0
  obtain rfl := g1
  obtain rfl := g2
  have hP : va_P D vwCl (c_qb β κ AA GG) H := hP
  have hD : va_D A0 (c_qb β κ AA GG) := hD
  exact W.vret hx hb hr (fun t ht hW => ⟨⟨(AA, GG), rfl, rfl, by rw [ht]; exact hP, hD⟩, hS.F ht⟩) hS.2.2 dX8_init_95 hlocks
