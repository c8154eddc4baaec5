set_option maxRecDepth 100000 in
theorem ji_cl_85 : Cond.classLink RL 8 "QuillRelay" ∈ q_W := q_t1 35 rfl rfl
set_option maxRecDepth 100000 in
theorem ji_is_86 : Cond.instantiable "QuillRelay" 11 ∈ q_W := q_t1 36 rfl rfl
set_option maxRecDepth 100000 in
theorem ji_ii_87 : Cond.initialized "QuillRelay" ∈ q_W := q_t1 1 rfl rfl
set_option maxRecDepth 100000 in
theorem ji_ml_88 : Cond.methodLink RL 151 yX8_init ∈ q_W := q_t1 37 rfl rfl
set_option maxRecDepth 100000 in
theorem ji_in_89 : Cond.instanceMethod yX8_init ∈ q_W := q_t1 38 rfl rfl
set_option maxRecDepth 100000 in
theorem ji_co_90 : Cond.code yX8_init cX8_init 1 (Option.none : Option Jvm.ClassFile.FieldType) ∈ q_W := q_t1 39 rfl rfl
set_option maxRecDepth 100000 in
theorem ji_cl_91 : Cond.classLink RL 152 "QuillRelayModel" ∈ q_W := q_t6 205 rfl rfl
set_option maxRecDepth 100000 in
theorem ji_is_92 : Cond.instantiable "QuillRelayModel" 19 ∈ q_W := q_t6 206 rfl rfl
set_option maxRecDepth 100000 in
theorem ji_ii_93 : Cond.initialized "QuillRelayModel" ∈ q_W := q_t1 13 rfl rfl
set_option maxRecDepth 100000 in
theorem ji_ml_94 : Cond.methodLink RL 154 yX9_init ∈ q_W := q_t6 207 rfl rfl
set_option maxRecDepth 100000 in
theorem ji_in_95 : Cond.instanceMethod yX9_init ∈ q_W := q_t6 208 rfl rfl
set_option maxRecDepth 100000 in
theorem ji_co_96 : Cond.code yX9_init cX9_init 1 (Option.none : Option Jvm.ClassFile.FieldType) ∈ q_W := q_t6 209 rfl rfl
set_option maxRecDepth 100000 in
theorem ji_ac_97 : Cond.arrayClass .long ∈ q_W := q_t8 188 rfl rfl
set_option maxRecDepth 100000 in
theorem ji_ac_98 : Cond.arrayClass .double ∈ q_W := q_t8 189 rfl rfl
theorem dL_law_0 : decode code 0 = .ok (.new 8, 3) := by decide +kernel
theorem dL_law_3 : decode code 3 = .ok (.dup, 1) := by decide +kernel
theorem dL_law_4 : decode code 4 = .ok (.invokespecial 151, 3) := by decide +kernel
theorem dL_law_7 : decode code 7 = .ok (.astore_n 1, 1) := by decide +kernel
theorem dL_law_8 : decode code 8 = .ok (.new 152, 3) := by decide +kernel
theorem dL_law_11 : decode code 11 = .ok (.dup, 1) := by decide +kernel
theorem dL_law_12 : decode code 12 = .ok (.invokespecial 154, 3) := by decide +kernel
theorem dL_law_15 : decode code 15 = .ok (.astore_n 2, 1) := by decide +kernel
theorem dL_law_16 : decode code 16 = .ok (.iconst 1, 1) := by decide +kernel
theorem dL_law_17 : decode code 17 = .ok (.newarray .long, 2) := by decide +kernel
theorem dL_law_19 : decode code 19 = .ok (.astore_n 3, 1) := by decide +kernel
theorem dL_law_20 : decode code 20 = .ok (.iconst 1, 1) := by decide +kernel
theorem dL_law_21 : decode code 21 = .ok (.newarray .double, 2) := by decide +kernel
theorem dL_law_23 : decode code 23 = .ok (.astore 4, 2) := by decide +kernel
theorem dL_law_25 : decode code 25 = .ok (.iconst 0, 1) := by decide +kernel
theorem dL_law_26 : decode code 26 = .ok (.istore 5, 2) := by decide +kernel
/-! The law's start. -/
set_option maxRecDepth 100000 in
set_option maxHeartbeats 4000000 in
theorem lw_begin {α β : Nat → Nat} {D : va_G} {κ : Nat → ClassId} {p : Program} {l : Launch} {e : Env} {s : State} {m : MethodId} {args : Array Value} {below : List Frame} {meth : Method} {c : Code} {A0 : Nat → Prop} {Q : State → Prop} (C : c_Cx α β D κ p s m args meth c code RL 9 A0) {b : Nat} {ls : Array Slot} (hl : lv_has ls 9 [(0, .ref b)])
    (kk : ∀ (a : Nat → Nat → Nat) (g gm : Nat → Nat) (q1 q2 : Nat) (H : Heap) (locs : List Loc) (ls : Array Slot), va_P D vwCl (((([] ++ c_qb β κ a g) ++ c_mb κ gm) ++ [(q1, .inl (κ 2, 1, .inr (.inl (fun _ => 0))))]) ++ [(q2, .inl (κ 3, 1, .inr (.inr (.inr (.inl (fun _ => 0))))))]) H → va_D A0 (((([] ++ c_qb β κ a g) ++ c_mb κ gm) ++ [(q1, .inl (κ 2, 1, .inr (.inl (fun _ => 0))))]) ++ [(q2, .inl (κ 3, 1, .inr (.inr (.inr (.inl (fun _ => 0))))))]) → va_S A0 s.heap H locs → lv_has ls 9 [(5, .int 0), (4, .ref q2), (3, .ref q1), (2, .ref (gm 229)), (1, .ref (g 220)), (0, .ref b)] → W p l e room_1 s m args below meth c H locs 300 20000 Q (F0 m 28 ls [])) :
    W p l e room_1 s m args below meth c s.heap [] 0 0 Q (F0 m 0 ls []) := by
  have C0 := C
  obtain ⟨hx, hb, -, hown, hts, hK, ⟨hE, hAO6, hAO4⟩, hA, hlocks⟩ := C
  have hP : va_P D vwCl [] s.heap := fun k q h => by cases h
  have hD : va_D A0 [] := ⟨fun i j p q h => (by cases h), fun k q h => (by cases h)⟩
  have hS : va_S A0 s.heap s.heap [] := va_S.rf
  refine va_new (ci := 8) (fs := [.null, .null, .null, .null, .null, .null, .int 0, .int 0, .int 0, .int 0, .int 0]) (C := RX8) (T := TX8) (N := 11) hx hb hts q_u_X8 tyX8 tyX8_ok hown (hts _ ji_cl_85) (hts _ ji_is_86) (hts _ ji_ii_87) hK hP hD hS hA rfl (fun j hj => by rcases (show j = 0 ∨ j = 1 ∨ j = 2 ∨ j = 3 ∨ j = 4 ∨ j = 5 ∨ j = 6 ∨ j = 7 ∨ j = 8 ∨ j = 9 ∨ j = 10 by omega) with rfl | rfl | rfl | rfl | rfl | rfl | rfl | rfl | rfl | rfl | rfl <;> rfl) (by show 0 + 1 ≤ 603072; omega) (by show 0 + 11 ≤ 7215209; omega) dL_law_0 (fun q1 H hP hD hS => ?_)
  have hP : va_P D vwCl ([] ++ [(q1, .inr (8, [.null, .null, .null, .null, .null, .null, .int 0, .int 0, .int 0, .int 0, .int 0]))]) H := hP
  have hD : va_D A0 ([] ++ [(q1, .inr (8, [.null, .null, .null, .null, .null, .null, .int 0, .int 0, .int 0, .int 0, .int 0]))]) := hD
  refine lv_dup hx hb dL_law_3 rfl ?_
  have hfree := c_free C0 hD hS
  refine va_callv (c_runI C0 (n := 0) (As := []) (rest := [.ref q1]) ji_ml_88 ji_in_89 ji_ii_87 ji_co_90 rfl (by decide +kernel) (c_initQ (α := α) (β := β) (D := D) (κ := κ) q1 l H.size) hP hD hS rfl rfl dL_law_4 hl (Nat.le_of_ble_eq_true rfl) ⟨(Nat.le_of_ble_eq_true rfl), (Nat.le_of_ble_eq_true rfl)⟩ ⟨(by show 0 + 1 + 228 ≤ 603072; omega), (by show 0 + 11 + 1622 ≤ 7215209; omega)⟩) hS (fun q _ hq => hfree q hq) hfree (fun u t H locs ht hvm hpost hB hz hk hS => ?_)
  obtain ⟨hP1, hD1⟩ := hB
  rw [ht] at hP1
  obtain ⟨hP, hD⟩ := c_join hP hD hk hfree hP1 hD1
  obtain ⟨a, g⟩ := u
  have hg : g 220 = q1 := hpost
  have hP : va_P D vwCl ([] ++ c_qb β κ a g) H := hP
  have hD : va_D A0 ([] ++ c_qb β κ a g) := hD
  refine W.eq (g2 := F0 m 7 ls [.ref q1]) rfl ?_
  refine lv_astore_n hx hb dL_law_7 rfl hl (Nat.le_of_ble_eq_true rfl) (lv' := [(1, .ref q1), (0, .ref b)]) rfl (fun ls hl => ?_)
  refine va_new (ci := 9) (fs := [.null, .null, .null, .null, .int 0, .int 0, .int 0, .int 0, .int 0, .int 0, .int 0, .int 0, .null, .int 0, .null, .null, .int 0, .int 0, .int 0]) (C := RX9) (T := TX9) (N := 19) hx hb hts q_u_X9 tyX9 tyX9_ok hown (hts _ ji_cl_91) (hts _ ji_is_92) (hts _ ji_ii_93) hK hP hD hS hA rfl (fun j hj => by rcases (show j = 0 ∨ j = 1 ∨ j = 2 ∨ j = 3 ∨ j = 4 ∨ j = 5 ∨ j = 6 ∨ j = 7 ∨ j = 8 ∨ j = 9 ∨ j = 10 ∨ j = 11 ∨ j = 12 ∨ j = 13 ∨ j = 14 ∨ j = 15 ∨ j = 16 ∨ j = 17 ∨ j = 18 by omega) with rfl | rfl | rfl | rfl | rfl | rfl | rfl | rfl | rfl | rfl | rfl | rfl | rfl | rfl | rfl | rfl | rfl | rfl | rfl <;> rfl) (by show 0 + 1 + 228 + 1 ≤ 603072; omega) (by show 0 + 11 + 1622 + 19 ≤ 7215209; omega) dL_law_8 (fun q2 H hP hD hS => ?_)
  have hP : va_P D vwCl (([] ++ c_qb β κ a g) ++ [(q2, .inr (9, [.null, .null, .null, .null, .int 0, .int 0, .int 0, .int 0, .int 0, .int 0, .int 0, .int 0, .null, .int 0, .null, .null, .int 0, .int 0, .int 0]))]) H := hP
  have hD : va_D A0 (([] ++ c_qb β κ a g) ++ [(q2, .inr (9, [.null, .null, .null, .null, .int 0, .int 0, .int 0, .int 0, .int 0, .int 0, .int 0, .int 0, .null, .int 0, .null, .null, .int 0, .int 0, .int 0]))]) := hD
  refine lv_dup hx hb dL_law_11 rfl ?_
  have hfree := c_free C0 hD hS
  refine va_callv (c_runI C0 (n := 0) (As := []) (rest := [.ref q2]) ji_ml_94 ji_in_95 ji_ii_93 ji_co_96 rfl (by decide +kernel) (c_initM (α := α) (β := β) (D := D) (κ := κ) q2 l H.size) hP hD hS rfl rfl dL_law_12 hl (Nat.le_of_ble_eq_true rfl) ⟨(Nat.le_of_ble_eq_true rfl), (Nat.le_of_ble_eq_true rfl)⟩ ⟨(by show 0 + 1 + 228 + 1 + 7 ≤ 603072; omega), (by show 0 + 11 + 1622 + 19 + 1522 ≤ 7215209; omega)⟩) hS (fun q _ hq => hfree q hq) hfree (fun gm t H locs ht hvm hpost hB hz hk hS => ?_)
  obtain ⟨hP1, hD1⟩ := hB
  rw [ht] at hP1
  obtain ⟨hP, hD⟩ := c_join hP hD hk hfree hP1 hD1
  have hgm : gm 229 = q2 := hpost
  have hP : va_P D vwCl ([] ++ c_qb β κ a g ++ c_mb κ gm) H := hP
  have hD : va_D A0 ([] ++ c_qb β κ a g ++ c_mb κ gm) := hD
  refine W.eq (g2 := F0 m 15 ls [.ref q2]) rfl ?_
  refine lv_astore_n hx hb dL_law_15 rfl hl (Nat.le_of_ble_eq_true rfl) (lv' := [(2, .ref q2), (1, .ref q1), (0, .ref b)]) rfl (fun ls hl => ?_)
  refine lv_iconst hx hb dL_law_16 (by decide : Int32.ofInt 1 = 1) ?_
  refine va_newa (atype := .long) (ty := .long) (a0 := (1, .inr (.inl (fun _ => 0)))) (N' := 1) hx hb (hts _ ji_ac_97) rfl hK hP hD hS hA (fun cA => rfl) (by decide) (by decide) (by decide) (by show 0 + 1 + 228 + 1 + 7 + 1 ≤ 603072; omega) (by show 0 + 11 + 1622 + 19 + 1522 + 1 ≤ 7215209; omega) dL_law_17 (fun q3 cA H hK2 hP hD hS => ?_)
  obtain rfl := c_arr (k := 2) rfl hK hK2
  clear hK2
  have hP : va_P D vwCl ([] ++ c_qb β κ a g ++ c_mb κ gm ++ [(q3, .inl (κ 2, 1, .inr (.inl (fun _ => 0))))]) H := hP
  have hD : va_D A0 ([] ++ c_qb β κ a g ++ c_mb κ gm ++ [(q3, .inl (κ 2, 1, .inr (.inl (fun _ => 0))))]) := hD
  refine lv_astore_n hx hb dL_law_19 rfl hl (Nat.le_of_ble_eq_true rfl) (lv' := [(3, .ref q3), (2, .ref q2), (1, .ref q1), (0, .ref b)]) rfl (fun ls hl => ?_)
  refine lv_iconst hx hb dL_law_20 (by decide : Int32.ofInt 1 = 1) ?_
  refine va_newa (atype := .double) (ty := .double) (a0 := (1, .inr (.inr (.inr (.inl (fun _ => 0)))))) (N' := 1) hx hb (hts _ ji_ac_98) rfl hK hP hD hS hA (fun cA => rfl) (by decide) (by decide) (by decide) (by show 0 + 1 + 228 + 1 + 7 + 1 + 1 ≤ 603072; omega) (by show 0 + 11 + 1622 + 19 + 1522 + 1 + 1 ≤ 7215209; omega) dL_law_21 (fun q4 cA H hK2 hP hD hS => ?_)
  obtain rfl := c_arr (k := 3) rfl hK hK2
  clear hK2
  have hP : va_P D vwCl ([] ++ c_qb β κ a g ++ c_mb κ gm ++ [(q3, .inl (κ 2, 1, .inr (.inl (fun _ => 0))))] ++ [(q4, .inl (κ 3, 1, .inr (.inr (.inr (.inl (fun _ => 0))))))]) H := hP
  have hD : va_D A0 ([] ++ c_qb β κ a g ++ c_mb κ gm ++ [(q3, .inl (κ 2, 1, .inr (.inl (fun _ => 0))))] ++ [(q4, .inl (κ 3, 1, .inr (.inr (.inr (.inl (fun _ => 0))))))]) := hD
  refine lv_astore hx hb dL_law_23 hl (Nat.le_of_ble_eq_true rfl) (lv' := [(4, .ref q4), (3, .ref q3), (2, .ref q2), (1, .ref q1), (0, .ref b)]) rfl (fun ls hl => ?_)
  refine lv_iconst hx hb dL_law_25 (by decide : Int32.ofInt 0 = 0) ?_
  refine lv_istore hx hb dL_law_26 hl (Nat.le_of_ble_eq_true rfl) (lv' := [(5, .int 0), (4, .ref q4), (3, .ref q3), (2, .ref q2), (1, .ref q1), (0, .ref b)]) rfl (fun ls hl => ?_)
  refine W.widen (k := 300) (n := 20000) (by show 0 + 1 + 228 + 1 + 7 + 1 + 1 ≤ 300; omega) (by show 0 + 11 + 1622 + 19 + 1522 + 1 + 1 ≤ 20000; omega) ?_
  rw [← hg, ← hgm] at hl
  exact kk a g gm q3 q4 H locs ls hP hD hS hl
