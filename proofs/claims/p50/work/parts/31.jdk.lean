/-! The library's own methods: digits. -/
set_option maxRecDepth 100000 in
theorem jw_fl_30 : Cond.fieldLink RJ6 83 "java/lang/Integer" "DigitOnes" "[B" ∈ q_W := q_t2 62 rfl rfl
set_option maxRecDepth 100000 in
theorem jw_fl_31 : Cond.fieldLink RJ6 87 "java/lang/Integer" "DigitTens" "[B" ∈ q_W := q_t2 64 rfl rfl
theorem dJ6_getChars_ba4f3_0 : decode cJ6_getChars_ba4f3 0 = .ok (.iload_n 1, 1) := by decide +kernel
theorem dJ6_getChars_ba4f3_1 : decode cJ6_getChars_ba4f3 1 = .ok (.istore 5, 2) := by decide +kernel
theorem dJ6_getChars_ba4f3_3 : decode cJ6_getChars_ba4f3 3 = .ok (.iload_n 0, 1) := by decide +kernel
theorem dJ6_getChars_ba4f3_4 : decode cJ6_getChars_ba4f3 4 = .ok (.ifCond .ge 7, 3) := by decide +kernel
theorem dJ6_getChars_ba4f3_11 : decode cJ6_getChars_ba4f3 11 = .ok (.iconst 0, 1) := by decide +kernel
theorem dJ6_getChars_ba4f3_12 : decode cJ6_getChars_ba4f3 12 = .ok (.istore 6, 2) := by decide +kernel
theorem dJ6_getChars_ba4f3_14 : decode cJ6_getChars_ba4f3 14 = .ok (.iload 6, 2) := by decide +kernel
theorem dJ6_getChars_ba4f3_16 : decode cJ6_getChars_ba4f3 16 = .ok (.ifCond .ne 6, 3) := by decide +kernel
theorem dJ6_getChars_ba4f3_19 : decode cJ6_getChars_ba4f3 19 = .ok (.iload_n 0, 1) := by decide +kernel
theorem dJ6_getChars_ba4f3_20 : decode cJ6_getChars_ba4f3 20 = .ok (.ineg, 1) := by decide +kernel
theorem dJ6_getChars_ba4f3_21 : decode cJ6_getChars_ba4f3 21 = .ok (.istore_n 0, 1) := by decide +kernel
theorem dJ6_getChars_ba4f3_22 : decode cJ6_getChars_ba4f3 22 = .ok (.iload_n 0, 1) := by decide +kernel
theorem dJ6_getChars_ba4f3_23 : decode cJ6_getChars_ba4f3 23 = .ok (.bipush (-100), 2) := by decide +kernel
theorem dJ6_getChars_ba4f3_25 : decode cJ6_getChars_ba4f3 25 = .ok (.if_icmp .gt 47, 3) := by decide +kernel
theorem dJ6_getChars_ba4f3_28 : decode cJ6_getChars_ba4f3 28 = .ok (.iload_n 0, 1) := by decide +kernel
theorem dJ6_getChars_ba4f3_29 : decode cJ6_getChars_ba4f3 29 = .ok (.bipush 100, 2) := by decide +kernel
theorem dJ6_getChars_ba4f3_31 : decode cJ6_getChars_ba4f3 31 = .ok (.idiv, 1) := by decide +kernel
theorem dJ6_getChars_ba4f3_32 : decode cJ6_getChars_ba4f3 32 = .ok (.istore_n 3, 1) := by decide +kernel
theorem dJ6_getChars_ba4f3_33 : decode cJ6_getChars_ba4f3 33 = .ok (.iload_n 3, 1) := by decide +kernel
theorem dJ6_getChars_ba4f3_34 : decode cJ6_getChars_ba4f3 34 = .ok (.bipush 100, 2) := by decide +kernel
theorem dJ6_getChars_ba4f3_36 : decode cJ6_getChars_ba4f3 36 = .ok (.imul, 1) := by decide +kernel
theorem dJ6_getChars_ba4f3_37 : decode cJ6_getChars_ba4f3 37 = .ok (.iload_n 0, 1) := by decide +kernel
theorem dJ6_getChars_ba4f3_38 : decode cJ6_getChars_ba4f3 38 = .ok (.isub, 1) := by decide +kernel
theorem dJ6_getChars_ba4f3_39 : decode cJ6_getChars_ba4f3 39 = .ok (.istore 4, 2) := by decide +kernel
theorem dJ6_getChars_ba4f3_41 : decode cJ6_getChars_ba4f3 41 = .ok (.iload_n 3, 1) := by decide +kernel
theorem dJ6_getChars_ba4f3_42 : decode cJ6_getChars_ba4f3 42 = .ok (.istore_n 0, 1) := by decide +kernel
theorem dJ6_getChars_ba4f3_43 : decode cJ6_getChars_ba4f3 43 = .ok (.aload_n 2, 1) := by decide +kernel
theorem dJ6_getChars_ba4f3_44 : decode cJ6_getChars_ba4f3 44 = .ok (.iinc 5 (-1), 3) := by decide +kernel
theorem dJ6_getChars_ba4f3_47 : decode cJ6_getChars_ba4f3 47 = .ok (.iload 5, 2) := by decide +kernel
theorem dJ6_getChars_ba4f3_49 : decode cJ6_getChars_ba4f3 49 = .ok (.getstatic 83, 3) := by decide +kernel
theorem dJ6_getChars_ba4f3_52 : decode cJ6_getChars_ba4f3 52 = .ok (.iload 4, 2) := by decide +kernel
theorem dJ6_getChars_ba4f3_54 : decode cJ6_getChars_ba4f3 54 = .ok (.baload, 1) := by decide +kernel
theorem dJ6_getChars_ba4f3_55 : decode cJ6_getChars_ba4f3 55 = .ok (.bastore, 1) := by decide +kernel
theorem dJ6_getChars_ba4f3_56 : decode cJ6_getChars_ba4f3 56 = .ok (.aload_n 2, 1) := by decide +kernel
theorem dJ6_getChars_ba4f3_57 : decode cJ6_getChars_ba4f3 57 = .ok (.iinc 5 (-1), 3) := by decide +kernel
theorem dJ6_getChars_ba4f3_60 : decode cJ6_getChars_ba4f3 60 = .ok (.iload 5, 2) := by decide +kernel
theorem dJ6_getChars_ba4f3_62 : decode cJ6_getChars_ba4f3 62 = .ok (.getstatic 87, 3) := by decide +kernel
theorem dJ6_getChars_ba4f3_65 : decode cJ6_getChars_ba4f3 65 = .ok (.iload 4, 2) := by decide +kernel
theorem dJ6_getChars_ba4f3_67 : decode cJ6_getChars_ba4f3 67 = .ok (.baload, 1) := by decide +kernel
theorem dJ6_getChars_ba4f3_68 : decode cJ6_getChars_ba4f3 68 = .ok (.bastore, 1) := by decide +kernel
theorem dJ6_getChars_ba4f3_69 : decode cJ6_getChars_ba4f3 69 = .ok (.goto (-47), 3) := by decide +kernel
theorem dJ6_getChars_ba4f3_72 : decode cJ6_getChars_ba4f3 72 = .ok (.aload_n 2, 1) := by decide +kernel
theorem dJ6_getChars_ba4f3_73 : decode cJ6_getChars_ba4f3 73 = .ok (.iinc 5 (-1), 3) := by decide +kernel
theorem dJ6_getChars_ba4f3_76 : decode cJ6_getChars_ba4f3 76 = .ok (.iload 5, 2) := by decide +kernel
theorem dJ6_getChars_ba4f3_78 : decode cJ6_getChars_ba4f3 78 = .ok (.getstatic 83, 3) := by decide +kernel
theorem dJ6_getChars_ba4f3_81 : decode cJ6_getChars_ba4f3 81 = .ok (.iload_n 0, 1) := by decide +kernel
theorem dJ6_getChars_ba4f3_82 : decode cJ6_getChars_ba4f3 82 = .ok (.ineg, 1) := by decide +kernel
theorem dJ6_getChars_ba4f3_83 : decode cJ6_getChars_ba4f3 83 = .ok (.baload, 1) := by decide +kernel
theorem dJ6_getChars_ba4f3_84 : decode cJ6_getChars_ba4f3 84 = .ok (.bastore, 1) := by decide +kernel
theorem dJ6_getChars_ba4f3_85 : decode cJ6_getChars_ba4f3 85 = .ok (.iload_n 0, 1) := by decide +kernel
theorem dJ6_getChars_ba4f3_86 : decode cJ6_getChars_ba4f3 86 = .ok (.bipush (-9), 2) := by decide +kernel
theorem dJ6_getChars_ba4f3_88 : decode cJ6_getChars_ba4f3 88 = .ok (.if_icmp .ge 16, 3) := by decide +kernel
theorem dJ6_getChars_ba4f3_91 : decode cJ6_getChars_ba4f3 91 = .ok (.aload_n 2, 1) := by decide +kernel
theorem dJ6_getChars_ba4f3_92 : decode cJ6_getChars_ba4f3 92 = .ok (.iinc 5 (-1), 3) := by decide +kernel
theorem dJ6_getChars_ba4f3_95 : decode cJ6_getChars_ba4f3 95 = .ok (.iload 5, 2) := by decide +kernel
theorem dJ6_getChars_ba4f3_97 : decode cJ6_getChars_ba4f3 97 = .ok (.getstatic 87, 3) := by decide +kernel
theorem dJ6_getChars_ba4f3_100 : decode cJ6_getChars_ba4f3 100 = .ok (.iload_n 0, 1) := by decide +kernel
theorem dJ6_getChars_ba4f3_101 : decode cJ6_getChars_ba4f3 101 = .ok (.ineg, 1) := by decide +kernel
theorem dJ6_getChars_ba4f3_102 : decode cJ6_getChars_ba4f3 102 = .ok (.baload, 1) := by decide +kernel
theorem dJ6_getChars_ba4f3_103 : decode cJ6_getChars_ba4f3 103 = .ok (.bastore, 1) := by decide +kernel
theorem dJ6_getChars_ba4f3_104 : decode cJ6_getChars_ba4f3 104 = .ok (.iload 6, 2) := by decide +kernel
theorem dJ6_getChars_ba4f3_106 : decode cJ6_getChars_ba4f3 106 = .ok (.ifCond .eq 12, 3) := by decide +kernel
theorem dJ6_getChars_ba4f3_118 : decode cJ6_getChars_ba4f3 118 = .ok (.iload 5, 2) := by decide +kernel
theorem dJ6_getChars_ba4f3_120 : decode cJ6_getChars_ba4f3 120 = .ok (.ireturn, 1) := by decide +kernel
set_option maxRecDepth 100000 in
set_option maxHeartbeats 4000000 in
theorem s_gcLoop {α : Nat → Nat} {D : va_G} {κ : Nat → ClassId} {p : Program} {l : Launch} {e : Env} {R : Room} {s : State} {m : MethodId} {args : Array Value} {below : List Frame} {meth : Method} {c : Code} {A0 : Nat → Prop} {Q : State → Prop} {n1 n2 : Nat} (C0 : s_Cx α D κ p s m args meth c cJ6_getChars_ba4f3 RJ6 7 A0) (b mm n : Nat) (hm : mm ≤ 65536) : ∀ (f w p1 : Nat) (a : Nat → Int32) (H : Heap) (locs : List Loc) (ls : Array Slot), w < f → w < 2 ^ 31 → p1 = n + sb_dg w → p1 ≤ mm → va_P D vwCl [(b, .inl (κ 1, mm, .inl a))] H → va_D A0 [(b, .inl (κ 1, mm, .inl a))] → va_S A0 s.heap H locs → lv_has ls 7 [(0, .int (-nI w)), (2, .ref b), (5, .int (nI p1)), (6, .int 0)] →
    (∀ (a2 : Nat → Int32) (H : Heap) (locs : List Loc) (ls : Array Slot), (∀ j, j < n ∨ p1 ≤ j → a2 j = a j) → (∀ i, i < sb_dg w → a2 (p1 - 1 - i) = sb_b (48 + w / 10 ^ i % 10)) → (sb_Fit a → sb_Fit a2) → va_P D vwCl [(b, .inl (κ 1, mm, .inl a2))] H → va_D A0 [(b, .inl (κ 1, mm, .inl a2))] → va_S A0 s.heap H locs → lv_has ls 7 [(5, .int (nI n)), (6, .int 0)] → W p l e R s m args below meth c H locs n1 n2 Q (F0 m 104 ls [])) →
    W p l e R s m args below meth c H locs n1 n2 Q (F0 m 22 ls []) := by
  obtain ⟨hx, hb, -, hown, hts, hK, hE, hA, hlocks⟩ := C0
  intro f
  induction f with
  | zero => intro w p1 a H locs ls h; omega
  | succ f ih =>
    intro w p1 a H locs ls hwf hw hp hpm hP hD hS hl hQ
    have hd1 := (sb_dg_in w).1
    have ew : (nI w).toNatClampNeg = w := nI_clamp hw
    by_cases h100 : w < 100
    · skip
      refine lv_iload_n hx hb dJ6_getChars_ba4f3_22 rfl (lv_at hl 0 rfl) ?_
      refine lv_bipush hx hb dJ6_getChars_ba4f3_23 (by decide : (Int8.ofInt (-100)).toInt32 = (-100)) ?_
      refine lv_icmp_gt hx hb dJ6_getChars_ba4f3_25 (tgt := 72) (by decide) (fun _ => ?_) (fun hq9 => absurd (show (-100 : Int32) < -nI w from by rw [show (-100 : Int32) = -nI 100 by decide +kernel]; exact (sb_nlt (by decide) hw).mpr h100) hq9)
      refine lv_aload_n hx hb dJ6_getChars_ba4f3_72 rfl (lv_at hl 1 rfl) ?_
      refine lv_iinc hx hb dJ6_getChars_ba4f3_73 hl (k := 2) rfl (show nI (p1) + Int32.ofInt (-1) = nI (p1 - 1) from by rw [show Int32.ofInt (-1) = -1 by decide]; exact sb_m1 (by omega)) (Nat.le_of_ble_eq_true rfl) (lv' := [(5, .int (nI (p1 - 1))), (0, .int (-nI w)), (2, .ref b), (6, .int 0)]) rfl (fun ls hl => ?_)
      refine lv_iload hx hb dJ6_getChars_ba4f3_76 (lv_at hl 0 rfl) ?_
      refine va_gets hx hb (hE.2.1.2.1) hS hown (hts _ jw_fl_30) (fun _ h9 => h9) dJ6_getChars_ba4f3_78 ?_
      refine lv_iload_n hx hb dJ6_getChars_ba4f3_81 rfl (lv_at hl 1 rfl) ?_
      refine lv_ineg hx hb dJ6_getChars_ba4f3_82 ?_
      refine lv_topi (fun x1 hx2 => ?_)
      obtain rfl : x1 = nI w := by rw [hx2]; exact (Int32.neg_neg)
      refine va_tb hx hb (hE.2.1.2.2.1) hS (vp_in_nI h100 (by decide)) (v := .int (nI (48 + w % 10))) (by show Value.int (nI (48 + (nI w).toNatClampNeg % 10)) = _; rw [nI_clamp (n := w) (by omega)]) dJ6_getChars_ba4f3_83 ?_
      refine va_bast hx hb hK hP hD hS 0 1 rfl rfl (vp_in_nI (by omega) (by omega)) dJ6_getChars_ba4f3_84 (fun H locs hP hD hS => ?_)
      have hP : va_P D vwCl [(b, .inl (κ 1, mm, .inl (upd a (p1 - 1) (sb_b (48 + w % 10)))))] H := by rw [← (show upd a (nI (p1 - 1)).toNatClampNeg (vp_nar .byte (nI (48 + w % 10))) = upd a (p1 - 1) (sb_b (48 + w % 10)) from by rw [nI_clamp (n := p1 - 1) (by omega), vp_nar_byte]; first | rfl | (unfold sb_b; rw [show 48 + w % 10 = 48 + w % 10 by omega]))]; exact hP
      have hD : va_D A0 [(b, .inl (κ 1, mm, .inl (upd a (p1 - 1) (sb_b (48 + w % 10)))))] := by rw [← (show upd a (nI (p1 - 1)).toNatClampNeg (vp_nar .byte (nI (48 + w % 10))) = upd a (p1 - 1) (sb_b (48 + w % 10)) from by rw [nI_clamp (n := p1 - 1) (by omega), vp_nar_byte]; first | rfl | (unfold sb_b; rw [show 48 + w % 10 = 48 + w % 10 by omega]))]; exact hD
      refine lv_iload_n hx hb dJ6_getChars_ba4f3_85 rfl (lv_at hl 1 rfl) ?_
      refine lv_bipush hx hb dJ6_getChars_ba4f3_86 (by decide : (Int8.ofInt (-9)).toInt32 = (-9)) ?_
      by_cases h9 : w < 10
      · skip
        refine lv_icmp_ge hx hb dJ6_getChars_ba4f3_88 (tgt := 104) (by decide) (fun _ => ?_) (fun hq9 => absurd (show (-9 : Int32) ≤ -nI w from by rw [show (-9 : Int32) = -nI 9 by decide +kernel]; exact (sb_nle (by decide) hw).mpr (by omega)) hq9)
        have hd : sb_dg w = 1 := if_pos h9
        refine hQ _ _ _ _ (fun j hj => pk_un (by omega)) (fun i hi => ?_) (fun hf => sb_fitU hf (sb_fitB _)) hP hD hS (by have h8 := lv_sub (l' := [(5, .int (nI (p1 - 1))), (6, .int 0)]) hl [0, 3] rfl; rw [show p1 - 1 = n by omega] at h8; exact h8)
        obtain rfl : i = 0 := by omega
        rw [Nat.sub_zero, pk_us, Nat.pow_zero, Nat.div_one]
      have hd : sb_dg w = 2 := by rw [sb_dg, if_neg h9, if_pos h100]
      have d2 : w / 10 % 10 = w / 10 := by omega
      refine lv_icmp_ge hx hb dJ6_getChars_ba4f3_88 (tgt := 104) (by decide) (fun hq9 => absurd hq9 (show ¬ (-9 : Int32) ≤ -nI w from fun z => by rw [show (-9 : Int32) = -nI 9 by decide +kernel] at z; have := (sb_nle (by decide) hw).mp z; omega)) (fun _ => ?_)
      refine lv_aload_n hx hb dJ6_getChars_ba4f3_91 rfl (lv_at hl 2 rfl) ?_
      refine lv_iinc hx hb dJ6_getChars_ba4f3_92 hl (k := 0) rfl (show nI (p1 - 1) + Int32.ofInt (-1) = nI (p1 - 1 - 1) from by rw [show Int32.ofInt (-1) = -1 by decide]; exact sb_m1 (by omega)) (Nat.le_of_ble_eq_true rfl) (lv' := [(5, .int (nI (p1 - 1 - 1))), (0, .int (-nI w)), (2, .ref b), (6, .int 0)]) rfl (fun ls hl => ?_)
      refine lv_iload hx hb dJ6_getChars_ba4f3_95 (lv_at hl 0 rfl) ?_
      refine va_gets hx hb (hE.2.1.2.2.2.1) hS hown (hts _ jw_fl_31) (fun _ h9 => h9) dJ6_getChars_ba4f3_97 ?_
      refine lv_iload_n hx hb dJ6_getChars_ba4f3_100 rfl (lv_at hl 1 rfl) ?_
      refine lv_ineg hx hb dJ6_getChars_ba4f3_101 ?_
      refine lv_topi (fun x3 hx4 => ?_)
      obtain rfl : x3 = nI w := by rw [hx4]; exact (Int32.neg_neg)
      refine va_tb hx hb (hE.2.1.2.2.2.2.1) hS (vp_in_nI h100 (by decide)) (v := .int (nI (48 + w / 10))) (by show Value.int (nI (48 + (nI w).toNatClampNeg / 10)) = _; rw [nI_clamp (n := w) (by omega)]) dJ6_getChars_ba4f3_102 ?_
      refine va_bast hx hb hK hP hD hS 0 1 rfl rfl (vp_in_nI (by omega) (by omega)) dJ6_getChars_ba4f3_103 (fun H locs hP hD hS => ?_)
      have hP : va_P D vwCl [(b, .inl (κ 1, mm, .inl (upd (upd a (p1 - 1) (sb_b (48 + w % 10))) (p1 - 1 - 1) (sb_b (48 + w / 10)))))] H := by rw [← (show upd (upd a (p1 - 1) (sb_b (48 + w % 10))) (nI (p1 - 1 - 1)).toNatClampNeg (vp_nar .byte (nI (48 + w / 10))) = upd (upd a (p1 - 1) (sb_b (48 + w % 10))) (p1 - 1 - 1) (sb_b (48 + w / 10)) from by rw [nI_clamp (n := p1 - 1 - 1) (by omega), vp_nar_byte]; first | rfl | (unfold sb_b; rw [show 48 + w / 10 = 48 + w / 10 by omega]))]; exact hP
      have hD : va_D A0 [(b, .inl (κ 1, mm, .inl (upd (upd a (p1 - 1) (sb_b (48 + w % 10))) (p1 - 1 - 1) (sb_b (48 + w / 10)))))] := by rw [← (show upd (upd a (p1 - 1) (sb_b (48 + w % 10))) (nI (p1 - 1 - 1)).toNatClampNeg (vp_nar .byte (nI (48 + w / 10))) = upd (upd a (p1 - 1) (sb_b (48 + w % 10))) (p1 - 1 - 1) (sb_b (48 + w / 10)) from by rw [nI_clamp (n := p1 - 1 - 1) (by omega), vp_nar_byte]; first | rfl | (unfold sb_b; rw [show 48 + w / 10 = 48 + w / 10 by omega]))]; exact hD
      refine hQ _ _ _ _ (fun j hj => by rw [pk_un (by omega), pk_un (by omega)]) (fun i hi => ?_) (fun hf => sb_fitU (sb_fitU hf (sb_fitB _)) (sb_fitB _)) hP hD hS (by have h8 := lv_sub (l' := [(5, .int (nI (p1 - 1 - 1))), (6, .int 0)]) hl [0, 3] rfl; rw [show p1 - 1 - 1 = n by omega] at h8; exact h8)
      obtain rfl | rfl : i = 0 ∨ i = 1 := by omega
      · rw [Nat.sub_zero, pk_un (by omega), pk_us, Nat.pow_zero, Nat.div_one]
      · rw [pk_us, Nat.pow_one, d2]
    have hd := sb_dg100 (w := w) (by omega) hw
    have hd2 := (sb_dg_in (w / 100)).1
    refine lv_iload_n hx hb dJ6_getChars_ba4f3_22 rfl (lv_at hl 0 rfl) ?_
    refine lv_bipush hx hb dJ6_getChars_ba4f3_23 (by decide : (Int8.ofInt (-100)).toInt32 = (-100)) ?_
    refine lv_icmp_gt hx hb dJ6_getChars_ba4f3_25 (tgt := 72) (by decide) (fun hq9 => absurd hq9 (show ¬ (-100 : Int32) < -nI w from fun z => by rw [show (-100 : Int32) = -nI 100 by decide +kernel] at z; exact h100 ((sb_nlt (by decide) hw).mp z))) (fun _ => ?_)
    refine lv_iload_n hx hb dJ6_getChars_ba4f3_28 rfl (lv_at hl 0 rfl) ?_
    refine lv_bipush hx hb dJ6_getChars_ba4f3_29 (by decide : (Int8.ofInt 100).toInt32 = 100) ?_
    refine lv_idiv hx hb dJ6_getChars_ba4f3_31 (by decide) ?_
    refine lv_topi (fun x1 hx2 => ?_)
    obtain rfl : x1 = (-nI (w / 100)) := by rw [hx2]; exact (sb_ndiv hw)
    refine lv_istore_n hx hb dJ6_getChars_ba4f3_32 rfl hl (Nat.le_of_ble_eq_true rfl) (lv' := [(3, .int (-nI (w / 100))), (0, .int (-nI w)), (2, .ref b), (5, .int (nI p1)), (6, .int 0)]) rfl (fun ls hl => ?_)
    refine lv_iload_n hx hb dJ6_getChars_ba4f3_33 rfl (lv_at hl 0 rfl) ?_
    refine lv_bipush hx hb dJ6_getChars_ba4f3_34 (by decide : (Int8.ofInt 100).toInt32 = 100) ?_
    refine lv_imul hx hb dJ6_getChars_ba4f3_36 ?_
    refine lv_iload_n hx hb dJ6_getChars_ba4f3_37 rfl (lv_at hl 1 rfl) ?_
    refine lv_isub hx hb dJ6_getChars_ba4f3_38 ?_
    refine lv_topi (fun x3 hx4 => ?_)
    obtain rfl : x3 = nI (w % 100) := by rw [hx4]; exact (sb_nrem hw)
    refine lv_istore hx hb dJ6_getChars_ba4f3_39 hl (Nat.le_of_ble_eq_true rfl) (lv' := [(4, .int (nI (w % 100))), (3, .int (-nI (w / 100))), (0, .int (-nI w)), (2, .ref b), (5, .int (nI p1)), (6, .int 0)]) rfl (fun ls hl => ?_)
    refine lv_iload_n hx hb dJ6_getChars_ba4f3_41 rfl (lv_at hl 1 rfl) ?_
    refine lv_istore_n hx hb dJ6_getChars_ba4f3_42 rfl hl (Nat.le_of_ble_eq_true rfl) (lv' := [(0, .int (-nI (w / 100))), (4, .int (nI (w % 100))), (3, .int (-nI (w / 100))), (2, .ref b), (5, .int (nI p1)), (6, .int 0)]) rfl (fun ls hl => ?_)
    refine lv_aload_n hx hb dJ6_getChars_ba4f3_43 rfl (lv_at hl 3 rfl) ?_
    refine lv_iinc hx hb dJ6_getChars_ba4f3_44 hl (k := 4) rfl (show nI (p1) + Int32.ofInt (-1) = nI (p1 - 1) from by rw [show Int32.ofInt (-1) = -1 by decide]; exact sb_m1 (by omega)) (Nat.le_of_ble_eq_true rfl) (lv' := [(5, .int (nI (p1 - 1))), (0, .int (-nI (w / 100))), (4, .int (nI (w % 100))), (3, .int (-nI (w / 100))), (2, .ref b), (6, .int 0)]) rfl (fun ls hl => ?_)
    refine lv_iload hx hb dJ6_getChars_ba4f3_47 (lv_at hl 0 rfl) ?_
    refine va_gets hx hb (hE.2.1.2.1) hS hown (hts _ jw_fl_30) (fun _ h9 => h9) dJ6_getChars_ba4f3_49 ?_
    refine lv_iload hx hb dJ6_getChars_ba4f3_52 (lv_at hl 2 rfl) ?_
    refine va_tb hx hb (hE.2.1.2.2.1) hS (vp_in_nI (by omega) (by decide)) (v := .int (nI (48 + (w % 100) % 10))) (by show Value.int (nI (48 + (nI (w % 100)).toNatClampNeg % 10)) = _; rw [nI_clamp (n := (w % 100)) (by omega)]) dJ6_getChars_ba4f3_54 ?_
    refine va_bast hx hb hK hP hD hS 0 1 rfl rfl (vp_in_nI (by omega) (by omega)) dJ6_getChars_ba4f3_55 (fun H locs hP hD hS => ?_)
    have hP : va_P D vwCl [(b, .inl (κ 1, mm, .inl (upd a (p1 - 1) (sb_b (48 + w % 10)))))] H := by rw [← (show upd a (nI (p1 - 1)).toNatClampNeg (vp_nar .byte (nI (48 + (w % 100) % 10))) = upd a (p1 - 1) (sb_b (48 + w % 10)) from by rw [nI_clamp (n := p1 - 1) (by omega), vp_nar_byte]; first | rfl | (unfold sb_b; rw [show 48 + (w % 100) % 10 = 48 + w % 10 by omega]))]; exact hP
    have hD : va_D A0 [(b, .inl (κ 1, mm, .inl (upd a (p1 - 1) (sb_b (48 + w % 10)))))] := by rw [← (show upd a (nI (p1 - 1)).toNatClampNeg (vp_nar .byte (nI (48 + (w % 100) % 10))) = upd a (p1 - 1) (sb_b (48 + w % 10)) from by rw [nI_clamp (n := p1 - 1) (by omega), vp_nar_byte]; first | rfl | (unfold sb_b; rw [show 48 + (w % 100) % 10 = 48 + w % 10 by omega]))]; exact hD
    refine lv_aload_n hx hb dJ6_getChars_ba4f3_56 rfl (lv_at hl 4 rfl) ?_
    refine lv_iinc hx hb dJ6_getChars_ba4f3_57 hl (k := 0) rfl (show nI (p1 - 1) + Int32.ofInt (-1) = nI (p1 - 1 - 1) from by rw [show Int32.ofInt (-1) = -1 by decide]; exact sb_m1 (by omega)) (Nat.le_of_ble_eq_true rfl) (lv' := [(5, .int (nI (p1 - 1 - 1))), (0, .int (-nI (w / 100))), (4, .int (nI (w % 100))), (3, .int (-nI (w / 100))), (2, .ref b), (6, .int 0)]) rfl (fun ls hl => ?_)
    refine lv_iload hx hb dJ6_getChars_ba4f3_60 (lv_at hl 0 rfl) ?_
    refine va_gets hx hb (hE.2.1.2.2.2.1) hS hown (hts _ jw_fl_31) (fun _ h9 => h9) dJ6_getChars_ba4f3_62 ?_
    refine lv_iload hx hb dJ6_getChars_ba4f3_65 (lv_at hl 2 rfl) ?_
    refine va_tb hx hb (hE.2.1.2.2.2.2.1) hS (vp_in_nI (by omega) (by decide)) (v := .int (nI (48 + (w % 100) / 10))) (by show Value.int (nI (48 + (nI (w % 100)).toNatClampNeg / 10)) = _; rw [nI_clamp (n := (w % 100)) (by omega)]) dJ6_getChars_ba4f3_67 ?_
    refine va_bast hx hb hK hP hD hS 0 1 rfl rfl (vp_in_nI (by omega) (by omega)) dJ6_getChars_ba4f3_68 (fun H locs hP hD hS => ?_)
    have hP : va_P D vwCl [(b, .inl (κ 1, mm, .inl (upd (upd a (p1 - 1) (sb_b (48 + w % 10))) (p1 - 1 - 1) (sb_b (48 + w / 10 % 10)))))] H := by rw [← (show upd (upd a (p1 - 1) (sb_b (48 + w % 10))) (nI (p1 - 1 - 1)).toNatClampNeg (vp_nar .byte (nI (48 + (w % 100) / 10))) = upd (upd a (p1 - 1) (sb_b (48 + w % 10))) (p1 - 1 - 1) (sb_b (48 + w / 10 % 10)) from by rw [nI_clamp (n := p1 - 1 - 1) (by omega), vp_nar_byte]; first | rfl | (unfold sb_b; rw [show 48 + (w % 100) / 10 = 48 + w / 10 % 10 by omega]))]; exact hP
    have hD : va_D A0 [(b, .inl (κ 1, mm, .inl (upd (upd a (p1 - 1) (sb_b (48 + w % 10))) (p1 - 1 - 1) (sb_b (48 + w / 10 % 10)))))] := by rw [← (show upd (upd a (p1 - 1) (sb_b (48 + w % 10))) (nI (p1 - 1 - 1)).toNatClampNeg (vp_nar .byte (nI (48 + (w % 100) / 10))) = upd (upd a (p1 - 1) (sb_b (48 + w % 10))) (p1 - 1 - 1) (sb_b (48 + w / 10 % 10)) from by rw [nI_clamp (n := p1 - 1 - 1) (by omega), vp_nar_byte]; first | rfl | (unfold sb_b; rw [show 48 + (w % 100) / 10 = 48 + w / 10 % 10 by omega]))]; exact hD
    refine lv_goto hx hb dJ6_getChars_ba4f3_69 (tgt := 22) (by decide) ?_
    refine ih (w / 100) (p1 - 1 - 1) _ _ _ _ (by omega) (by omega) (by omega) (by omega) hP hD hS (lv_sub hl [1, 4, 0, 5] rfl) (fun a2 H locs ls h1 h2 h3 hP hD hS hl => ?_)
    refine hQ a2 _ _ _ (fun j hj => by rw [h1 j (by omega), pk_un (by omega), pk_un (by omega)]) (fun i hi => ?_) (fun hf => h3 (sb_fitU (sb_fitU hf (sb_fitB _)) (sb_fitB _))) hP hD hS hl
    match i, hi with
    | 0, _ => rw [Nat.sub_zero, h1 _ (by omega), pk_un (by omega), pk_us, Nat.pow_zero, Nat.div_one]
    | 1, _ => rw [h1 _ (by omega), pk_us, Nat.pow_one]
    | k + 2, hi =>
      rw [show p1 - 1 - (k + 2) = p1 - 1 - 1 - 1 - k by omega, h2 k (by omega), Nat.div_div_eq_div_mul, show 100 * 10 ^ k = 10 ^ (k + 2) by rw [show k + 2 = k + 1 + 1 from rfl, Nat.pow_succ, Nat.pow_succ]; omega]
set_option maxRecDepth 100000 in
set_option maxHeartbeats 4000000 in
theorem s_getChars {α : Nat → Nat} {D : va_G} {κ : Nat → ClassId} (b mm n v : Nat) (a : Nat → Int32) (hm : mm ≤ 65536) (hv0 : v < 2 ^ 31) (hp : n + sb_dg v ≤ mm) (l : Launch) (sz : Nat) : Met l yJ6_getChars_ba4f3 (Cond.code yJ6_getChars_ba4f3 cJ6_getChars_ba4f3 7 (Option.some Jvm.ClassFile.FieldType.int) :: q_W) ({ frames := 0, cells := 0, slots := 0, locals := 0 } : Room) (s_Pc α D κ [.int (nI v), .int (nI (n + sb_dg v)), .ref b] [(b, .inl (κ 1, mm, .inl a))] sz) (va_Qi (fun (r : Int32) (a2 : Nat → Int32) => r = nI n ∧ (∀ j, j < n ∨ n + sb_dg v ≤ j → a2 j = a j) ∧ (∀ i, i < sb_dg v → a2 (n + sb_dg v - 1 - i) = sb_b (48 + v / 10 ^ i % 10)) ∧ (sb_Fit a → sb_Fit a2)) (fun a2 t => va_P D vwCl [(b, .inl (κ 1, mm, .inl a2))] t.heap ∧ va_D (va_A [(b, .inl (κ 1, mm, .inl a))] sz) [(b, .inl (κ 1, mm, .inl a2))]) (va_A [(b, .inl (κ 1, mm, .inl a))] sz)) 0 0 (va_A [(b, .inl (κ 1, mm, .inl a))] sz) := by
  refine Met.ofW (cc := cJ6_getChars_ba4f3) (maxL := 7) (ret := (Option.some Jvm.ClassFile.FieldType.int)) (by decide) rfl ?_
  intro p e s m args below meth c s₁ B hml hv
  obtain ⟨C, hr, ⟨ls, hle, hl⟩, hP, hD, hS⟩ := s_enter RJ6 rfl (Nat.le_of_ble_eq_true rfl) B hml hv
  obtain rfl : s.heap.size = sz := hv.2.1
  clear hv
  rw [hle]
  generalize va_A [(b, .inl (κ 1, mm, .inl a))] s.heap.size = A0 at C hD hS ⊢
  have hl : lv_has ls 7 [(0, .int (nI v)), (1, .int (nI (n + sb_dg v))), (2, .ref b)] := hl
  have C0 := C
  obtain ⟨hx, hb, -, hown, hts, hK, hE, hA, hlocks⟩ := C
  refine lv_iload_n hx hb dJ6_getChars_ba4f3_0 rfl (lv_at hl 1 rfl) ?_
  refine lv_istore hx hb dJ6_getChars_ba4f3_1 hl (Nat.le_of_ble_eq_true rfl) (lv' := [(5, .int (nI (n + sb_dg v))), (0, .int (nI v)), (1, .int (nI (n + sb_dg v))), (2, .ref b)]) rfl (fun ls hl => ?_)
  refine lv_iload_n hx hb dJ6_getChars_ba4f3_3 rfl (lv_at hl 1 rfl) ?_
  refine lv_if_ge hx hb dJ6_getChars_ba4f3_4 (tgt := 11) (by decide) (fun _ => ?_) (fun hq9 => absurd (nI_pos' hv0) hq9)
  refine lv_iconst hx hb dJ6_getChars_ba4f3_11 (by decide : Int32.ofInt 0 = 0) ?_
  refine lv_istore hx hb dJ6_getChars_ba4f3_12 hl (Nat.le_of_ble_eq_true rfl) (lv' := [(6, .int 0), (5, .int (nI (n + sb_dg v))), (0, .int (nI v)), (1, .int (nI (n + sb_dg v))), (2, .ref b)]) rfl (fun ls hl => ?_)
  refine lv_iload hx hb dJ6_getChars_ba4f3_14 (lv_at hl 0 rfl) ?_
  refine lv_if_ne hx hb dJ6_getChars_ba4f3_16 (tgt := 22) (by decide) (fun hq9 => absurd ((by decide : (0 : Int32) = 0)) hq9) (fun _ => ?_)
  refine lv_iload_n hx hb dJ6_getChars_ba4f3_19 rfl (lv_at hl 2 rfl) ?_
  refine lv_ineg hx hb dJ6_getChars_ba4f3_20 ?_
  refine lv_istore_n hx hb dJ6_getChars_ba4f3_21 rfl hl (Nat.le_of_ble_eq_true rfl) (lv' := [(0, .int (-(nI v))), (6, .int 0), (5, .int (nI (n + sb_dg v))), (1, .int (nI (n + sb_dg v))), (2, .ref b)]) rfl (fun ls hl => ?_)
  refine s_gcLoop C0 b mm n hm (v + 1) v (n + sb_dg v) a _ _ _ (by omega) hv0 rfl hp hP hD hS (lv_sub hl [0, 4, 2, 1] rfl) (fun a2 H locs ls h1 h2 h3 hP hD hS hl => ?_)
  refine lv_iload hx hb dJ6_getChars_ba4f3_104 (lv_at hl 1 rfl) ?_
  refine lv_if_eq hx hb dJ6_getChars_ba4f3_106 (tgt := 118) (by decide) (fun _ => ?_) (fun hq9 => absurd ((by decide : (0 : Int32) = 0)) hq9)
  refine lv_iload hx hb dJ6_getChars_ba4f3_118 (lv_at hl 0 rfl) ?_
  exact W.iret (v := nI n) hx hb hr (fun t ht hW => ⟨⟨nI n, a2, rfl, ⟨rfl, h1, h2, h3⟩, by rw [ht]; exact hP, hD⟩, hS.F ht⟩) hS.2.2 dJ6_getChars_ba4f3_120 hlocks
