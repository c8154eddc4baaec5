/-! 39.exec. -/
def F_X8_type (ch : Int32) (σ : q_M) : (Int32 ⊕ String) × q_M := (if ch < 32 then ((.inr "java/lang/IllegalArgumentException"), σ) else (if 126 < ch then ((.inr "java/lang/IllegalArgumentException"), σ) else (if (σ 225 3) < 60 then (q_L (q_apC 225 ch σ) (fun σ4 : q_M => ((.inl (σ4 225 3)), σ4))) else ((.inr "java/lang/IllegalStateException"), σ))))
def P_X8_type (ch : Int32) (σ : q_M) : Prop := ((ch < 32 → True) ∧ (¬ ch < 32 → ((126 < ch → True) ∧ (¬ 126 < ch → (((σ 225 3) < 60 → (¬ ch < 0 ∧ (ch < 256 ∧ (q_cut σ 225 ∧ True)))) ∧ (¬ (σ 225 3) < 60 → True))))))
set_option maxRecDepth 100000 in
theorem k_X8_type {α β : Nat → Nat} {D : va_G} {κ : Nat → ClassId} (ch : Int32) (σ : q_M) (hP : P_X8_type ch σ) : q_C α β D κ yX8_type cX8_type 2 (Option.some Jvm.ClassFile.FieldType.int) 6 161 1 204 [.ref 220, .int ch] σ (q_oxi (F_X8_type ch σ).1) (F_X8_type ch σ).2 := by
  refine q_enter (own := RX8) (F := F_X8) (G := G_X8) (by decide +kernel) rfl Fok_X8 Gok_X8 (Nat.le_of_ble_eq_true rfl) (fun p l e s m args below meth c A hfl C hr hT => ?_)
  generalize hF : F_X8_type ch σ = rr
  unfold F_X8_type at hF
  refine q_go C tk_X8_type [(0, 2)] [] (pc1 := 3) (σ1 := σ) (lv1 := [(0, .ref 220), (1, .int ch)]) (st1 := [.int 32, .int ch]) rfl trivial ?_
  by_cases c1 : ch < 32
  · rw [if_pos c1] at hF
    refine q_go C tk_X8_type [(2, 1)] [true] (pc1 := 12) (σ1 := σ) (lv1 := [(0, .ref 220), (1, .int ch)]) (st1 := []) rfl ⟨c1, trivial⟩ ?_
    exact q_throwW C hT hfl xk_IllegalArgumentException (is := 302) (List.mem_of_getElem? (l := q_msg) (i := 15) rfl) (q_dc (z := (12, .new 205, 3, 0, 0)) tk_X8_type 6 rfl) (q_dc (z := (15, .dup, 1, 0, 0)) tk_X8_type 7 rfl) (q_dc (z := (16, .ldc_w 302, 3, 0, 0)) tk_X8_type 8 rfl) (q_dc (z := (19, .invokespecial 209, 3, 0, 0)) tk_X8_type 9 rfl) (q_dc (z := (22, .athrow, 1, 0, 0)) tk_X8_type 10 rfl) (Nat.le_of_ble_eq_true rfl) (Nat.le_of_ble_eq_true rfl) (Nat.le_of_ble_eq_true rfl) (Nat.le_of_ble_eq_true rfl) (Nat.le_of_ble_eq_true rfl) (congrArg Prod.snd hF) (congrArg (fun z => q_oxi z.1) hF.symm) (Nat.le_of_ble_eq_true rfl) (Nat.le_of_ble_eq_true rfl)
  · rw [if_neg c1] at hF
    refine q_go C tk_X8_type [(2, 3)] [false] (pc1 := 9) (σ1 := σ) (lv1 := [(0, .ref 220), (1, .int ch)]) (st1 := [.int 126, .int ch]) rfl ⟨c1, trivial⟩ ?_
    by_cases c2 : 126 < ch
    · rw [if_pos c2] at hF
      refine q_go C tk_X8_type [(5, 1)] [false] (pc1 := 12) (σ1 := σ) (lv1 := [(0, .ref 220), (1, .int ch)]) (st1 := []) rfl ⟨c2, trivial⟩ ?_
      exact q_throwW C hT hfl xk_IllegalArgumentException (is := 302) (List.mem_of_getElem? (l := q_msg) (i := 15) rfl) (q_dc (z := (12, .new 205, 3, 0, 0)) tk_X8_type 6 rfl) (q_dc (z := (15, .dup, 1, 0, 0)) tk_X8_type 7 rfl) (q_dc (z := (16, .ldc_w 302, 3, 0, 0)) tk_X8_type 8 rfl) (q_dc (z := (19, .invokespecial 209, 3, 0, 0)) tk_X8_type 9 rfl) (q_dc (z := (22, .athrow, 1, 0, 0)) tk_X8_type 10 rfl) (Nat.le_of_ble_eq_true rfl) (Nat.le_of_ble_eq_true rfl) (Nat.le_of_ble_eq_true rfl) (Nat.le_of_ble_eq_true rfl) (Nat.le_of_ble_eq_true rfl) (congrArg Prod.snd hF) (congrArg (fun z => q_oxi z.1) hF.symm) (Nat.le_of_ble_eq_true rfl) (Nat.le_of_ble_eq_true rfl)
    · rw [if_neg c2] at hF
      refine q_go C tk_X8_type [(5, 1), (11, 3)] [true] (pc1 := 30) (σ1 := σ) (lv1 := [(0, .ref 220), (1, .int ch)]) (st1 := [.ref 225]) rfl ⟨c2, rfl, rfl, trivial⟩ ?_
      refine q_callG C hfl mw_J4_length_8abf5 mi_J4_length_8abf5 me_J4_length_8abf5 lk_X8_290 (k_sbLen 225 σ (Or.inl rfl)) (rest := []) rfl (q_recvB C (Or.inl rfl)) rfl (q_dc (z := (30, .invokevirtual 290, 3, 0, 0)) tk_X8_type 14 rfl) (Nat.le_of_ble_eq_true rfl) ⟨Nat.le_of_ble_eq_true rfl, Nat.le_of_ble_eq_true rfl⟩ ⟨Nat.le_of_ble_eq_true rfl, Nat.le_of_ble_eq_true rfl⟩ ?_
      refine q_nrm 33 [.int (σ 225 3)] 0 0 rfl rfl rfl rfl ?_
      refine q_go C tk_X8_type [(15, 1)] [] (pc1 := 35) (σ1 := σ) (lv1 := [(0, .ref 220), (1, .int ch)]) (st1 := [.int 60, .int (σ 225 3)]) rfl trivial ?_
      by_cases c3 : (σ 225 3) < 60
      · rw [if_pos c3] at hF
        refine q_go C tk_X8_type [(16, 1), (22, 4)] [true] (pc1 := 57) (σ1 := σ) (lv1 := [(0, .ref 220), (1, .int ch)]) (st1 := [.int ch, .ref 225]) rfl ⟨c3, rfl, rfl, trivial⟩ ?_
        refine q_callG C hfl mw_J4_append_cf468 mi_J4_append_cf468 me_J4_append_cf468 lk_X8_279 (k_sbAppC 225 ch σ (Or.inl rfl) (((hP.2 c1).2 c2).1 c3).1 (((hP.2 c1).2 c2).1 c3).2.1 (((hP.2 c1).2 c2).1 c3).2.2.1) (rest := []) rfl (q_recvB C (Or.inl rfl)) rfl (q_dc (z := (57, .invokevirtual 279, 3, 0, 0)) tk_X8_type 26 rfl) (Nat.le_of_ble_eq_true rfl) ⟨Nat.le_of_ble_eq_true rfl, Nat.le_of_ble_eq_true rfl⟩ ⟨Nat.le_of_ble_eq_true rfl, Nat.le_of_ble_eq_true rfl⟩ ?_
        refine q_nrm 60 [.ref 225] 1 204 rfl rfl rfl rfl ?_
        generalize e5 : (q_apC 225 ch σ) = σ4
        replace hF := q_let e5 hF
        refine q_go C tk_X8_type [(27, 4)] [] (pc1 := 68) (σ1 := σ4) (lv1 := [(0, .ref 220), (1, .int ch)]) (st1 := [.ref 225]) rfl ⟨rfl, rfl, trivial⟩ ?_
        refine q_callG C hfl mw_J4_length_8abf5 mi_J4_length_8abf5 me_J4_length_8abf5 lk_X8_290 (k_sbLen 225 σ4 (Or.inl rfl)) (rest := []) rfl (q_recvB C (Or.inl rfl)) rfl (q_dc (z := (68, .invokevirtual 290, 3, 0, 0)) tk_X8_type 31 rfl) (Nat.le_of_ble_eq_true rfl) ⟨Nat.le_of_ble_eq_true rfl, Nat.le_of_ble_eq_true rfl⟩ ⟨Nat.le_of_ble_eq_true rfl, Nat.le_of_ble_eq_true rfl⟩ ?_
        refine q_nrm 71 [.int (σ4 225 3)] 1 204 rfl rfl rfl rfl ?_
        exact q_iret C hr (q_dc (z := (71, .ireturn, 1, 0, 0)) tk_X8_type 32 rfl) (congrArg Prod.snd hF) (congrArg (fun z => q_oxi z.1) hF.symm) (Nat.le_of_ble_eq_true rfl) (Nat.le_of_ble_eq_true rfl)
      · rw [if_neg c3] at hF
        refine q_go C tk_X8_type [(16, 1)] [false] (pc1 := 38) (σ1 := σ) (lv1 := [(0, .ref 220), (1, .int ch)]) (st1 := []) rfl ⟨c3, trivial⟩ ?_
        exact q_throwW C hT hfl xk_IllegalStateException (is := 307) (List.mem_of_getElem? (l := q_msg) (i := 16) rfl) (q_dc (z := (38, .new 261, 3, 0, 0)) tk_X8_type 17 rfl) (q_dc (z := (41, .dup, 1, 0, 0)) tk_X8_type 18 rfl) (q_dc (z := (42, .ldc_w 307, 3, 0, 0)) tk_X8_type 19 rfl) (q_dc (z := (45, .invokespecial 265, 3, 0, 0)) tk_X8_type 20 rfl) (q_dc (z := (48, .athrow, 1, 0, 0)) tk_X8_type 21 rfl) (Nat.le_of_ble_eq_true rfl) (Nat.le_of_ble_eq_true rfl) (Nat.le_of_ble_eq_true rfl) (Nat.le_of_ble_eq_true rfl) (Nat.le_of_ble_eq_true rfl) (congrArg Prod.snd hF) (congrArg (fun z => q_oxi z.1) hF.symm) (Nat.le_of_ble_eq_true rfl) (Nat.le_of_ble_eq_true rfl)
def F_X8_appendStage (t : Nat) (σ : q_M) : q_M := (if (σ t 3) = 2 then (q_L (q_apC 226 114 σ) (fun σ2 : q_M => (q_L (q_apI 226 (σ2 t 6) σ2) (fun σ4 : q_M => σ4)))) else (if (σ t 3) = 3 then (q_L (q_apC 226 102 σ) (fun σ7 : q_M => (q_L (q_apI 226 (F_X6_result t σ7) σ7) (fun σ9 : q_M => σ9)))) else (if (σ t 3) = 4 then (q_L (q_apC 226 119 σ) (fun σ12 : q_M => σ12)) else (q_L (q_apC 226 45 σ) (fun σ14 : q_M => σ14)))))
def P_X8_appendStage (t : Nat) (σ : q_M) : Prop := (((σ t 3) = 2 → (q_cut σ 226 ∧ (∀ σ2 : q_M, (q_apC 226 114 σ) = σ2 → (¬ (σ2 t 6) < 0 ∧ (q_cut σ2 226 ∧ True))))) ∧ (¬ (σ t 3) = 2 → (((σ t 3) = 3 → (q_cut σ 226 ∧ (∀ σ7 : q_M, (q_apC 226 102 σ) = σ7 → (¬ (F_X6_result t σ7) < 0 ∧ (q_cut σ7 226 ∧ True))))) ∧ (¬ (σ t 3) = 3 → (((σ t 3) = 4 → (q_cut σ 226 ∧ True)) ∧ (¬ (σ t 3) = 4 → (q_cut σ 226 ∧ True)))))))
set_option maxRecDepth 100000 in
theorem k_X8_appendStage {α β : Nat → Nat} {D : va_G} {κ : Nat → ClassId} (t : Nat) (σ : q_M) (h_t : q_kd t = 7) (hP : P_X8_appendStage t σ) : q_C α β D κ yX8_appendStage cX8_appendStage 2 (Option.none : Option Jvm.ClassFile.FieldType) 6 161 2 428 [.ref 220, .ref t] σ q_ov (F_X8_appendStage t σ) := by
  refine q_enter (own := RX8) (F := F_X8) (G := G_X8) (by decide +kernel) rfl Fok_X8 Gok_X8 (Nat.le_of_ble_eq_true rfl) (fun p l e s m args below meth c A hfl C hr hT => ?_)
  generalize hF : F_X8_appendStage t σ = rr
  unfold F_X8_appendStage at hF
  refine q_go C tk_X8_appendStage [(0, 3)] [] (pc1 := 7) (σ1 := σ) (lv1 := [(0, .ref 220), (1, .ref t)]) (st1 := [q_e 2, q_e (σ t 3)]) rfl ⟨h_t, trivial⟩ ?_
  by_cases c1 : (σ t 3) = 2
  · rw [if_pos c1] at hF
    refine q_go C tk_X8_appendStage [(3, 4)] [false] (pc1 := 16) (σ1 := σ) (lv1 := [(0, .ref 220), (1, .ref t)]) (st1 := [.int 114, .ref 226]) rfl ⟨(congrArg Int32.toUInt32 c1), rfl, trivial⟩ ?_
    refine q_callG C hfl mw_J4_append_cf468 mi_J4_append_cf468 me_J4_append_cf468 lk_X8_279 (k_sbAppC 226 114 σ (Or.inr rfl) (by decide) (by decide) (hP.1 c1).1) (rest := []) rfl (q_recvB C (Or.inr rfl)) rfl (q_dc (z := (16, .invokevirtual 279, 3, 0, 0)) tk_X8_appendStage 7 rfl) (Nat.le_of_ble_eq_true rfl) ⟨Nat.le_of_ble_eq_true rfl, Nat.le_of_ble_eq_true rfl⟩ ⟨Nat.le_of_ble_eq_true rfl, Nat.le_of_ble_eq_true rfl⟩ ?_
    refine q_nrm 19 [.ref 226] 1 204 rfl rfl rfl rfl ?_
    generalize e3 : (q_apC 226 114 σ) = σ2
    replace hF := q_let e3 hF
    refine q_go C tk_X8_appendStage [(8, 2)] [] (pc1 := 23) (σ1 := σ2) (lv1 := [(0, .ref 220), (1, .ref t)]) (st1 := [.int (σ2 t 6), .ref 226]) rfl ⟨h_t, trivial⟩ ?_
    refine q_callG C hfl mw_J4_append_bf812 mi_J4_append_bf812 me_J4_append_bf812 lk_X8_283 (k_sbAppI 226 (σ2 t 6) σ2 (Or.inr rfl) ((hP.1 c1).2 σ2 e3).1 ((hP.1 c1).2 σ2 e3).2.1) (rest := []) rfl (q_recvB C (Or.inr rfl)) rfl (q_dc (z := (23, .invokevirtual 283, 3, 0, 0)) tk_X8_appendStage 10 rfl) (Nat.le_of_ble_eq_true rfl) ⟨Nat.le_of_ble_eq_true rfl, Nat.le_of_ble_eq_true rfl⟩ ⟨Nat.le_of_ble_eq_true rfl, Nat.le_of_ble_eq_true rfl⟩ ?_
    refine q_nrm 26 [.ref 226] 2 428 rfl rfl rfl rfl ?_
    generalize e5 : (q_apI 226 (σ2 t 6) σ2) = σ4
    replace hF := q_let e5 hF
    refine q_go C tk_X8_appendStage [(11, 2)] [] (pc1 := 93) (σ1 := σ4) (lv1 := [(0, .ref 220), (1, .ref t)]) (st1 := []) rfl trivial ?_
    exact q_vret C hr (q_dc (z := (93, .return_, 1, 0, 0)) tk_X8_appendStage 41 rfl) hF rfl (Nat.le_of_ble_eq_true rfl) (Nat.le_of_ble_eq_true rfl)
  · rw [if_neg c1] at hF
    refine q_go C tk_X8_appendStage [(3, 1), (13, 3)] [true] (pc1 := 37) (σ1 := σ) (lv1 := [(0, .ref 220), (1, .ref t)]) (st1 := [q_e 3, q_e (σ t 3)]) rfl ⟨(fun q => c1 (q_u32 q)), h_t, trivial⟩ ?_
    by_cases c6 : (σ t 3) = 3
    · rw [if_pos c6] at hF
      refine q_go C tk_X8_appendStage [(16, 4)] [false] (pc1 := 46) (σ1 := σ) (lv1 := [(0, .ref 220), (1, .ref t)]) (st1 := [.int 102, .ref 226]) rfl ⟨(congrArg Int32.toUInt32 c6), rfl, trivial⟩ ?_
      refine q_callG C hfl mw_J4_append_cf468 mi_J4_append_cf468 me_J4_append_cf468 lk_X8_279 (k_sbAppC 226 102 σ (Or.inr rfl) (by decide) (by decide) ((hP.2 c1).1 c6).1) (rest := []) rfl (q_recvB C (Or.inr rfl)) rfl (q_dc (z := (46, .invokevirtual 279, 3, 0, 0)) tk_X8_appendStage 20 rfl) (Nat.le_of_ble_eq_true rfl) ⟨Nat.le_of_ble_eq_true rfl, Nat.le_of_ble_eq_true rfl⟩ ⟨Nat.le_of_ble_eq_true rfl, Nat.le_of_ble_eq_true rfl⟩ ?_
      refine q_nrm 49 [.ref 226] 1 204 rfl rfl rfl rfl ?_
      generalize e8 : (q_apC 226 102 σ) = σ7
      replace hF := q_let e8 hF
      refine q_go C tk_X8_appendStage [(21, 1)] [] (pc1 := 50) (σ1 := σ7) (lv1 := [(0, .ref 220), (1, .ref t)]) (st1 := [.ref t, .ref 226]) rfl trivial ?_
      refine q_callV C hfl mw_X6_result mi_X6_result me_X6_result lk_X8_232 (k_X6_result t σ7 h_t) (rest := [.ref 226]) rfl h_t rfl (by decide) (by decide) rfl (q_dc (z := (50, .invokevirtual 232, 3, 0, 0)) tk_X8_appendStage 22 rfl) (Nat.le_of_ble_eq_true rfl) ⟨Nat.le_of_ble_eq_true rfl, Nat.le_of_ble_eq_true rfl⟩ ⟨Nat.le_of_ble_eq_true rfl, Nat.le_of_ble_eq_true rfl⟩ ?_
      refine q_nrm 53 [.int (F_X6_result t σ7), .ref 226] 1 204 rfl rfl rfl rfl ?_
      refine q_callG C hfl mw_J4_append_bf812 mi_J4_append_bf812 me_J4_append_bf812 lk_X8_283 (k_sbAppI 226 (F_X6_result t σ7) σ7 (Or.inr rfl) (((hP.2 c1).1 c6).2 σ7 e8).1 (((hP.2 c1).1 c6).2 σ7 e8).2.1) (rest := []) rfl (q_recvB C (Or.inr rfl)) rfl (q_dc (z := (53, .invokevirtual 283, 3, 0, 0)) tk_X8_appendStage 23 rfl) (Nat.le_of_ble_eq_true rfl) ⟨Nat.le_of_ble_eq_true rfl, Nat.le_of_ble_eq_true rfl⟩ ⟨Nat.le_of_ble_eq_true rfl, Nat.le_of_ble_eq_true rfl⟩ ?_
      refine q_nrm 56 [.ref 226] 2 428 rfl rfl rfl rfl ?_
      generalize e10 : (q_apI 226 (F_X6_result t σ7) σ7) = σ9
      replace hF := q_let e10 hF
      refine q_go C tk_X8_appendStage [(24, 2)] [] (pc1 := 93) (σ1 := σ9) (lv1 := [(0, .ref 220), (1, .ref t)]) (st1 := []) rfl trivial ?_
      exact q_vret C hr (q_dc (z := (93, .return_, 1, 0, 0)) tk_X8_appendStage 41 rfl) hF rfl (Nat.le_of_ble_eq_true rfl) (Nat.le_of_ble_eq_true rfl)
    · rw [if_neg c6] at hF
      refine q_go C tk_X8_appendStage [(16, 1), (26, 3)] [true] (pc1 := 67) (σ1 := σ) (lv1 := [(0, .ref 220), (1, .ref t)]) (st1 := [q_e 4, q_e (σ t 3)]) rfl ⟨(fun q => c6 (q_u32 q)), h_t, trivial⟩ ?_
      by_cases c11 : (σ t 3) = 4
      · rw [if_pos c11] at hF
        refine q_go C tk_X8_appendStage [(29, 4)] [false] (pc1 := 76) (σ1 := σ) (lv1 := [(0, .ref 220), (1, .ref t)]) (st1 := [.int 119, .ref 226]) rfl ⟨(congrArg Int32.toUInt32 c11), rfl, trivial⟩ ?_
        refine q_callG C hfl mw_J4_append_cf468 mi_J4_append_cf468 me_J4_append_cf468 lk_X8_279 (k_sbAppC 226 119 σ (Or.inr rfl) (by decide) (by decide) (((hP.2 c1).2 c6).1 c11).1) (rest := []) rfl (q_recvB C (Or.inr rfl)) rfl (q_dc (z := (76, .invokevirtual 279, 3, 0, 0)) tk_X8_appendStage 33 rfl) (Nat.le_of_ble_eq_true rfl) ⟨Nat.le_of_ble_eq_true rfl, Nat.le_of_ble_eq_true rfl⟩ ⟨Nat.le_of_ble_eq_true rfl, Nat.le_of_ble_eq_true rfl⟩ ?_
        refine q_nrm 79 [.ref 226] 1 204 rfl rfl rfl rfl ?_
        generalize e13 : (q_apC 226 119 σ) = σ12
        replace hF := q_let e13 hF
        refine q_go C tk_X8_appendStage [(34, 2)] [] (pc1 := 93) (σ1 := σ12) (lv1 := [(0, .ref 220), (1, .ref t)]) (st1 := []) rfl trivial ?_
        exact q_vret C hr (q_dc (z := (93, .return_, 1, 0, 0)) tk_X8_appendStage 41 rfl) hF rfl (Nat.le_of_ble_eq_true rfl) (Nat.le_of_ble_eq_true rfl)
      · rw [if_neg c11] at hF
        refine q_go C tk_X8_appendStage [(29, 1), (36, 3)] [true] (pc1 := 89) (σ1 := σ) (lv1 := [(0, .ref 220), (1, .ref t)]) (st1 := [.int 45, .ref 226]) rfl ⟨(fun q => c11 (q_u32 q)), rfl, trivial⟩ ?_
        refine q_callG C hfl mw_J4_append_cf468 mi_J4_append_cf468 me_J4_append_cf468 lk_X8_279 (k_sbAppC 226 45 σ (Or.inr rfl) (by decide) (by decide) (((hP.2 c1).2 c6).2 c11).1) (rest := []) rfl (q_recvB C (Or.inr rfl)) rfl (q_dc (z := (89, .invokevirtual 279, 3, 0, 0)) tk_X8_appendStage 39 rfl) (Nat.le_of_ble_eq_true rfl) ⟨Nat.le_of_ble_eq_true rfl, Nat.le_of_ble_eq_true rfl⟩ ⟨Nat.le_of_ble_eq_true rfl, Nat.le_of_ble_eq_true rfl⟩ ?_
        refine q_nrm 92 [.ref 226] 1 204 rfl rfl rfl rfl ?_
        generalize e15 : (q_apC 226 45 σ) = σ14
        replace hF := q_let e15 hF
        refine q_go C tk_X8_appendStage [(40, 1)] [] (pc1 := 93) (σ1 := σ14) (lv1 := [(0, .ref 220), (1, .ref t)]) (st1 := []) rfl trivial ?_
        exact q_vret C hr (q_dc (z := (93, .return_, 1, 0, 0)) tk_X8_appendStage 41 rfl) hF rfl (Nat.le_of_ble_eq_true rfl) (Nat.le_of_ble_eq_true rfl)
def F_X8_writeBanner (n : Int32) (σ : q_M) : (Int32 ⊕ String) × q_M := (match (F_X8_teamWith n σ) with | .inl v1 => (q_L (q_up σ 226 3 0) (fun σ3 : q_M => (q_L (q_apC 226 76 σ3) (fun σ5 : q_M => (q_L (q_apI 226 (σ5 v1 4) σ5) (fun σ7 : q_M => (q_L (q_apC 226 32 σ7) (fun σ9 : q_M => (q_L (F_X8_appendStage v1 σ9) (fun σ11 : q_M => (q_L (q_apC 226 32 σ11) (fun σ13 : q_M => (q_L (q_apI 226 (σ13 v1 5) σ13) (fun σ15 : q_M => (if (σ15 v1 9) = 0 then ((.inl (σ15 226 3)), σ15) else (q_L (q_apC 226 43 σ15) (fun σ18 : q_M => (q_L (q_apI 226 (σ18 v1 9) σ18) (fun σ20 : q_M => ((.inl (σ20 226 3)), σ20)))))))))))))))))))) | .inr E => ((.inr E), σ))
def P_X8_writeBanner (n : Int32) (σ : q_M) : Prop := (∀ r, (F_X8_teamWith n σ) = r → match r with | .inl v1 => (∀ σ3 : q_M, (q_up σ 226 3 0) = σ3 → (q_cut σ3 226 ∧ (∀ σ5 : q_M, (q_apC 226 76 σ3) = σ5 → (¬ (σ5 v1 4) < 0 ∧ (q_cut σ5 226 ∧ (∀ σ7 : q_M, (q_apI 226 (σ5 v1 4) σ5) = σ7 → (q_cut σ7 226 ∧ (∀ σ9 : q_M, (q_apC 226 32 σ7) = σ9 → ((P_X8_appendStage v1 σ9) ∧ (∀ σ11 : q_M, (F_X8_appendStage v1 σ9) = σ11 → (q_cut σ11 226 ∧ (∀ σ13 : q_M, (q_apC 226 32 σ11) = σ13 → (¬ (σ13 v1 5) < 0 ∧ (q_cut σ13 226 ∧ (∀ σ15 : q_M, (q_apI 226 (σ13 v1 5) σ13) = σ15 → (((σ15 v1 9) = 0 → True) ∧ (¬ (σ15 v1 9) = 0 → (q_cut σ15 226 ∧ (∀ σ18 : q_M, (q_apC 226 43 σ15) = σ18 → (¬ (σ18 v1 9) < 0 ∧ (q_cut σ18 226 ∧ True))))))))))))))))))))) | .inr E => True)
set_option maxRecDepth 100000 in
theorem k_X8_writeBanner {α β : Nat → Nat} {D : va_G} {κ : Nat → ClassId} (n : Int32) (σ : q_M) (hP : P_X8_writeBanner n σ) : q_C α β D κ yX8_writeBanner cX8_writeBanner 3 (Option.some Jvm.ClassFile.FieldType.int) 7 182 10 1922 [.ref 220, .int n] σ (q_oxi (F_X8_writeBanner n σ).1) (F_X8_writeBanner n σ).2 := by
  refine q_enter (own := RX8) (F := F_X8) (G := G_X8) (by decide +kernel) rfl Fok_X8 Gok_X8 (Nat.le_of_ble_eq_true rfl) (fun p l e s m args below meth c A hfl C hr hT => ?_)
  generalize hF : F_X8_writeBanner n σ = rr
  unfold F_X8_writeBanner at hF
  refine q_go C tk_X8_writeBanner [(0, 2)] [] (pc1 := 2) (σ1 := σ) (lv1 := [(0, .ref 220), (1, .int n)]) (st1 := [.int n, .ref 220]) rfl trivial ?_
  have hc22 := (k_X8_teamWith (α := α) (β := β) (D := D) (κ := κ) n σ)
  have hp23 := hP _ rfl
  cases hx2 : (F_X8_teamWith n σ) with
  | inl v1 =>
    rw [hx2] at hc22 hF
    dsimp only at hF
    rw [hx2] at hp23
    refine q_callV C hfl mw_X8_teamWith mi_X8_teamWith me_X8_teamWith lk_X8_80 hc22 (rest := []) rfl rfl rfl (by decide) (by decide) rfl (q_dc (z := (2, .invokevirtual 80, 3, 0, 0)) tk_X8_writeBanner 2 rfl) (Nat.le_of_ble_eq_true rfl) ⟨Nat.le_of_ble_eq_true rfl, Nat.le_of_ble_eq_true rfl⟩ ⟨Nat.le_of_ble_eq_true rfl, Nat.le_of_ble_eq_true rfl⟩ ?_
    refine q_nrm 5 [.ref v1] 1 6 rfl rfl rfl rfl ?_
    refine q_go C tk_X8_writeBanner [(3, 4)] [] (pc1 := 11) (σ1 := σ) (lv1 := [(2, .ref v1), (0, .ref 220), (1, .int n)]) (st1 := [.int 0, .ref 226]) rfl ⟨rfl, trivial⟩ ?_
    refine q_callG C hfl mw_J4_setLength_d00df mi_J4_setLength_d00df me_J4_setLength_d00df lk_X8_276 (k_sbSet0 226 σ (Or.inr rfl)) (rest := []) rfl (q_recvB C (Or.inr rfl)) rfl (q_dc (z := (11, .invokevirtual 276, 3, 0, 0)) tk_X8_writeBanner 7 rfl) (Nat.le_of_ble_eq_true rfl) ⟨Nat.le_of_ble_eq_true rfl, Nat.le_of_ble_eq_true rfl⟩ ⟨Nat.le_of_ble_eq_true rfl, Nat.le_of_ble_eq_true rfl⟩ ?_
    refine q_nrm 14 [] 1 6 rfl rfl rfl rfl ?_
    generalize e4 : (q_up σ 226 3 0) = σ3
    replace hF := q_let e4 hF
    refine q_go C tk_X8_writeBanner [(8, 3)] [] (pc1 := 20) (σ1 := σ3) (lv1 := [(2, .ref v1), (0, .ref 220), (1, .int n)]) (st1 := [.int 76, .ref 226]) rfl ⟨rfl, trivial⟩ ?_
    refine q_callG C hfl mw_J4_append_cf468 mi_J4_append_cf468 me_J4_append_cf468 lk_X8_279 (k_sbAppC 226 76 σ3 (Or.inr rfl) (by decide) (by decide) (hp23 σ3 e4).1) (rest := []) rfl (q_recvB C (Or.inr rfl)) rfl (q_dc (z := (20, .invokevirtual 279, 3, 0, 0)) tk_X8_writeBanner 11 rfl) (Nat.le_of_ble_eq_true rfl) ⟨Nat.le_of_ble_eq_true rfl, Nat.le_of_ble_eq_true rfl⟩ ⟨Nat.le_of_ble_eq_true rfl, Nat.le_of_ble_eq_true rfl⟩ ?_
    refine q_nrm 23 [.ref 226] 2 210 rfl rfl rfl rfl ?_
    generalize e6 : (q_apC 226 76 σ3) = σ5
    replace hF := q_let e6 hF
    refine q_go C tk_X8_writeBanner [(12, 2)] [] (pc1 := 27) (σ1 := σ5) (lv1 := [(2, .ref v1), (0, .ref 220), (1, .int n)]) (st1 := [.int (σ5 v1 4), .ref 226]) rfl ⟨(f_X8_teamWith_kd  hx2), trivial⟩ ?_
    refine q_callG C hfl mw_J4_append_bf812 mi_J4_append_bf812 me_J4_append_bf812 lk_X8_283 (k_sbAppI 226 (σ5 v1 4) σ5 (Or.inr rfl) ((hp23 σ3 e4).2 σ5 e6).1 ((hp23 σ3 e4).2 σ5 e6).2.1) (rest := []) rfl (q_recvB C (Or.inr rfl)) rfl (q_dc (z := (27, .invokevirtual 283, 3, 0, 0)) tk_X8_writeBanner 14 rfl) (Nat.le_of_ble_eq_true rfl) ⟨Nat.le_of_ble_eq_true rfl, Nat.le_of_ble_eq_true rfl⟩ ⟨Nat.le_of_ble_eq_true rfl, Nat.le_of_ble_eq_true rfl⟩ ?_
    refine q_nrm 30 [.ref 226] 3 434 rfl rfl rfl rfl ?_
    generalize e8 : (q_apI 226 (σ5 v1 4) σ5) = σ7
    replace hF := q_let e8 hF
    refine q_go C tk_X8_writeBanner [(15, 1)] [] (pc1 := 32) (σ1 := σ7) (lv1 := [(2, .ref v1), (0, .ref 220), (1, .int n)]) (st1 := [.int 32, .ref 226]) rfl trivial ?_
    refine q_callG C hfl mw_J4_append_cf468 mi_J4_append_cf468 me_J4_append_cf468 lk_X8_279 (k_sbAppC 226 32 σ7 (Or.inr rfl) (by decide) (by decide) (((hp23 σ3 e4).2 σ5 e6).2.2 σ7 e8).1) (rest := []) rfl (q_recvB C (Or.inr rfl)) rfl (q_dc (z := (32, .invokevirtual 279, 3, 0, 0)) tk_X8_writeBanner 16 rfl) (Nat.le_of_ble_eq_true rfl) ⟨Nat.le_of_ble_eq_true rfl, Nat.le_of_ble_eq_true rfl⟩ ⟨Nat.le_of_ble_eq_true rfl, Nat.le_of_ble_eq_true rfl⟩ ?_
    refine q_nrm 35 [.ref 226] 4 638 rfl rfl rfl rfl ?_
    generalize e10 : (q_apC 226 32 σ7) = σ9
    replace hF := q_let e10 hF
    refine q_go C tk_X8_writeBanner [(17, 3)] [] (pc1 := 38) (σ1 := σ9) (lv1 := [(2, .ref v1), (0, .ref 220), (1, .int n)]) (st1 := [.ref v1, .ref 220]) rfl trivial ?_
    refine q_callV C hfl mw_X8_appendStage mi_X8_appendStage me_X8_appendStage lk_X8_286 (k_X8_appendStage v1 σ9 (f_X8_teamWith_kd  hx2) ((((hp23 σ3 e4).2 σ5 e6).2.2 σ7 e8).2 σ9 e10).1) (rest := []) rfl rfl rfl (by decide) (by decide) rfl (q_dc (z := (38, .invokevirtual 286, 3, 0, 0)) tk_X8_writeBanner 20 rfl) (Nat.le_of_ble_eq_true rfl) ⟨Nat.le_of_ble_eq_true rfl, Nat.le_of_ble_eq_true rfl⟩ ⟨Nat.le_of_ble_eq_true rfl, Nat.le_of_ble_eq_true rfl⟩ ?_
    refine q_nrm 41 [] 6 1066 rfl rfl rfl rfl ?_
    generalize e12 : (F_X8_appendStage v1 σ9) = σ11
    replace hF := q_let e12 hF
    refine q_go C tk_X8_writeBanner [(21, 3)] [] (pc1 := 47) (σ1 := σ11) (lv1 := [(2, .ref v1), (0, .ref 220), (1, .int n)]) (st1 := [.int 32, .ref 226]) rfl ⟨rfl, trivial⟩ ?_
    refine q_callG C hfl mw_J4_append_cf468 mi_J4_append_cf468 me_J4_append_cf468 lk_X8_279 (k_sbAppC 226 32 σ11 (Or.inr rfl) (by decide) (by decide) (((((hp23 σ3 e4).2 σ5 e6).2.2 σ7 e8).2 σ9 e10).2 σ11 e12).1) (rest := []) rfl (q_recvB C (Or.inr rfl)) rfl (q_dc (z := (47, .invokevirtual 279, 3, 0, 0)) tk_X8_writeBanner 24 rfl) (Nat.le_of_ble_eq_true rfl) ⟨Nat.le_of_ble_eq_true rfl, Nat.le_of_ble_eq_true rfl⟩ ⟨Nat.le_of_ble_eq_true rfl, Nat.le_of_ble_eq_true rfl⟩ ?_
    refine q_nrm 50 [.ref 226] 7 1270 rfl rfl rfl rfl ?_
    generalize e14 : (q_apC 226 32 σ11) = σ13
    replace hF := q_let e14 hF
    refine q_go C tk_X8_writeBanner [(25, 2)] [] (pc1 := 54) (σ1 := σ13) (lv1 := [(2, .ref v1), (0, .ref 220), (1, .int n)]) (st1 := [.int (σ13 v1 5), .ref 226]) rfl ⟨(f_X8_teamWith_kd  hx2), trivial⟩ ?_
    refine q_callG C hfl mw_J4_append_bf812 mi_J4_append_bf812 me_J4_append_bf812 lk_X8_283 (k_sbAppI 226 (σ13 v1 5) σ13 (Or.inr rfl) ((((((hp23 σ3 e4).2 σ5 e6).2.2 σ7 e8).2 σ9 e10).2 σ11 e12).2 σ13 e14).1 ((((((hp23 σ3 e4).2 σ5 e6).2.2 σ7 e8).2 σ9 e10).2 σ11 e12).2 σ13 e14).2.1) (rest := []) rfl (q_recvB C (Or.inr rfl)) rfl (q_dc (z := (54, .invokevirtual 283, 3, 0, 0)) tk_X8_writeBanner 27 rfl) (Nat.le_of_ble_eq_true rfl) ⟨Nat.le_of_ble_eq_true rfl, Nat.le_of_ble_eq_true rfl⟩ ⟨Nat.le_of_ble_eq_true rfl, Nat.le_of_ble_eq_true rfl⟩ ?_
    refine q_nrm 57 [.ref 226] 8 1494 rfl rfl rfl rfl ?_
    generalize e16 : (q_apI 226 (σ13 v1 5) σ13) = σ15
    replace hF := q_let e16 hF
    refine q_go C tk_X8_writeBanner [(28, 3)] [] (pc1 := 62) (σ1 := σ15) (lv1 := [(2, .ref v1), (0, .ref 220), (1, .int n)]) (st1 := [.int (σ15 v1 9)]) rfl ⟨(f_X8_teamWith_kd  hx2), trivial⟩ ?_
    by_cases c17 : (σ15 v1 9) = 0
    · rw [if_pos c17] at hF
      refine q_go C tk_X8_writeBanner [(31, 1), (40, 2)] [true] (pc1 := 86) (σ1 := σ15) (lv1 := [(2, .ref v1), (0, .ref 220), (1, .int n)]) (st1 := [.ref 226]) rfl ⟨c17, rfl, trivial⟩ ?_
      refine q_callG C hfl mw_J4_length_8abf5 mi_J4_length_8abf5 me_J4_length_8abf5 lk_X8_290 (k_sbLen 226 σ15 (Or.inr rfl)) (rest := []) rfl (q_recvB C (Or.inr rfl)) rfl (q_dc (z := (86, .invokevirtual 290, 3, 0, 0)) tk_X8_writeBanner 42 rfl) (Nat.le_of_ble_eq_true rfl) ⟨Nat.le_of_ble_eq_true rfl, Nat.le_of_ble_eq_true rfl⟩ ⟨Nat.le_of_ble_eq_true rfl, Nat.le_of_ble_eq_true rfl⟩ ?_
      refine q_nrm 89 [.int (σ15 226 3)] 8 1494 rfl rfl rfl rfl ?_
      exact q_iret C hr (q_dc (z := (89, .ireturn, 1, 0, 0)) tk_X8_writeBanner 43 rfl) (congrArg Prod.snd hF) (congrArg (fun z => q_oxi z.1) hF.symm) (Nat.le_of_ble_eq_true rfl) (Nat.le_of_ble_eq_true rfl)
    · rw [if_neg c17] at hF
      refine q_go C tk_X8_writeBanner [(31, 4)] [false] (pc1 := 71) (σ1 := σ15) (lv1 := [(2, .ref v1), (0, .ref 220), (1, .int n)]) (st1 := [.int 43, .ref 226]) rfl ⟨c17, rfl, trivial⟩ ?_
      refine q_callG C hfl mw_J4_append_cf468 mi_J4_append_cf468 me_J4_append_cf468 lk_X8_279 (k_sbAppC 226 43 σ15 (Or.inr rfl) (by decide) (by decide) ((((((((hp23 σ3 e4).2 σ5 e6).2.2 σ7 e8).2 σ9 e10).2 σ11 e12).2 σ13 e14).2.2 σ15 e16).2 c17).1) (rest := []) rfl (q_recvB C (Or.inr rfl)) rfl (q_dc (z := (71, .invokevirtual 279, 3, 0, 0)) tk_X8_writeBanner 35 rfl) (Nat.le_of_ble_eq_true rfl) ⟨Nat.le_of_ble_eq_true rfl, Nat.le_of_ble_eq_true rfl⟩ ⟨Nat.le_of_ble_eq_true rfl, Nat.le_of_ble_eq_true rfl⟩ ?_
      refine q_nrm 74 [.ref 226] 9 1698 rfl rfl rfl rfl ?_
      generalize e19 : (q_apC 226 43 σ15) = σ18
      replace hF := q_let e19 hF
      refine q_go C tk_X8_writeBanner [(36, 2)] [] (pc1 := 78) (σ1 := σ18) (lv1 := [(2, .ref v1), (0, .ref 220), (1, .int n)]) (st1 := [.int (σ18 v1 9), .ref 226]) rfl ⟨(f_X8_teamWith_kd  hx2), trivial⟩ ?_
      refine q_callG C hfl mw_J4_append_bf812 mi_J4_append_bf812 me_J4_append_bf812 lk_X8_283 (k_sbAppI 226 (σ18 v1 9) σ18 (Or.inr rfl) (((((((((hp23 σ3 e4).2 σ5 e6).2.2 σ7 e8).2 σ9 e10).2 σ11 e12).2 σ13 e14).2.2 σ15 e16).2 c17).2 σ18 e19).1 (((((((((hp23 σ3 e4).2 σ5 e6).2.2 σ7 e8).2 σ9 e10).2 σ11 e12).2 σ13 e14).2.2 σ15 e16).2 c17).2 σ18 e19).2.1) (rest := []) rfl (q_recvB C (Or.inr rfl)) rfl (q_dc (z := (78, .invokevirtual 283, 3, 0, 0)) tk_X8_writeBanner 38 rfl) (Nat.le_of_ble_eq_true rfl) ⟨Nat.le_of_ble_eq_true rfl, Nat.le_of_ble_eq_true rfl⟩ ⟨Nat.le_of_ble_eq_true rfl, Nat.le_of_ble_eq_true rfl⟩ ?_
      refine q_nrm 81 [.ref 226] 10 1922 rfl rfl rfl rfl ?_
      generalize e21 : (q_apI 226 (σ18 v1 9) σ18) = σ20
      replace hF := q_let e21 hF
      refine q_go C tk_X8_writeBanner [(39, 3)] [] (pc1 := 86) (σ1 := σ20) (lv1 := [(2, .ref v1), (0, .ref 220), (1, .int n)]) (st1 := [.ref 226]) rfl ⟨rfl, trivial⟩ ?_
      refine q_callG C hfl mw_J4_length_8abf5 mi_J4_length_8abf5 me_J4_length_8abf5 lk_X8_290 (k_sbLen 226 σ20 (Or.inr rfl)) (rest := []) rfl (q_recvB C (Or.inr rfl)) rfl (q_dc (z := (86, .invokevirtual 290, 3, 0, 0)) tk_X8_writeBanner 42 rfl) (Nat.le_of_ble_eq_true rfl) ⟨Nat.le_of_ble_eq_true rfl, Nat.le_of_ble_eq_true rfl⟩ ⟨Nat.le_of_ble_eq_true rfl, Nat.le_of_ble_eq_true rfl⟩ ?_
      refine q_nrm 89 [.int (σ20 226 3)] 10 1922 rfl rfl rfl rfl ?_
      exact q_iret C hr (q_dc (z := (89, .ireturn, 1, 0, 0)) tk_X8_writeBanner 43 rfl) (congrArg Prod.snd hF) (congrArg (fun z => q_oxi z.1) hF.symm) (Nat.le_of_ble_eq_true rfl) (Nat.le_of_ble_eq_true rfl)
  | inr E =>
    rw [hx2] at hc22 hF
    dsimp only at hF
    rw [hx2] at hp23
    refine q_callVx C hfl mw_X8_teamWith mi_X8_teamWith me_X8_teamWith lk_X8_80 hc22 (rest := []) rfl rfl rfl (by decide) (by decide) rfl (q_dc (z := (2, .invokevirtual 80, 3, 0, 0)) tk_X8_writeBanner 2 rfl) (Nat.le_of_ble_eq_true rfl) ⟨Nat.le_of_ble_eq_true rfl, Nat.le_of_ble_eq_true rfl⟩ ⟨Nat.le_of_ble_eq_true rfl, Nat.le_of_ble_eq_true rfl⟩ ?_
    exact q_xout C hT (congrArg Prod.snd hF) (congrArg (fun z => q_oxi z.1) hF.symm) (Nat.le_of_ble_eq_true rfl) (Nat.le_of_ble_eq_true rfl)
def FL_X8_performAll_20  : Nat → Int32 → q_M → (Int32) × q_M
  | 0, v1, τ => (0, τ)
  | nn + 1, v1, τ => (if v1 < (τ 223 4) then (q_L (F_X3_readNext τ).2 (fun σ6 : q_M => (q_L (F_X3_readNext τ).1 (fun x8 : Int32 => (q_L (F_X8_at 224 0 σ6) (fun x10 : Int32 => (q_L (F_X8_at 224 1 σ6) (fun x12 : Int32 => (q_L (F_X8_at 224 2 σ6) (fun x14 : Int32 => (if x8 = 0 then (q_L (F_X4_copyFrom 0 20 σ6) (fun σ17 : q_M => (v1, σ17))) else (q_L (F_X8_faultOf (σ6 223 5) x10 x12 x14 σ6).2 (fun σ19 : q_M => (if (F_X8_faultOf (σ6 223 5) x10 x12 x14 σ6).1 = 10 then (q_L (F_X8_apply (σ19 223 5) x10 x12 x14 σ19) (fun σ22 : q_M => (FL_X8_performAll_20  nn (v1 + 1) σ22))) else (q_L (F_X4_copyFrom 0 20 σ19) (fun σ24 : q_M => (v1, σ24))))))))))))))))) else (q_L (F_X2_push 20 τ) (fun σ26 : q_M => ((-1), σ26))))
def PL_X8_performAll_20  : Nat → Int32 → q_M → Prop
  | 0, v1, τ => False
  | nn + 1, v1, τ => ((v1 < (τ 223 4) → ((P_X3_readNext τ) ∧ (∀ σ6 : q_M, (F_X3_readNext τ).2 = σ6 → (∀ x8 : Int32, (F_X3_readNext τ).1 = x8 → ((P_X8_at 224 0 σ6) ∧ (∀ x10 : Int32, (F_X8_at 224 0 σ6) = x10 → ((P_X8_at 224 1 σ6) ∧ (∀ x12 : Int32, (F_X8_at 224 1 σ6) = x12 → ((P_X8_at 224 2 σ6) ∧ (∀ x14 : Int32, (F_X8_at 224 2 σ6) = x14 → ((x8 = 0 → ((P_X4_copyFrom 0 20 σ6) ∧ True)) ∧ (¬ x8 = 0 → ((P_X8_faultOf (σ6 223 5) x10 x12 x14 σ6) ∧ (∀ σ19 : q_M, (F_X8_faultOf (σ6 223 5) x10 x12 x14 σ6).2 = σ19 → (((F_X8_faultOf (σ6 223 5) x10 x12 x14 σ6).1 = 10 → ((P_X8_apply (σ19 223 5) x10 x12 x14 σ19) ∧ (∀ σ22 : q_M, (F_X8_apply (σ19 223 5) x10 x12 x14 σ19) = σ22 → (PL_X8_performAll_20  nn (v1 + 1) σ22)))) ∧ (¬ (F_X8_faultOf (σ6 223 5) x10 x12 x14 σ6).1 = 10 → ((P_X4_copyFrom 0 20 σ19) ∧ True))))))))))))))))) ∧ (¬ v1 < (τ 223 4) → ((P_X2_push 20 τ) ∧ True)))
set_option maxRecDepth 100000 in
theorem kl_X8_performAll_20 {α β : Nat → Nat} {D : va_G} {κ : Nat → ClassId}  {p : Program} {l : Launch} {e : Env} {s : State} {m : MethodId} {args : Array Value} {below : List Frame} {meth : Method} {c : Code} {A : Nat → Prop} (hfl : l.flags = flags0) (C : q_Cx α β D κ p s m args meth c cX8_performAll RX8 F_X8 G_X8 6 A) (hr : meth.sig.returnType = (Option.some Jvm.ClassFile.FieldType.int)) (hT : ∀ x ∈ c.exceptionTable.toList, False) : ∀ (nn : Nat) (v1 : Int32) (τ : q_M) (rr : (Int32) × q_M), PL_X8_performAll_20  nn v1 τ → FL_X8_performAll_20  nn v1 τ = rr → q_St α β D κ p l e ({ frames := 9, cells := 0, slots := 0, locals := 207 } : Room) s m args below meth c 6 A (vx_MQ below (q_Qc α β D κ A (q_oi rr.1) rr.2) (q_XC α β D κ A (q_oi rr.1) rr.2) args s 0 0 A) 0 0 τ [(0, .ref 220), (1, .int v1)] 20 [] := by
  intro nn
  induction nn with
  | zero => intro v1 τ rr hP; exact hP.elim
  | succ nn ih =>
    intro v1 τ rr hP hF
    unfold FL_X8_performAll_20 at hF
    refine q_go C tk_X8_performAll [(10, 4)] [] (pc1 := 28) (σ1 := τ) (lv1 := [(0, .ref 220), (1, .int v1)]) (st1 := [.int (τ 223 4), .int v1]) rfl ⟨rfl, rfl, trivial⟩ ?_
    by_cases c5 : v1 < (τ 223 4)
    · rw [if_pos c5] at hF
      refine q_go C tk_X8_performAll [(14, 3)] [false] (pc1 := 35) (σ1 := τ) (lv1 := [(0, .ref 220), (1, .int v1)]) (st1 := [.ref 223]) rfl ⟨c5, rfl, trivial⟩ ?_
      refine q_callV C hfl mw_X3_readNext mi_X3_readNext me_X3_readNext lk_X8_388 (k_X3_readNext τ (hP.1 c5).1) (rest := []) rfl rfl rfl (by decide) (by decide) rfl (q_dc (z := (35, .invokevirtual 388, 3, 0, 0)) tk_X8_performAll 17 rfl) (Nat.le_of_ble_eq_true rfl) ⟨Nat.le_of_ble_eq_true rfl, Nat.le_of_ble_eq_true rfl⟩ ⟨Nat.le_of_ble_eq_true rfl, Nat.le_of_ble_eq_true rfl⟩ ?_
      refine q_nrm 38 [.int (F_X3_readNext τ).1] 0 0 rfl rfl rfl rfl ?_
      generalize e7 : (F_X3_readNext τ).2 = σ6
      replace hF := q_let e7 hF
      generalize e9 : (F_X3_readNext τ).1 = x8
      replace hF := q_let e9 hF
      refine q_go C tk_X8_performAll [(18, 5)] [] (pc1 := 47) (σ1 := σ6) (lv1 := [(2, .int x8), (0, .ref 220), (1, .int v1)]) (st1 := [.int 0, .ref 224]) rfl ⟨rfl, rfl, trivial⟩ ?_
      refine q_callS C hfl mw_X8_at ms_X8_at lk_X8_222 (k_X8_at 224 0 σ6 rfl (((hP.1 c5).2 σ6 e7) x8 e9).1) (rest := []) rfl rfl (q_dc (z := (47, .invokestatic 222, 3, 0, 0)) tk_X8_performAll 23 rfl) (Nat.le_of_ble_eq_true rfl) ⟨Nat.le_of_ble_eq_true rfl, Nat.le_of_ble_eq_true rfl⟩ ⟨Nat.le_of_ble_eq_true rfl, Nat.le_of_ble_eq_true rfl⟩ ?_
      refine q_nrm 50 [.int (F_X8_at 224 0 σ6)] 0 0 rfl rfl rfl rfl ?_
      generalize e11 : (F_X8_at 224 0 σ6) = x10
      replace hF := q_let e11 hF
      refine q_go C tk_X8_performAll [(24, 5)] [] (pc1 := 59) (σ1 := σ6) (lv1 := [(3, .int x10), (2, .int x8), (0, .ref 220), (1, .int v1)]) (st1 := [.int 1, .ref 224]) rfl ⟨rfl, rfl, trivial⟩ ?_
      refine q_callS C hfl mw_X8_at ms_X8_at lk_X8_222 (k_X8_at 224 1 σ6 rfl ((((hP.1 c5).2 σ6 e7) x8 e9).2 x10 e11).1) (rest := []) rfl rfl (q_dc (z := (59, .invokestatic 222, 3, 0, 0)) tk_X8_performAll 29 rfl) (Nat.le_of_ble_eq_true rfl) ⟨Nat.le_of_ble_eq_true rfl, Nat.le_of_ble_eq_true rfl⟩ ⟨Nat.le_of_ble_eq_true rfl, Nat.le_of_ble_eq_true rfl⟩ ?_
      refine q_nrm 62 [.int (F_X8_at 224 1 σ6)] 0 0 rfl rfl rfl rfl ?_
      generalize e13 : (F_X8_at 224 1 σ6) = x12
      replace hF := q_let e13 hF
      refine q_go C tk_X8_performAll [(30, 5)] [] (pc1 := 72) (σ1 := σ6) (lv1 := [(4, .int x12), (3, .int x10), (2, .int x8), (0, .ref 220), (1, .int v1)]) (st1 := [.int 2, .ref 224]) rfl ⟨rfl, rfl, trivial⟩ ?_
      refine q_callS C hfl mw_X8_at ms_X8_at lk_X8_222 (k_X8_at 224 2 σ6 rfl (((((hP.1 c5).2 σ6 e7) x8 e9).2 x10 e11).2 x12 e13).1) (rest := []) rfl rfl (q_dc (z := (72, .invokestatic 222, 3, 0, 0)) tk_X8_performAll 35 rfl) (Nat.le_of_ble_eq_true rfl) ⟨Nat.le_of_ble_eq_true rfl, Nat.le_of_ble_eq_true rfl⟩ ⟨Nat.le_of_ble_eq_true rfl, Nat.le_of_ble_eq_true rfl⟩ ?_
      refine q_nrm 75 [.int (F_X8_at 224 2 σ6)] 0 0 rfl rfl rfl rfl ?_
      generalize e15 : (F_X8_at 224 2 σ6) = x14
      replace hF := q_let e15 hF
      refine q_go C tk_X8_performAll [(36, 2)] [] (pc1 := 78) (σ1 := σ6) (lv1 := [(5, .int x14), (4, .int x12), (3, .int x10), (2, .int x8), (0, .ref 220), (1, .int v1)]) (st1 := [.int x8]) rfl trivial ?_
      by_cases c16 : x8 = 0
      · rw [if_pos c16] at hF
        refine q_go C tk_X8_performAll [(38, 1), (49, 4)] [true] (pc1 := 111) (σ1 := σ6) (lv1 := [(5, .int x14), (4, .int x12), (3, .int x10), (2, .int x8), (0, .ref 220), (1, .int v1)]) (st1 := [.ref 20, .ref 0]) rfl ⟨c16, rfl, rfl, trivial⟩ ?_
        refine q_callV C hfl mw_X4_copyFrom mi_X4_copyFrom me_X4_copyFrom lk_X8_334 (k_X4_copyFrom 0 20 σ6 rfl rfl (((((((hP.1 c5).2 σ6 e7) x8 e9).2 x10 e11).2 x12 e13).2 x14 e15).1 c16).1) (rest := []) rfl rfl rfl (by decide) (by decide) rfl (q_dc (z := (111, .invokevirtual 334, 3, 0, 0)) tk_X8_performAll 53 rfl) (Nat.le_of_ble_eq_true rfl) ⟨Nat.le_of_ble_eq_true rfl, Nat.le_of_ble_eq_true rfl⟩ ⟨Nat.le_of_ble_eq_true rfl, Nat.le_of_ble_eq_true rfl⟩ ?_
        refine q_nrm 114 [] 0 0 rfl rfl rfl rfl ?_
        generalize e18 : (F_X4_copyFrom 0 20 σ6) = σ17
        replace hF := q_let e18 hF
        refine q_go C tk_X8_performAll [(54, 1)] [] (pc1 := 115) (σ1 := σ17) (lv1 := [(5, .int x14), (4, .int x12), (3, .int x10), (2, .int x8), (0, .ref 220), (1, .int v1)]) (st1 := [.int v1]) rfl trivial ?_
        exact q_iret C hr (q_dc (z := (115, .ireturn, 1, 0, 0)) tk_X8_performAll 55 rfl) (congrArg Prod.snd hF) (congrArg (fun z => q_oi z.1) hF.symm) (Nat.le_of_ble_eq_true rfl) (Nat.le_of_ble_eq_true rfl)
      · rw [if_neg c16] at hF
        refine q_go C tk_X8_performAll [(38, 8)] [false] (pc1 := 94) (σ1 := σ6) (lv1 := [(5, .int x14), (4, .int x12), (3, .int x10), (2, .int x8), (0, .ref 220), (1, .int v1)]) (st1 := [.int x14, .int x12, .int x10, q_e (σ6 223 5), .ref 220]) rfl ⟨c16, rfl, rfl, trivial⟩ ?_
        refine q_callV C hfl mw_X8_faultOf mi_X8_faultOf me_X8_faultOf lk_X8_399 (k_X8_faultOf (σ6 223 5) x10 x12 x14 σ6 (((((((hP.1 c5).2 σ6 e7) x8 e9).2 x10 e11).2 x12 e13).2 x14 e15).2 c16).1) (rest := []) rfl rfl rfl (by decide) (by decide) rfl (q_dc (z := (94, .invokevirtual 399, 3, 0, 0)) tk_X8_performAll 46 rfl) (Nat.le_of_ble_eq_true rfl) ⟨Nat.le_of_ble_eq_true rfl, Nat.le_of_ble_eq_true rfl⟩ ⟨Nat.le_of_ble_eq_true rfl, Nat.le_of_ble_eq_true rfl⟩ ?_
        refine q_nrm 97 [q_e (F_X8_faultOf (σ6 223 5) x10 x12 x14 σ6).1] 0 0 rfl rfl rfl rfl ?_
        generalize e20 : (F_X8_faultOf (σ6 223 5) x10 x12 x14 σ6).2 = σ19
        replace hF := q_let e20 hF
        refine q_go C tk_X8_performAll [(47, 1)] [] (pc1 := 100) (σ1 := σ19) (lv1 := [(5, .int x14), (4, .int x12), (3, .int x10), (2, .int x8), (0, .ref 220), (1, .int v1)]) (st1 := [q_e 10, q_e (F_X8_faultOf (σ6 223 5) x10 x12 x14 σ6).1]) rfl trivial ?_
        by_cases c21 : (F_X8_faultOf (σ6 223 5) x10 x12 x14 σ6).1 = 10
        · rw [if_pos c21] at hF
          refine q_go C tk_X8_performAll [(48, 1), (56, 7)] [true] (pc1 := 129) (σ1 := σ19) (lv1 := [(5, .int x14), (4, .int x12), (3, .int x10), (2, .int x8), (0, .ref 220), (1, .int v1)]) (st1 := [.int x14, .int x12, .int x10, q_e (σ19 223 5), .ref 220]) rfl ⟨(congrArg Int32.toUInt32 c21), rfl, rfl, trivial⟩ ?_
          refine q_callV C hfl mw_X8_apply mi_X8_apply me_X8_apply lk_X8_403 (k_X8_apply (σ19 223 5) x10 x12 x14 σ19 (((((((((hP.1 c5).2 σ6 e7) x8 e9).2 x10 e11).2 x12 e13).2 x14 e15).2 c16).2 σ19 e20).1 c21).1) (rest := []) rfl rfl rfl (by decide) (by decide) rfl (q_dc (z := (129, .invokevirtual 403, 3, 0, 0)) tk_X8_performAll 63 rfl) (Nat.le_of_ble_eq_true rfl) ⟨Nat.le_of_ble_eq_true rfl, Nat.le_of_ble_eq_true rfl⟩ ⟨Nat.le_of_ble_eq_true rfl, Nat.le_of_ble_eq_true rfl⟩ ?_
          refine q_nrm 132 [] 0 0 rfl rfl rfl rfl ?_
          generalize e23 : (F_X8_apply (σ19 223 5) x10 x12 x14 σ19) = σ22
          replace hF := q_let e23 hF
          refine q_go C tk_X8_performAll [(64, 2)] [] (pc1 := 20) (σ1 := σ22) (lv1 := [(1, .int (v1 + 1)), (5, .int x14), (4, .int x12), (3, .int x10), (2, .int x8), (0, .ref 220)]) (st1 := []) rfl trivial ?_
          refine q_lvpick [5, 0] (lv' := [(0, .ref 220), (1, .int (v1 + 1))]) rfl ?_
          exact ih (v1 + 1) σ22 rr ((((((((((hP.1 c5).2 σ6 e7) x8 e9).2 x10 e11).2 x12 e13).2 x14 e15).2 c16).2 σ19 e20).1 c21).2 σ22 e23) hF
        · rw [if_neg c21] at hF
          refine q_go C tk_X8_performAll [(48, 5)] [false] (pc1 := 111) (σ1 := σ19) (lv1 := [(5, .int x14), (4, .int x12), (3, .int x10), (2, .int x8), (0, .ref 220), (1, .int v1)]) (st1 := [.ref 20, .ref 0]) rfl ⟨(fun q => c21 (q_u32 q)), rfl, rfl, trivial⟩ ?_
          refine q_callV C hfl mw_X4_copyFrom mi_X4_copyFrom me_X4_copyFrom lk_X8_334 (k_X4_copyFrom 0 20 σ19 rfl rfl (((((((((hP.1 c5).2 σ6 e7) x8 e9).2 x10 e11).2 x12 e13).2 x14 e15).2 c16).2 σ19 e20).2 c21).1) (rest := []) rfl rfl rfl (by decide) (by decide) rfl (q_dc (z := (111, .invokevirtual 334, 3, 0, 0)) tk_X8_performAll 53 rfl) (Nat.le_of_ble_eq_true rfl) ⟨Nat.le_of_ble_eq_true rfl, Nat.le_of_ble_eq_true rfl⟩ ⟨Nat.le_of_ble_eq_true rfl, Nat.le_of_ble_eq_true rfl⟩ ?_
          refine q_nrm 114 [] 0 0 rfl rfl rfl rfl ?_
          generalize e25 : (F_X4_copyFrom 0 20 σ19) = σ24
          replace hF := q_let e25 hF
          refine q_go C tk_X8_performAll [(54, 1)] [] (pc1 := 115) (σ1 := σ24) (lv1 := [(5, .int x14), (4, .int x12), (3, .int x10), (2, .int x8), (0, .ref 220), (1, .int v1)]) (st1 := [.int v1]) rfl trivial ?_
          exact q_iret C hr (q_dc (z := (115, .ireturn, 1, 0, 0)) tk_X8_performAll 55 rfl) (congrArg Prod.snd hF) (congrArg (fun z => q_oi z.1) hF.symm) (Nat.le_of_ble_eq_true rfl) (Nat.le_of_ble_eq_true rfl)
    · rw [if_neg c5] at hF
      refine q_go C tk_X8_performAll [(14, 1), (66, 4)] [true] (pc1 := 146) (σ1 := τ) (lv1 := [(0, .ref 220), (1, .int v1)]) (st1 := [.ref 20, .ref 221]) rfl ⟨c5, rfl, rfl, trivial⟩ ?_
      refine q_callV C hfl mw_X2_push mi_X2_push me_X2_push lk_X8_68 (k_X2_push 20 τ rfl (hP.2 c5).1) (rest := []) rfl rfl rfl (by decide) (by decide) rfl (q_dc (z := (146, .invokevirtual 68, 3, 0, 0)) tk_X8_performAll 70 rfl) (Nat.le_of_ble_eq_true rfl) ⟨Nat.le_of_ble_eq_true rfl, Nat.le_of_ble_eq_true rfl⟩ ⟨Nat.le_of_ble_eq_true rfl, Nat.le_of_ble_eq_true rfl⟩ ?_
      refine q_nrm 149 [] 0 0 rfl rfl rfl rfl ?_
      generalize e27 : (F_X2_push 20 τ) = σ26
      replace hF := q_let e27 hF
      refine q_go C tk_X8_performAll [(71, 1)] [] (pc1 := 150) (σ1 := σ26) (lv1 := [(0, .ref 220), (1, .int v1)]) (st1 := [.int (-1)]) rfl trivial ?_
      exact q_iret C hr (q_dc (z := (150, .ireturn, 1, 0, 0)) tk_X8_performAll 72 rfl) (congrArg Prod.snd hF) (congrArg (fun z => q_oi z.1) hF.symm) (Nat.le_of_ble_eq_true rfl) (Nat.le_of_ble_eq_true rfl)
def F_X8_performAll (σ : q_M) : (Int32) × q_M := (q_L (F_X4_copyFrom 20 0 σ) (fun σ1 : q_M => (q_L (F_X3_rewind σ1) (fun σ3 : q_M => (FL_X8_performAll_20  40 0 σ3)))))
def P_X8_performAll (σ : q_M) : Prop := ((P_X4_copyFrom 20 0 σ) ∧ (∀ σ1 : q_M, (F_X4_copyFrom 20 0 σ) = σ1 → (∀ σ3 : q_M, (F_X3_rewind σ1) = σ3 → (PL_X8_performAll_20  40 0 σ3))))
set_option maxRecDepth 100000 in
theorem k_X8_performAll {α β : Nat → Nat} {D : va_G} {κ : Nat → ClassId} (σ : q_M) (hP : P_X8_performAll σ) : q_C α β D κ yX8_performAll cX8_performAll 6 (Option.some Jvm.ClassFile.FieldType.int) 9 207 0 0 [.ref 220] σ (q_oi (F_X8_performAll σ).1) (F_X8_performAll σ).2 := by
  refine q_enter (own := RX8) (F := F_X8) (G := G_X8) (by decide +kernel) rfl Fok_X8 Gok_X8 (Nat.le_of_ble_eq_true rfl) (fun p l e s m args below meth c A hfl C hr hT => ?_)
  generalize hF : F_X8_performAll σ = rr
  unfold F_X8_performAll at hF
  refine q_go C tk_X8_performAll [(0, 4)] [] (pc1 := 8) (σ1 := σ) (lv1 := [(0, .ref 220)]) (st1 := [.ref 0, .ref 20]) rfl ⟨rfl, rfl, trivial⟩ ?_
  refine q_callV C hfl mw_X4_copyFrom mi_X4_copyFrom me_X4_copyFrom lk_X8_334 (k_X4_copyFrom 20 0 σ rfl rfl hP.1) (rest := []) rfl rfl rfl (by decide) (by decide) rfl (q_dc (z := (8, .invokevirtual 334, 3, 0, 0)) tk_X8_performAll 4 rfl) (Nat.le_of_ble_eq_true rfl) ⟨Nat.le_of_ble_eq_true rfl, Nat.le_of_ble_eq_true rfl⟩ ⟨Nat.le_of_ble_eq_true rfl, Nat.le_of_ble_eq_true rfl⟩ ?_
  refine q_nrm 11 [] 0 0 rfl rfl rfl rfl ?_
  generalize e2 : (F_X4_copyFrom 20 0 σ) = σ1
  replace hF := q_let e2 hF
  refine q_go C tk_X8_performAll [(5, 2)] [] (pc1 := 15) (σ1 := σ1) (lv1 := [(0, .ref 220)]) (st1 := [.ref 223]) rfl ⟨rfl, trivial⟩ ?_
  refine q_callV C hfl mw_X3_rewind mi_X3_rewind me_X3_rewind lk_X8_385 (k_X3_rewind σ1) (rest := []) rfl rfl rfl (by decide) (by decide) rfl (q_dc (z := (15, .invokevirtual 385, 3, 0, 0)) tk_X8_performAll 7 rfl) (Nat.le_of_ble_eq_true rfl) ⟨Nat.le_of_ble_eq_true rfl, Nat.le_of_ble_eq_true rfl⟩ ⟨Nat.le_of_ble_eq_true rfl, Nat.le_of_ble_eq_true rfl⟩ ?_
  refine q_nrm 18 [] 0 0 rfl rfl rfl rfl ?_
  generalize e4 : (F_X3_rewind σ1) = σ3
  replace hF := q_let e4 hF
  refine q_go C tk_X8_performAll [(8, 2)] [] (pc1 := 20) (σ1 := σ3) (lv1 := [(1, .int 0), (0, .ref 220)]) (st1 := []) rfl trivial ?_
  refine q_lvpick [1, 0] (lv' := [(0, .ref 220), (1, .int 0)]) rfl ?_
  exact kl_X8_performAll_20   hfl C hr hT 40 0 σ3 rr ((hP.2 σ1 e2) σ3 e4) hF
def F_X8_execute (σ : q_M) : (Int32 ⊕ String) × q_M := (q_L (F_X3_findError σ).2 (fun σ1 : q_M => (q_L (F_X3_findError σ).1 (fun x3 : Int32 => (if x3 = (-1) then (q_L (F_X8_performAll σ1).2 (fun σ6 : q_M => (q_L (F_X8_performAll σ1).1 (fun x8 : Int32 => (q_L (q_up σ6 225 3 0) (fun σ10 : q_M => (if x8 = (-1) then ((.inl (σ10 223 4)), σ10) else (q_L (q_up σ10 220 10 x8) (fun σ13 : q_M => ((.inr "java/lang/IllegalStateException"), σ13)))))))))) else (q_L (q_up σ1 225 3 0) (fun σ15 : q_M => (q_L (q_up σ15 220 9 x3) (fun σ17 : q_M => ((.inr "java/lang/IllegalArgumentException"), σ17))))))))))
def P_X8_execute (σ : q_M) : Prop := ((P_X3_findError σ) ∧ (∀ σ1 : q_M, (F_X3_findError σ).2 = σ1 → (∀ x3 : Int32, (F_X3_findError σ).1 = x3 → ((x3 = (-1) → ((P_X8_performAll σ1) ∧ True)) ∧ (¬ x3 = (-1) → True)))))
set_option maxRecDepth 100000 in
theorem k_X8_execute {α β : Nat → Nat} {D : va_G} {κ : Nat → ClassId} (σ : q_M) (hP : P_X8_execute σ) : q_C α β D κ yX8_execute cX8_execute 3 (Option.some Jvm.ClassFile.FieldType.int) 10 232 1 6 [.ref 220] σ (q_oxi (F_X8_execute σ).1) (F_X8_execute σ).2 := by
  refine q_enter (own := RX8) (F := F_X8) (G := G_X8) (by decide +kernel) rfl Fok_X8 Gok_X8 (Nat.le_of_ble_eq_true rfl) (fun p l e s m args below meth c A hfl C hr hT => ?_)
  generalize hF : F_X8_execute σ = rr
  unfold F_X8_execute at hF
  refine q_go C tk_X8_execute [(0, 2)] [] (pc1 := 4) (σ1 := σ) (lv1 := [(0, .ref 220)]) (st1 := [.ref 223]) rfl ⟨rfl, trivial⟩ ?_
  refine q_callV C hfl mw_X3_findError mi_X3_findError me_X3_findError lk_X8_309 (k_X3_findError σ hP.1) (rest := []) rfl rfl rfl (by decide) (by decide) rfl (q_dc (z := (4, .invokevirtual 309, 3, 0, 0)) tk_X8_execute 2 rfl) (Nat.le_of_ble_eq_true rfl) ⟨Nat.le_of_ble_eq_true rfl, Nat.le_of_ble_eq_true rfl⟩ ⟨Nat.le_of_ble_eq_true rfl, Nat.le_of_ble_eq_true rfl⟩ ?_
  refine q_nrm 7 [.int (F_X3_findError σ).1] 0 0 rfl rfl rfl rfl ?_
  generalize e2 : (F_X3_findError σ).2 = σ1
  replace hF := q_let e2 hF
  generalize e4 : (F_X3_findError σ).1 = x3
  replace hF := q_let e4 hF
  refine q_go C tk_X8_execute [(3, 3)] [] (pc1 := 10) (σ1 := σ1) (lv1 := [(1, .int x3), (0, .ref 220)]) (st1 := [.int (-1), .int x3]) rfl trivial ?_
  by_cases c5 : x3 = (-1)
  · rw [if_pos c5] at hF
    refine q_go C tk_X8_execute [(6, 2)] [false] (pc1 := 14) (σ1 := σ1) (lv1 := [(1, .int x3), (0, .ref 220)]) (st1 := [.ref 220]) rfl ⟨c5, trivial⟩ ?_
    refine q_callV C hfl mw_X8_performAll mi_X8_performAll me_X8_performAll lk_X8_312 (k_X8_performAll σ1 (((hP.2 σ1 e2) x3 e4).1 c5).1) (rest := []) rfl rfl rfl (by decide) (by decide) rfl (q_dc (z := (14, .invokevirtual 312, 3, 0, 0)) tk_X8_execute 8 rfl) (Nat.le_of_ble_eq_true rfl) ⟨Nat.le_of_ble_eq_true rfl, Nat.le_of_ble_eq_true rfl⟩ ⟨Nat.le_of_ble_eq_true rfl, Nat.le_of_ble_eq_true rfl⟩ ?_
    refine q_nrm 17 [.int (F_X8_performAll σ1).1] 0 0 rfl rfl rfl rfl ?_
    generalize e7 : (F_X8_performAll σ1).2 = σ6
    replace hF := q_let e7 hF
    refine q_go C tk_X8_execute [(9, 1)] [] (pc1 := 21) (σ1 := σ6) (lv1 := [(1, .int x3), (0, .ref 220)]) (st1 := [.int (F_X8_performAll σ1).1]) rfl trivial ?_
    generalize e9 : (F_X8_performAll σ1).1 = x8
    replace hF := q_let e9 hF
    refine q_go C tk_X8_execute [(11, 5)] [] (pc1 := 30) (σ1 := σ6) (lv1 := [(2, .int x8), (1, .int x3), (0, .ref 220)]) (st1 := [.int 0, .ref 225]) rfl ⟨rfl, rfl, trivial⟩ ?_
    refine q_callG C hfl mw_J4_setLength_d00df mi_J4_setLength_d00df me_J4_setLength_d00df lk_X8_276 (k_sbSet0 225 σ6 (Or.inl rfl)) (rest := []) rfl (q_recvB C (Or.inl rfl)) rfl (q_dc (z := (30, .invokevirtual 276, 3, 0, 0)) tk_X8_execute 16 rfl) (Nat.le_of_ble_eq_true rfl) ⟨Nat.le_of_ble_eq_true rfl, Nat.le_of_ble_eq_true rfl⟩ ⟨Nat.le_of_ble_eq_true rfl, Nat.le_of_ble_eq_true rfl⟩ ?_
    refine q_nrm 33 [] 0 0 rfl rfl rfl rfl ?_
    generalize e11 : (q_up σ6 225 3 0) = σ10
    replace hF := q_let e11 hF
    refine q_go C tk_X8_execute [(17, 3), (28, 2)] [true] (pc1 := 56) (σ1 := σ10) (lv1 := [(2, .int x8), (1, .int x3), (0, .ref 220)]) (st1 := [.int (-1), .int x8]) rfl ⟨c5, trivial⟩ ?_
    by_cases c12 : x8 = (-1)
    · rw [if_pos c12] at hF
      refine q_go C tk_X8_execute [(30, 1), (39, 3)] [true] (pc1 := 82) (σ1 := σ10) (lv1 := [(2, .int x8), (1, .int x3), (0, .ref 220)]) (st1 := [.int (σ10 223 4)]) rfl ⟨c12, rfl, rfl, trivial⟩ ?_
      exact q_iret C hr (q_dc (z := (82, .ireturn, 1, 0, 0)) tk_X8_execute 42 rfl) (congrArg Prod.snd hF) (congrArg (fun z => q_oxi z.1) hF.symm) (Nat.le_of_ble_eq_true rfl) (Nat.le_of_ble_eq_true rfl)
    · rw [if_neg c12] at hF
      refine q_go C tk_X8_execute [(30, 4)] [false] (pc1 := 64) (σ1 := (q_up σ10 220 10 x8)) (lv1 := [(2, .int x8), (1, .int x3), (0, .ref 220)]) (st1 := []) rfl ⟨c12, rfl, trivial⟩ ?_
      generalize e14 : (q_up σ10 220 10 x8) = σ13
      replace hF := q_let e14 hF
      exact q_throwW C hT hfl xk_IllegalStateException (is := 317) (List.mem_of_getElem? (l := q_msg) (i := 18) rfl) (q_dc (z := (64, .new 261, 3, 0, 0)) tk_X8_execute 34 rfl) (q_dc (z := (67, .dup, 1, 0, 0)) tk_X8_execute 35 rfl) (q_dc (z := (68, .ldc_w 317, 3, 0, 0)) tk_X8_execute 36 rfl) (q_dc (z := (71, .invokespecial 265, 3, 0, 0)) tk_X8_execute 37 rfl) (q_dc (z := (74, .athrow, 1, 0, 0)) tk_X8_execute 38 rfl) (Nat.le_of_ble_eq_true rfl) (Nat.le_of_ble_eq_true rfl) (Nat.le_of_ble_eq_true rfl) (Nat.le_of_ble_eq_true rfl) (Nat.le_of_ble_eq_true rfl) (congrArg Prod.snd hF) (congrArg (fun z => q_oxi z.1) hF.symm) (Nat.le_of_ble_eq_true rfl) (Nat.le_of_ble_eq_true rfl)
  · rw [if_neg c5] at hF
    refine q_go C tk_X8_execute [(6, 1), (10, 6)] [true] (pc1 := 30) (σ1 := σ1) (lv1 := [(2, .int (-1)), (1, .int x3), (0, .ref 220)]) (st1 := [.int 0, .ref 225]) rfl ⟨c5, rfl, rfl, trivial⟩ ?_
    refine q_callG C hfl mw_J4_setLength_d00df mi_J4_setLength_d00df me_J4_setLength_d00df lk_X8_276 (k_sbSet0 225 σ1 (Or.inl rfl)) (rest := []) rfl (q_recvB C (Or.inl rfl)) rfl (q_dc (z := (30, .invokevirtual 276, 3, 0, 0)) tk_X8_execute 16 rfl) (Nat.le_of_ble_eq_true rfl) ⟨Nat.le_of_ble_eq_true rfl, Nat.le_of_ble_eq_true rfl⟩ ⟨Nat.le_of_ble_eq_true rfl, Nat.le_of_ble_eq_true rfl⟩ ?_
    refine q_nrm 33 [] 0 0 rfl rfl rfl rfl ?_
    generalize e16 : (q_up σ1 225 3 0) = σ15
    replace hF := q_let e16 hF
    refine q_go C tk_X8_execute [(17, 6)] [false] (pc1 := 43) (σ1 := (q_up σ15 220 9 x3)) (lv1 := [(2, .int (-1)), (1, .int x3), (0, .ref 220)]) (st1 := []) rfl ⟨c5, rfl, trivial⟩ ?_
    generalize e18 : (q_up σ15 220 9 x3) = σ17
    replace hF := q_let e18 hF
    exact q_throwW C hT hfl xk_IllegalArgumentException (is := 315) (List.mem_of_getElem? (l := q_msg) (i := 17) rfl) (q_dc (z := (43, .new 205, 3, 0, 0)) tk_X8_execute 23 rfl) (q_dc (z := (46, .dup, 1, 0, 0)) tk_X8_execute 24 rfl) (q_dc (z := (47, .ldc_w 315, 3, 0, 0)) tk_X8_execute 25 rfl) (q_dc (z := (50, .invokespecial 209, 3, 0, 0)) tk_X8_execute 26 rfl) (q_dc (z := (53, .athrow, 1, 0, 0)) tk_X8_execute 27 rfl) (Nat.le_of_ble_eq_true rfl) (Nat.le_of_ble_eq_true rfl) (Nat.le_of_ble_eq_true rfl) (Nat.le_of_ble_eq_true rfl) (Nat.le_of_ble_eq_true rfl) (congrArg Prod.snd hF) (congrArg (fun z => q_oxi z.1) hF.symm) (Nat.le_of_ble_eq_true rfl) (Nat.le_of_ble_eq_true rfl)
