/-! The class: 24.apply. -/
/-- a team that exists, without room for a throw -/
def F_X8_team0 (n : Int32) (σ : q_M) : Nat := (F_X4_find 0 n σ).getD 2
def P_X8_team0 (n : Int32) (σ : q_M) : Prop := F_X4_find 0 n σ ≠ none
theorem f_X8_team0_kd (n : Int32) (σ : q_M) : q_kd (F_X8_team0 n σ) = 7 := by
  unfold F_X8_team0
  cases h : F_X4_find 0 n σ with
  | none => rfl
  | some k => exact f_X4_find_kd rfl h
set_option maxRecDepth 100000 in
theorem k0_X8_teamWith {α β : Nat → Nat} {D : va_G} {κ : Nat → ClassId} (n : Int32) (σ : q_M) (hP : P_X8_team0 n σ) : q_C α β D κ yX8_teamWith cX8_teamWith 3 (Option.some (Jvm.ClassFile.FieldType.object "QuillRelay$Team")) 6 90 0 0 [.ref 220, .int n] σ (q_or (F_X8_team0 n σ)) σ := by
  refine q_enter (own := RX8) (F := F_X8) (G := G_X8) (by decide +kernel) rfl Fok_X8 Gok_X8 (Nat.le_of_ble_eq_true rfl) (fun p l e s m args below meth c A hfl C hr hT => ?_)
  refine q_go C tk_X8_teamWith [(0, 3)] [] (pc1 := 5) (σ1 := σ) (lv1 := [(0, .ref 220), (1, .int n)]) (st1 := [.int n, .ref 0]) rfl ⟨rfl, trivial⟩ ?_
  have hc3 := (k_X4_find0 (α := α) (β := β) (D := D) (κ := κ) 0 n σ rfl)
  cases hx2 : (F_X4_find 0 n σ) with
  | some v1 =>
    rw [hx2] at hc3
    refine q_callV C hfl mw_X4_find mi_X4_find me_X4_find lk_X8_362 hc3 (rest := []) rfl rfl rfl (by decide) (by decide) rfl (q_dc (z := (5, .invokevirtual 362, 3, 0, 0)) tk_X8_teamWith 3 rfl) (Nat.le_of_ble_eq_true rfl) ⟨Nat.le_of_ble_eq_true rfl, Nat.le_of_ble_eq_true rfl⟩ ⟨Nat.le_of_ble_eq_true rfl, Nat.le_of_ble_eq_true rfl⟩ ?_
    refine q_nrm 8 [.ref v1] 0 0 rfl rfl rfl rfl ?_
    refine q_go C tk_X8_teamWith [(4, 3), (12, 1)] [] (pc1 := 25) (σ1 := σ) (lv1 := [(2, .ref v1), (0, .ref 220), (1, .int n)]) (st1 := [.ref v1]) rfl trivial ?_
    exact q_aret C hr (q_dc (z := (25, .areturn, 1, 0, 0)) tk_X8_teamWith 13 rfl) q_rref rfl (by unfold F_X8_team0; rw [hx2]; rfl) (Nat.le_of_ble_eq_true rfl) (Nat.le_of_ble_eq_true rfl)
  | none => exact absurd hx2 hP
def F_X8_apply (y : Int32) (f : Int32) (g : Int32) (h : Int32) (σ : q_M) : q_M := (if y = 20 then (q_L (F_X4_begin 0 σ) (fun σ2 : q_M => σ2)) else (if y = 21 then (q_L (F_X4_letSecondsPass 0 f σ).2 (fun σ5 : q_M => σ5)) else (if y = 22 then (q_L (F_X4_handOver 0 (F_X8_team0 f σ) σ).2 (fun σ8 : q_M => σ8)) else (if y = 23 then (q_L (F_X4_dropQuill 0 (F_X8_team0 f σ) g σ).2 (fun σ11 : q_M => σ11)) else (if y = 24 then (q_up σ (F_X8_team0 f σ) 3 4) else (if y = 25 then (q_L (F_X4_judge 0 (F_X8_team0 f σ) (F_X8_team0 g σ) h σ).2 (fun σ15 : q_M => σ15)) else (if y = 26 then (q_L (F_X6_changeSpeed (F_X8_team0 f σ) g h σ).2 (fun σ18 : q_M => σ18)) else (q_L (F_X4_shuffleLanes 0 f σ) (fun σ20 : q_M => σ20)))))))))
def P_X8_apply (y : Int32) (f : Int32) (g : Int32) (h : Int32) (σ : q_M) : Prop := (q_okV y ∧ ((y = 20 → ((P_X4_begin 0 σ) ∧ True)) ∧ (¬ y = 20 → ((y = 21 → ((P_X4_letSecondsPass 0 f σ) ∧ True)) ∧ (¬ y = 21 → ((y = 22 → ((P_X8_team0 f σ) ∧ ((P_X4_handOver 0 (F_X8_team0 f σ) σ) ∧ True))) ∧ (¬ y = 22 → ((y = 23 → ((P_X8_team0 f σ) ∧ True)) ∧ (¬ y = 23 → ((y = 24 → ((P_X8_team0 f σ) ∧ True)) ∧ (¬ y = 24 → ((y = 25 → ((P_X8_team0 f σ) ∧ ((P_X8_team0 g σ) ∧ ((P_X4_judge 0 (F_X8_team0 f σ) (F_X8_team0 g σ) h σ) ∧ True)))) ∧ (¬ y = 25 → ((y = 26 → ((P_X8_team0 f σ) ∧ ((P_X6_changeSpeed (F_X8_team0 f σ) g h σ) ∧ True))) ∧ (¬ y = 26 → ((P_X4_shuffleLanes 0 f σ) ∧ True))))))))))))))))
set_option maxRecDepth 100000 in
theorem k_X8_apply {α β : Nat → Nat} {D : va_G} {κ : Nat → ClassId} (y : Int32) (f : Int32) (g : Int32) (h : Int32) (σ : q_M) (hP : P_X8_apply y f g h σ) : q_C α β D κ yX8_apply cX8_apply 5 (Option.none : Option Jvm.ClassFile.FieldType) 8 153 0 0 [.ref 220, q_e y, .int f, .int g, .int h] σ q_ov (F_X8_apply y f g h σ) := by
  refine q_enter (own := RX8) (F := F_X8) (G := G_X8) (by decide +kernel) rfl Fok_X8 Gok_X8 (Nat.le_of_ble_eq_true rfl) (fun p l e s m args below meth c A hfl C hr hT => ?_)
  generalize hF : F_X8_apply y f g h σ = rr
  unfold F_X8_apply at hF
  refine q_gS C (q_dc (z := (0, .getstatic 407, 3, 0, 0)) tk_X8_apply 0 rfl) ?_
  refine q_go C tk_X8_apply [(1, 1)] [] (pc1 := 4) (σ1 := σ) (lv1 := [(0, .ref 220), (1, q_e y), (2, .int f), (3, .int g), (4, .int h)]) (st1 := [q_e y, .ref 331]) rfl trivial ?_
  refine q_callO C hfl hP.1 (q_dc (z := (4, .invokevirtual 412, 3, 0, 0)) tk_X8_apply 2 rfl) (Nat.le_of_ble_eq_true rfl) ⟨Nat.le_of_ble_eq_true rfl, Nat.le_of_ble_eq_true rfl⟩ ⟨Nat.le_of_ble_eq_true rfl, Nat.le_of_ble_eq_true rfl⟩ ?_
  refine q_iS C hP.1 (q_dc (z := (7, .iaload, 1, 0, 0)) tk_X8_apply 3 rfl) ?_
  by_cases c1 : y = 20
  · rw [if_pos c1] at hF
    have hs_c1 : q_sw y = 1 := by rw [c1]; decide +kernel
    refine q_tabIn (tgt := 52) C (q_dc (z := (8, .tableswitch 151 1 7 #[44, 54, 66, 82, 99, 113, 136], 44, 0, 0)) tk_X8_apply 4 rfl) (by rw [hs_c1]; decide +kernel) (by rw [hs_c1]; decide +kernel) (by rw [hs_c1]; rfl) (by decide) ?_
    refine q_go C tk_X8_apply [(5, 2)] [] (pc1 := 56) (σ1 := σ) (lv1 := [(0, .ref 220), (1, q_e y), (2, .int f), (3, .int g), (4, .int h)]) (st1 := [.ref 0]) rfl ⟨rfl, trivial⟩ ?_
    refine q_callV C hfl mw_X4_begin mi_X4_begin me_X4_begin lk_X8_110 (k_X4_begin 0 σ rfl (hP.2.1 c1).1) (rest := []) rfl rfl rfl (by decide) (by decide) rfl (q_dc (z := (56, .invokevirtual 110, 3, 0, 0)) tk_X8_apply 7 rfl) (Nat.le_of_ble_eq_true rfl) ⟨Nat.le_of_ble_eq_true rfl, Nat.le_of_ble_eq_true rfl⟩ ⟨Nat.le_of_ble_eq_true rfl, Nat.le_of_ble_eq_true rfl⟩ ?_
    refine q_nrm 59 [] 0 0 rfl rfl rfl rfl ?_
    generalize e3 : (F_X4_begin 0 σ) = σ2
    replace hF := q_let e3 hF
    refine q_go C tk_X8_apply [(8, 1)] [] (pc1 := 167) (σ1 := σ2) (lv1 := [(0, .ref 220), (1, q_e y), (2, .int f), (3, .int g), (4, .int h)]) (st1 := []) rfl trivial ?_
    exact q_vret C hr (q_dc (z := (167, .return_, 1, 0, 0)) tk_X8_apply 62 rfl) hF rfl (Nat.le_of_ble_eq_true rfl) (Nat.le_of_ble_eq_true rfl)
  rw [if_neg c1] at hF
  by_cases c4 : y = 21
  · rw [if_pos c4] at hF
    have hs_c4 : q_sw y = 2 := by rw [c4]; decide +kernel
    refine q_tabIn (tgt := 62) C (q_dc (z := (8, .tableswitch 151 1 7 #[44, 54, 66, 82, 99, 113, 136], 44, 0, 0)) tk_X8_apply 4 rfl) (by rw [hs_c4]; decide +kernel) (by rw [hs_c4]; decide +kernel) (by rw [hs_c4]; rfl) (by decide) ?_
    refine q_go C tk_X8_apply [(9, 3)] [] (pc1 := 67) (σ1 := σ) (lv1 := [(0, .ref 220), (1, q_e y), (2, .int f), (3, .int g), (4, .int h)]) (st1 := [.int f, .ref 0]) rfl ⟨rfl, trivial⟩ ?_
    refine q_callV C hfl mw_X4_letSecondsPass mi_X4_letSecondsPass me_X4_letSecondsPass lk_X8_119 (k_X4_letSecondsPass 0 f σ rfl ((hP.2.2 c1).1 c4).1) (rest := []) rfl rfl rfl (by decide) (by decide) rfl (q_dc (z := (67, .invokevirtual 119, 3, 0, 0)) tk_X8_apply 12 rfl) (Nat.le_of_ble_eq_true rfl) ⟨Nat.le_of_ble_eq_true rfl, Nat.le_of_ble_eq_true rfl⟩ ⟨Nat.le_of_ble_eq_true rfl, Nat.le_of_ble_eq_true rfl⟩ ?_
    refine q_nrm 70 [.int (F_X4_letSecondsPass 0 f σ).1] 0 0 rfl rfl rfl rfl ?_
    generalize e6 : (F_X4_letSecondsPass 0 f σ).2 = σ5
    replace hF := q_let e6 hF
    refine q_go C tk_X8_apply [(13, 2)] [] (pc1 := 167) (σ1 := σ5) (lv1 := [(0, .ref 220), (1, q_e y), (2, .int f), (3, .int g), (4, .int h)]) (st1 := []) rfl trivial ?_
    exact q_vret C hr (q_dc (z := (167, .return_, 1, 0, 0)) tk_X8_apply 62 rfl) hF rfl (Nat.le_of_ble_eq_true rfl) (Nat.le_of_ble_eq_true rfl)
  rw [if_neg c4] at hF
  by_cases c7 : y = 22
  · rw [if_pos c7] at hF
    have hs_c7 : q_sw y = 3 := by rw [c7]; decide +kernel
    refine q_tabIn (tgt := 74) C (q_dc (z := (8, .tableswitch 151 1 7 #[44, 54, 66, 82, 99, 113, 136], 44, 0, 0)) tk_X8_apply 4 rfl) (by rw [hs_c7]; decide +kernel) (by rw [hs_c7]; decide +kernel) (by rw [hs_c7]; rfl) (by decide) ?_
    refine q_go C tk_X8_apply [(15, 4)] [] (pc1 := 80) (σ1 := σ) (lv1 := [(0, .ref 220), (1, q_e y), (2, .int f), (3, .int g), (4, .int h)]) (st1 := [.int f, .ref 220, .ref 0]) rfl ⟨rfl, trivial⟩ ?_
    refine q_callV C hfl mw_X8_teamWith mi_X8_teamWith me_X8_teamWith lk_X8_80 (k0_X8_teamWith f σ (((hP.2.2 c1).2 c4).1 c7).1) (rest := [.ref 0]) rfl rfl rfl (by decide) (by decide) rfl (q_dc (z := (80, .invokevirtual 80, 3, 0, 0)) tk_X8_apply 19 rfl) (Nat.le_of_ble_eq_true rfl) ⟨Nat.le_of_ble_eq_true rfl, Nat.le_of_ble_eq_true rfl⟩ ⟨Nat.le_of_ble_eq_true rfl, Nat.le_of_ble_eq_true rfl⟩ ?_
    refine q_nrm 83 [.ref (F_X8_team0 f σ), .ref 0] 0 0 rfl rfl rfl rfl ?_
    refine q_callV C hfl mw_X4_handOver mi_X4_handOver me_X4_handOver lk_X8_126 (k_X4_handOver 0 (F_X8_team0 f σ) σ rfl (f_X8_team0_kd f σ) (((hP.2.2 c1).2 c4).1 c7).2.1) (rest := []) rfl rfl rfl (by decide) (by decide) rfl (q_dc (z := (83, .invokevirtual 126, 3, 0, 0)) tk_X8_apply 20 rfl) (Nat.le_of_ble_eq_true rfl) ⟨Nat.le_of_ble_eq_true rfl, Nat.le_of_ble_eq_true rfl⟩ ⟨Nat.le_of_ble_eq_true rfl, Nat.le_of_ble_eq_true rfl⟩ ?_
    refine q_nrm 86 [.int (F_X4_handOver 0 (F_X8_team0 f σ) σ).1] 0 0 rfl rfl rfl rfl ?_
    generalize e9 : (F_X4_handOver 0 (F_X8_team0 f σ) σ).2 = σ8
    replace hF := q_let e9 hF
    refine q_go C tk_X8_apply [(21, 2)] [] (pc1 := 167) (σ1 := σ8) (lv1 := [(0, .ref 220), (1, q_e y), (2, .int f), (3, .int g), (4, .int h)]) (st1 := []) rfl trivial ?_
    exact q_vret C hr (q_dc (z := (167, .return_, 1, 0, 0)) tk_X8_apply 62 rfl) hF rfl (Nat.le_of_ble_eq_true rfl) (Nat.le_of_ble_eq_true rfl)
  rw [if_neg c7] at hF
  by_cases c10 : y = 23
  · rw [if_pos c10] at hF
    have hs_c10 : q_sw y = 4 := by rw [c10]; decide +kernel
    refine q_tabIn (tgt := 90) C (q_dc (z := (8, .tableswitch 151 1 7 #[44, 54, 66, 82, 99, 113, 136], 44, 0, 0)) tk_X8_apply 4 rfl) (by rw [hs_c10]; decide +kernel) (by rw [hs_c10]; decide +kernel) (by rw [hs_c10]; rfl) (by decide) ?_
    refine q_go C tk_X8_apply [(23, 4)] [] (pc1 := 96) (σ1 := σ) (lv1 := [(0, .ref 220), (1, q_e y), (2, .int f), (3, .int g), (4, .int h)]) (st1 := [.int f, .ref 220, .ref 0]) rfl ⟨rfl, trivial⟩ ?_
    refine q_callV C hfl mw_X8_teamWith mi_X8_teamWith me_X8_teamWith lk_X8_80 (k0_X8_teamWith f σ ((((hP.2.2 c1).2 c4).2 c7).1 c10).1) (rest := [.ref 0]) rfl rfl rfl (by decide) (by decide) rfl (q_dc (z := (96, .invokevirtual 80, 3, 0, 0)) tk_X8_apply 27 rfl) (Nat.le_of_ble_eq_true rfl) ⟨Nat.le_of_ble_eq_true rfl, Nat.le_of_ble_eq_true rfl⟩ ⟨Nat.le_of_ble_eq_true rfl, Nat.le_of_ble_eq_true rfl⟩ ?_
    refine q_nrm 99 [.ref (F_X8_team0 f σ), .ref 0] 0 0 rfl rfl rfl rfl ?_
    refine q_go C tk_X8_apply [(28, 1)] [] (pc1 := 100) (σ1 := σ) (lv1 := [(0, .ref 220), (1, q_e y), (2, .int f), (3, .int g), (4, .int h)]) (st1 := [.int g, .ref (F_X8_team0 f σ), .ref 0]) rfl trivial ?_
    refine q_callV C hfl mw_X4_dropQuill mi_X4_dropQuill me_X4_dropQuill lk_X8_134 (k_X4_dropQuill 0 (F_X8_team0 f σ) g σ rfl (f_X8_team0_kd f σ)) (rest := []) rfl rfl rfl (by decide) (by decide) rfl (q_dc (z := (100, .invokevirtual 134, 3, 0, 0)) tk_X8_apply 29 rfl) (Nat.le_of_ble_eq_true rfl) ⟨Nat.le_of_ble_eq_true rfl, Nat.le_of_ble_eq_true rfl⟩ ⟨Nat.le_of_ble_eq_true rfl, Nat.le_of_ble_eq_true rfl⟩ ?_
    refine q_nrm 103 [.int (F_X4_dropQuill 0 (F_X8_team0 f σ) g σ).1] 0 0 rfl rfl rfl rfl ?_
    generalize e12 : (F_X4_dropQuill 0 (F_X8_team0 f σ) g σ).2 = σ11
    replace hF := q_let e12 hF
    refine q_go C tk_X8_apply [(30, 2)] [] (pc1 := 167) (σ1 := σ11) (lv1 := [(0, .ref 220), (1, q_e y), (2, .int f), (3, .int g), (4, .int h)]) (st1 := []) rfl trivial ?_
    exact q_vret C hr (q_dc (z := (167, .return_, 1, 0, 0)) tk_X8_apply 62 rfl) hF rfl (Nat.le_of_ble_eq_true rfl) (Nat.le_of_ble_eq_true rfl)
  rw [if_neg c10] at hF
  by_cases c13 : y = 24
  · rw [if_pos c13] at hF
    have hs_c13 : q_sw y = 5 := by rw [c13]; decide +kernel
    refine q_tabIn (tgt := 107) C (q_dc (z := (8, .tableswitch 151 1 7 #[44, 54, 66, 82, 99, 113, 136], 44, 0, 0)) tk_X8_apply 4 rfl) (by rw [hs_c13]; decide +kernel) (by rw [hs_c13]; decide +kernel) (by rw [hs_c13]; rfl) (by decide) ?_
    refine q_go C tk_X8_apply [(32, 2)] [] (pc1 := 109) (σ1 := σ) (lv1 := [(0, .ref 220), (1, q_e y), (2, .int f), (3, .int g), (4, .int h)]) (st1 := [.int f, .ref 220]) rfl trivial ?_
    refine q_callV C hfl mw_X8_teamWith mi_X8_teamWith me_X8_teamWith lk_X8_80 (k0_X8_teamWith f σ (((((hP.2.2 c1).2 c4).2 c7).2 c10).1 c13).1) (rest := []) rfl rfl rfl (by decide) (by decide) rfl (q_dc (z := (109, .invokevirtual 80, 3, 0, 0)) tk_X8_apply 34 rfl) (Nat.le_of_ble_eq_true rfl) ⟨Nat.le_of_ble_eq_true rfl, Nat.le_of_ble_eq_true rfl⟩ ⟨Nat.le_of_ble_eq_true rfl, Nat.le_of_ble_eq_true rfl⟩ ?_
    refine q_nrm 112 [.ref (F_X8_team0 f σ)] 0 0 rfl rfl rfl rfl ?_
    refine q_go C tk_X8_apply [(35, 3)] [] (pc1 := 167) (σ1 := (q_up σ (F_X8_team0 f σ) 3 4)) (lv1 := [(0, .ref 220), (1, q_e y), (2, .int f), (3, .int g), (4, .int h)]) (st1 := []) rfl ⟨(f_X8_team0_kd f σ), trivial⟩ ?_
    exact q_vret C hr (q_dc (z := (167, .return_, 1, 0, 0)) tk_X8_apply 62 rfl) hF rfl (Nat.le_of_ble_eq_true rfl) (Nat.le_of_ble_eq_true rfl)
  rw [if_neg c13] at hF
  by_cases c14 : y = 25
  · rw [if_pos c14] at hF
    have hs_c14 : q_sw y = 6 := by rw [c14]; decide +kernel
    refine q_tabIn (tgt := 121) C (q_dc (z := (8, .tableswitch 151 1 7 #[44, 54, 66, 82, 99, 113, 136], 44, 0, 0)) tk_X8_apply 4 rfl) (by rw [hs_c14]; decide +kernel) (by rw [hs_c14]; decide +kernel) (by rw [hs_c14]; rfl) (by decide) ?_
    refine q_go C tk_X8_apply [(38, 4)] [] (pc1 := 127) (σ1 := σ) (lv1 := [(0, .ref 220), (1, q_e y), (2, .int f), (3, .int g), (4, .int h)]) (st1 := [.int f, .ref 220, .ref 0]) rfl ⟨rfl, trivial⟩ ?_
    refine q_callV C hfl mw_X8_teamWith mi_X8_teamWith me_X8_teamWith lk_X8_80 (k0_X8_teamWith f σ ((((((hP.2.2 c1).2 c4).2 c7).2 c10).2 c13).1 c14).1) (rest := [.ref 0]) rfl rfl rfl (by decide) (by decide) rfl (q_dc (z := (127, .invokevirtual 80, 3, 0, 0)) tk_X8_apply 42 rfl) (Nat.le_of_ble_eq_true rfl) ⟨Nat.le_of_ble_eq_true rfl, Nat.le_of_ble_eq_true rfl⟩ ⟨Nat.le_of_ble_eq_true rfl, Nat.le_of_ble_eq_true rfl⟩ ?_
    refine q_nrm 130 [.ref (F_X8_team0 f σ), .ref 0] 0 0 rfl rfl rfl rfl ?_
    refine q_go C tk_X8_apply [(43, 2)] [] (pc1 := 132) (σ1 := σ) (lv1 := [(0, .ref 220), (1, q_e y), (2, .int f), (3, .int g), (4, .int h)]) (st1 := [.int g, .ref 220, .ref (F_X8_team0 f σ), .ref 0]) rfl trivial ?_
    refine q_callV C hfl mw_X8_teamWith mi_X8_teamWith me_X8_teamWith lk_X8_80 (k0_X8_teamWith g σ ((((((hP.2.2 c1).2 c4).2 c7).2 c10).2 c13).1 c14).2.1) (rest := [.ref (F_X8_team0 f σ), .ref 0]) rfl rfl rfl (by decide) (by decide) rfl (q_dc (z := (132, .invokevirtual 80, 3, 0, 0)) tk_X8_apply 45 rfl) (Nat.le_of_ble_eq_true rfl) ⟨Nat.le_of_ble_eq_true rfl, Nat.le_of_ble_eq_true rfl⟩ ⟨Nat.le_of_ble_eq_true rfl, Nat.le_of_ble_eq_true rfl⟩ ?_
    refine q_nrm 135 [.ref (F_X8_team0 g σ), .ref (F_X8_team0 f σ), .ref 0] 0 0 rfl rfl rfl rfl ?_
    refine q_go C tk_X8_apply [(46, 1)] [] (pc1 := 137) (σ1 := σ) (lv1 := [(0, .ref 220), (1, q_e y), (2, .int f), (3, .int g), (4, .int h)]) (st1 := [.int h, .ref (F_X8_team0 g σ), .ref (F_X8_team0 f σ), .ref 0]) rfl trivial ?_
    refine q_callV C hfl mw_X4_judge mi_X4_judge me_X4_judge lk_X8_156 (k_X4_judge 0 (F_X8_team0 f σ) (F_X8_team0 g σ) h σ rfl (f_X8_team0_kd f σ) (f_X8_team0_kd g σ) ((((((hP.2.2 c1).2 c4).2 c7).2 c10).2 c13).1 c14).2.2.1) (rest := []) rfl rfl rfl (by decide) (by decide) rfl (q_dc (z := (137, .invokevirtual 156, 3, 0, 0)) tk_X8_apply 47 rfl) (Nat.le_of_ble_eq_true rfl) ⟨Nat.le_of_ble_eq_true rfl, Nat.le_of_ble_eq_true rfl⟩ ⟨Nat.le_of_ble_eq_true rfl, Nat.le_of_ble_eq_true rfl⟩ ?_
    refine q_nrm 140 [.int (F_X4_judge 0 (F_X8_team0 f σ) (F_X8_team0 g σ) h σ).1] 0 0 rfl rfl rfl rfl ?_
    generalize e16 : (F_X4_judge 0 (F_X8_team0 f σ) (F_X8_team0 g σ) h σ).2 = σ15
    replace hF := q_let e16 hF
    refine q_go C tk_X8_apply [(48, 2)] [] (pc1 := 167) (σ1 := σ15) (lv1 := [(0, .ref 220), (1, q_e y), (2, .int f), (3, .int g), (4, .int h)]) (st1 := []) rfl trivial ?_
    exact q_vret C hr (q_dc (z := (167, .return_, 1, 0, 0)) tk_X8_apply 62 rfl) hF rfl (Nat.le_of_ble_eq_true rfl) (Nat.le_of_ble_eq_true rfl)
  rw [if_neg c14] at hF
  by_cases c17 : y = 26
  · rw [if_pos c17] at hF
    have hs_c17 : q_sw y = 7 := by rw [c17]; decide +kernel
    refine q_tabIn (tgt := 144) C (q_dc (z := (8, .tableswitch 151 1 7 #[44, 54, 66, 82, 99, 113, 136], 44, 0, 0)) tk_X8_apply 4 rfl) (by rw [hs_c17]; decide +kernel) (by rw [hs_c17]; decide +kernel) (by rw [hs_c17]; rfl) (by decide) ?_
    refine q_go C tk_X8_apply [(50, 2)] [] (pc1 := 146) (σ1 := σ) (lv1 := [(0, .ref 220), (1, q_e y), (2, .int f), (3, .int g), (4, .int h)]) (st1 := [.int f, .ref 220]) rfl trivial ?_
    refine q_callV C hfl mw_X8_teamWith mi_X8_teamWith me_X8_teamWith lk_X8_80 (k0_X8_teamWith f σ (((((((hP.2.2 c1).2 c4).2 c7).2 c10).2 c13).2 c14).1 c17).1) (rest := []) rfl rfl rfl (by decide) (by decide) rfl (q_dc (z := (146, .invokevirtual 80, 3, 0, 0)) tk_X8_apply 52 rfl) (Nat.le_of_ble_eq_true rfl) ⟨Nat.le_of_ble_eq_true rfl, Nat.le_of_ble_eq_true rfl⟩ ⟨Nat.le_of_ble_eq_true rfl, Nat.le_of_ble_eq_true rfl⟩ ?_
    refine q_nrm 149 [.ref (F_X8_team0 f σ)] 0 0 rfl rfl rfl rfl ?_
    refine q_go C tk_X8_apply [(53, 2)] [] (pc1 := 152) (σ1 := σ) (lv1 := [(0, .ref 220), (1, q_e y), (2, .int f), (3, .int g), (4, .int h)]) (st1 := [.int h, .int g, .ref (F_X8_team0 f σ)]) rfl trivial ?_
    refine q_callV C hfl mw_X6_changeSpeed mi_X6_changeSpeed me_X6_changeSpeed lk_X8_84 (k_X6_changeSpeed (F_X8_team0 f σ) g h σ (f_X8_team0_kd f σ) (((((((hP.2.2 c1).2 c4).2 c7).2 c10).2 c13).2 c14).1 c17).2.1) (rest := []) rfl (f_X8_team0_kd f σ) rfl (by decide) (by decide) rfl (q_dc (z := (152, .invokevirtual 84, 3, 0, 0)) tk_X8_apply 55 rfl) (Nat.le_of_ble_eq_true rfl) ⟨Nat.le_of_ble_eq_true rfl, Nat.le_of_ble_eq_true rfl⟩ ⟨Nat.le_of_ble_eq_true rfl, Nat.le_of_ble_eq_true rfl⟩ ?_
    refine q_nrm 155 [.int (F_X6_changeSpeed (F_X8_team0 f σ) g h σ).1] 0 0 rfl rfl rfl rfl ?_
    generalize e19 : (F_X6_changeSpeed (F_X8_team0 f σ) g h σ).2 = σ18
    replace hF := q_let e19 hF
    refine q_go C tk_X8_apply [(56, 2)] [] (pc1 := 167) (σ1 := σ18) (lv1 := [(0, .ref 220), (1, q_e y), (2, .int f), (3, .int g), (4, .int h)]) (st1 := []) rfl trivial ?_
    exact q_vret C hr (q_dc (z := (167, .return_, 1, 0, 0)) tk_X8_apply 62 rfl) hF rfl (Nat.le_of_ble_eq_true rfl) (Nat.le_of_ble_eq_true rfl)
  rw [if_neg c17] at hF
  have hs0 : q_sw y = 0 := q_sw0 hP.1 c1 c4 c7 c10 c13 c14 c17
  refine q_tabOut (tgt := 159) C (q_dc (z := (8, .tableswitch 151 1 7 #[44, 54, 66, 82, 99, 113, 136], 44, 0, 0)) tk_X8_apply 4 rfl) (by rw [hs0]; decide +kernel) (by decide) ?_
  refine q_go C tk_X8_apply [(58, 3)] [] (pc1 := 164) (σ1 := σ) (lv1 := [(0, .ref 220), (1, q_e y), (2, .int f), (3, .int g), (4, .int h)]) (st1 := [.int f, .ref 0]) rfl ⟨rfl, trivial⟩ ?_
  refine q_callV C hfl mw_X4_shuffleLanes mi_X4_shuffleLanes me_X4_shuffleLanes lk_X8_100 (k_X4_shuffleLanes 0 f σ rfl (((((((hP.2.2 c1).2 c4).2 c7).2 c10).2 c13).2 c14).2 c17).1) (rest := []) rfl rfl rfl (by decide) (by decide) rfl (q_dc (z := (164, .invokevirtual 100, 3, 0, 0)) tk_X8_apply 61 rfl) (Nat.le_of_ble_eq_true rfl) ⟨Nat.le_of_ble_eq_true rfl, Nat.le_of_ble_eq_true rfl⟩ ⟨Nat.le_of_ble_eq_true rfl, Nat.le_of_ble_eq_true rfl⟩ ?_
  refine q_nrm 167 [] 0 0 rfl rfl rfl rfl ?_
  generalize e21 : (F_X4_shuffleLanes 0 f σ) = σ20
  replace hF := q_let e21 hF
  exact q_vret C hr (q_dc (z := (167, .return_, 1, 0, 0)) tk_X8_apply 62 rfl) hF rfl (Nat.le_of_ble_eq_true rfl) (Nat.le_of_ble_eq_true rfl)
