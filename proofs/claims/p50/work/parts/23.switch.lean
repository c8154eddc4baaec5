/-! The class: 23.switch. -/
def F_X8_faultOf (y : Int32) (f : Int32) (g : Int32) (h : Int32) (σ : q_M) : (Int32) × q_M := (if y = 20 then ((F_X4_faultOfStarting 0 σ), σ) else (if y = 21 then ((F_X4_faultOfRunning 0 f σ), σ) else (if y = 22 then (q_L (F_X8_faultOfPassing f σ).2 (fun σ4 : q_M => ((F_X8_faultOfPassing f σ).1, σ4))) else (if y = 23 then ((F_X4_faultOfDropping 0 f g σ), σ) else (if y = 24 then ((F_X4_faultOfWithdrawing 0 f σ), σ) else (if y = 25 then ((F_X4_faultOfProtesting 0 f g h σ), σ) else (if y = 26 then ((F_X4_faultOfSpeed 0 f g h σ), σ) else ((F_X4_faultOfDrawing 0 f σ), σ))))))))
def P_X8_faultOf (y : Int32) (f : Int32) (g : Int32) (h : Int32) (σ : q_M) : Prop := (q_okV y ∧ ((y = 20 → ((P_X4_faultOfStarting 0 σ) ∧ True)) ∧ (¬ y = 20 → ((y = 21 → True) ∧ (¬ y = 21 → ((y = 22 → True) ∧ (¬ y = 22 → ((y = 23 → True) ∧ (¬ y = 23 → ((y = 24 → True) ∧ (¬ y = 24 → ((y = 25 → True) ∧ (¬ y = 25 → ((y = 26 → True) ∧ (¬ y = 26 → ((P_X4_faultOfDrawing 0 f σ) ∧ True))))))))))))))))
set_option maxRecDepth 100000 in
theorem k_X8_faultOf {α β : Nat → Nat} {D : va_G} {κ : Nat → ClassId} (y : Int32) (f : Int32) (g : Int32) (h : Int32) (σ : q_M) (hP : P_X8_faultOf y f g h σ) : q_C α β D κ yX8_faultOf cX8_faultOf 5 (Option.some (Jvm.ClassFile.FieldType.object "QuillRelay$Fault")) 4 87 0 0 [.ref 220, q_e y, .int f, .int g, .int h] σ (q_oe (F_X8_faultOf y f g h σ).1) (F_X8_faultOf y f g h σ).2 := by
  refine q_enter (own := RX8) (F := F_X8) (G := G_X8) (by decide +kernel) rfl Fok_X8 Gok_X8 (Nat.le_of_ble_eq_true rfl) (fun p l e s m args below meth c A hfl C hr hT => ?_)
  generalize hF : F_X8_faultOf y f g h σ = rr
  unfold F_X8_faultOf at hF
  refine q_gS C (q_dc (z := (0, .getstatic 407, 3, 0, 0)) tk_X8_faultOf 0 rfl) ?_
  refine q_go C tk_X8_faultOf [(1, 1)] [] (pc1 := 4) (σ1 := σ) (lv1 := [(0, .ref 220), (1, q_e y), (2, .int f), (3, .int g), (4, .int h)]) (st1 := [q_e y, .ref 331]) rfl trivial ?_
  refine q_callO C hfl hP.1 (q_dc (z := (4, .invokevirtual 412, 3, 0, 0)) tk_X8_faultOf 2 rfl) (Nat.le_of_ble_eq_true rfl) ⟨Nat.le_of_ble_eq_true rfl, Nat.le_of_ble_eq_true rfl⟩ ⟨Nat.le_of_ble_eq_true rfl, Nat.le_of_ble_eq_true rfl⟩ ?_
  refine q_iS C hP.1 (q_dc (z := (7, .iaload, 1, 0, 0)) tk_X8_faultOf 3 rfl) ?_
  by_cases c1 : y = 20
  · rw [if_pos c1] at hF
    have hs_c1 : q_sw y = 1 := by rw [c1]; decide +kernel
    refine q_tabIn (tgt := 52) C (q_dc (z := (8, .tableswitch 110 1 7 #[44, 52, 61, 67, 77, 86, 98], 44, 0, 0)) tk_X8_faultOf 4 rfl) (by rw [hs_c1]; decide +kernel) (by rw [hs_c1]; decide +kernel) (by rw [hs_c1]; rfl) (by decide) ?_
    refine q_go C tk_X8_faultOf [(5, 2)] [] (pc1 := 56) (σ1 := σ) (lv1 := [(0, .ref 220), (1, q_e y), (2, .int f), (3, .int g), (4, .int h)]) (st1 := [.ref 0]) rfl ⟨rfl, trivial⟩ ?_
    refine q_callV C hfl mw_X4_faultOfStarting mi_X4_faultOfStarting me_X4_faultOfStarting lk_X8_107 (k_X4_faultOfStarting 0 σ rfl (hP.2.1 c1).1) (rest := []) rfl rfl rfl (by decide) (by decide) rfl (q_dc (z := (56, .invokevirtual 107, 3, 0, 0)) tk_X8_faultOf 7 rfl) (Nat.le_of_ble_eq_true rfl) ⟨Nat.le_of_ble_eq_true rfl, Nat.le_of_ble_eq_true rfl⟩ ⟨Nat.le_of_ble_eq_true rfl, Nat.le_of_ble_eq_true rfl⟩ ?_
    refine q_nrm 59 [q_e (F_X4_faultOfStarting 0 σ)] 0 0 rfl rfl rfl rfl ?_
    exact q_aret C hr (q_dc (z := (59, .areturn, 1, 0, 0)) tk_X8_faultOf 8 rfl) q_renm (congrArg Prod.snd hF) (congrArg (fun z => q_oe z.1) hF.symm) (Nat.le_of_ble_eq_true rfl) (Nat.le_of_ble_eq_true rfl)
  rw [if_neg c1] at hF
  by_cases c2 : y = 21
  · rw [if_pos c2] at hF
    have hs_c2 : q_sw y = 2 := by rw [c2]; decide +kernel
    refine q_tabIn (tgt := 60) C (q_dc (z := (8, .tableswitch 110 1 7 #[44, 52, 61, 67, 77, 86, 98], 44, 0, 0)) tk_X8_faultOf 4 rfl) (by rw [hs_c2]; decide +kernel) (by rw [hs_c2]; decide +kernel) (by rw [hs_c2]; rfl) (by decide) ?_
    refine q_go C tk_X8_faultOf [(9, 3)] [] (pc1 := 65) (σ1 := σ) (lv1 := [(0, .ref 220), (1, q_e y), (2, .int f), (3, .int g), (4, .int h)]) (st1 := [.int f, .ref 0]) rfl ⟨rfl, trivial⟩ ?_
    refine q_callV C hfl mw_X4_faultOfRunning mi_X4_faultOfRunning me_X4_faultOfRunning lk_X8_116 (k_X4_faultOfRunning 0 f σ rfl) (rest := []) rfl rfl rfl (by decide) (by decide) rfl (q_dc (z := (65, .invokevirtual 116, 3, 0, 0)) tk_X8_faultOf 12 rfl) (Nat.le_of_ble_eq_true rfl) ⟨Nat.le_of_ble_eq_true rfl, Nat.le_of_ble_eq_true rfl⟩ ⟨Nat.le_of_ble_eq_true rfl, Nat.le_of_ble_eq_true rfl⟩ ?_
    refine q_nrm 68 [q_e (F_X4_faultOfRunning 0 f σ)] 0 0 rfl rfl rfl rfl ?_
    exact q_aret C hr (q_dc (z := (68, .areturn, 1, 0, 0)) tk_X8_faultOf 13 rfl) q_renm (congrArg Prod.snd hF) (congrArg (fun z => q_oe z.1) hF.symm) (Nat.le_of_ble_eq_true rfl) (Nat.le_of_ble_eq_true rfl)
  rw [if_neg c2] at hF
  by_cases c3 : y = 22
  · rw [if_pos c3] at hF
    have hs_c3 : q_sw y = 3 := by rw [c3]; decide +kernel
    refine q_tabIn (tgt := 69) C (q_dc (z := (8, .tableswitch 110 1 7 #[44, 52, 61, 67, 77, 86, 98], 44, 0, 0)) tk_X8_faultOf 4 rfl) (by rw [hs_c3]; decide +kernel) (by rw [hs_c3]; decide +kernel) (by rw [hs_c3]; rfl) (by decide) ?_
    refine q_go C tk_X8_faultOf [(14, 2)] [] (pc1 := 71) (σ1 := σ) (lv1 := [(0, .ref 220), (1, q_e y), (2, .int f), (3, .int g), (4, .int h)]) (st1 := [.int f, .ref 220]) rfl trivial ?_
    refine q_callV C hfl mw_X8_faultOfPassing mi_X8_faultOfPassing me_X8_faultOfPassing lk_X8_123 (k_X8_faultOfPassing f σ) (rest := []) rfl rfl rfl (by decide) (by decide) rfl (q_dc (z := (71, .invokevirtual 123, 3, 0, 0)) tk_X8_faultOf 16 rfl) (Nat.le_of_ble_eq_true rfl) ⟨Nat.le_of_ble_eq_true rfl, Nat.le_of_ble_eq_true rfl⟩ ⟨Nat.le_of_ble_eq_true rfl, Nat.le_of_ble_eq_true rfl⟩ ?_
    refine q_nrm 74 [q_e (F_X8_faultOfPassing f σ).1] 0 0 rfl rfl rfl rfl ?_
    generalize e5 : (F_X8_faultOfPassing f σ).2 = σ4
    replace hF := q_let e5 hF
    exact q_aret C hr (q_dc (z := (74, .areturn, 1, 0, 0)) tk_X8_faultOf 17 rfl) q_renm (congrArg Prod.snd hF) (congrArg (fun z => q_oe z.1) hF.symm) (Nat.le_of_ble_eq_true rfl) (Nat.le_of_ble_eq_true rfl)
  rw [if_neg c3] at hF
  by_cases c6 : y = 23
  · rw [if_pos c6] at hF
    have hs_c6 : q_sw y = 4 := by rw [c6]; decide +kernel
    refine q_tabIn (tgt := 75) C (q_dc (z := (8, .tableswitch 110 1 7 #[44, 52, 61, 67, 77, 86, 98], 44, 0, 0)) tk_X8_faultOf 4 rfl) (by rw [hs_c6]; decide +kernel) (by rw [hs_c6]; decide +kernel) (by rw [hs_c6]; rfl) (by decide) ?_
    refine q_go C tk_X8_faultOf [(18, 4)] [] (pc1 := 81) (σ1 := σ) (lv1 := [(0, .ref 220), (1, q_e y), (2, .int f), (3, .int g), (4, .int h)]) (st1 := [.int g, .int f, .ref 0]) rfl ⟨rfl, trivial⟩ ?_
    refine q_callV C hfl mw_X4_faultOfDropping mi_X4_faultOfDropping me_X4_faultOfDropping lk_X8_130 (k_X4_faultOfDropping 0 f g σ rfl) (rest := []) rfl rfl rfl (by decide) (by decide) rfl (q_dc (z := (81, .invokevirtual 130, 3, 0, 0)) tk_X8_faultOf 22 rfl) (Nat.le_of_ble_eq_true rfl) ⟨Nat.le_of_ble_eq_true rfl, Nat.le_of_ble_eq_true rfl⟩ ⟨Nat.le_of_ble_eq_true rfl, Nat.le_of_ble_eq_true rfl⟩ ?_
    refine q_nrm 84 [q_e (F_X4_faultOfDropping 0 f g σ)] 0 0 rfl rfl rfl rfl ?_
    exact q_aret C hr (q_dc (z := (84, .areturn, 1, 0, 0)) tk_X8_faultOf 23 rfl) q_renm (congrArg Prod.snd hF) (congrArg (fun z => q_oe z.1) hF.symm) (Nat.le_of_ble_eq_true rfl) (Nat.le_of_ble_eq_true rfl)
  rw [if_neg c6] at hF
  by_cases c7 : y = 24
  · rw [if_pos c7] at hF
    have hs_c7 : q_sw y = 5 := by rw [c7]; decide +kernel
    refine q_tabIn (tgt := 85) C (q_dc (z := (8, .tableswitch 110 1 7 #[44, 52, 61, 67, 77, 86, 98], 44, 0, 0)) tk_X8_faultOf 4 rfl) (by rw [hs_c7]; decide +kernel) (by rw [hs_c7]; decide +kernel) (by rw [hs_c7]; rfl) (by decide) ?_
    refine q_go C tk_X8_faultOf [(24, 3)] [] (pc1 := 90) (σ1 := σ) (lv1 := [(0, .ref 220), (1, q_e y), (2, .int f), (3, .int g), (4, .int h)]) (st1 := [.int f, .ref 0]) rfl ⟨rfl, trivial⟩ ?_
    refine q_callV C hfl mw_X4_faultOfWithdrawing mi_X4_faultOfWithdrawing me_X4_faultOfWithdrawing lk_X8_138 (k_X4_faultOfWithdrawing 0 f σ rfl) (rest := []) rfl rfl rfl (by decide) (by decide) rfl (q_dc (z := (90, .invokevirtual 138, 3, 0, 0)) tk_X8_faultOf 27 rfl) (Nat.le_of_ble_eq_true rfl) ⟨Nat.le_of_ble_eq_true rfl, Nat.le_of_ble_eq_true rfl⟩ ⟨Nat.le_of_ble_eq_true rfl, Nat.le_of_ble_eq_true rfl⟩ ?_
    refine q_nrm 93 [q_e (F_X4_faultOfWithdrawing 0 f σ)] 0 0 rfl rfl rfl rfl ?_
    exact q_aret C hr (q_dc (z := (93, .areturn, 1, 0, 0)) tk_X8_faultOf 28 rfl) q_renm (congrArg Prod.snd hF) (congrArg (fun z => q_oe z.1) hF.symm) (Nat.le_of_ble_eq_true rfl) (Nat.le_of_ble_eq_true rfl)
  rw [if_neg c7] at hF
  by_cases c8 : y = 25
  · rw [if_pos c8] at hF
    have hs_c8 : q_sw y = 6 := by rw [c8]; decide +kernel
    refine q_tabIn (tgt := 94) C (q_dc (z := (8, .tableswitch 110 1 7 #[44, 52, 61, 67, 77, 86, 98], 44, 0, 0)) tk_X8_faultOf 4 rfl) (by rw [hs_c8]; decide +kernel) (by rw [hs_c8]; decide +kernel) (by rw [hs_c8]; rfl) (by decide) ?_
    refine q_go C tk_X8_faultOf [(29, 5)] [] (pc1 := 102) (σ1 := σ) (lv1 := [(0, .ref 220), (1, q_e y), (2, .int f), (3, .int g), (4, .int h)]) (st1 := [.int h, .int g, .int f, .ref 0]) rfl ⟨rfl, trivial⟩ ?_
    refine q_callV C hfl mw_X4_faultOfProtesting mi_X4_faultOfProtesting me_X4_faultOfProtesting lk_X8_153 (k_X4_faultOfProtesting 0 f g h σ rfl) (rest := []) rfl rfl rfl (by decide) (by decide) rfl (q_dc (z := (102, .invokevirtual 153, 3, 0, 0)) tk_X8_faultOf 34 rfl) (Nat.le_of_ble_eq_true rfl) ⟨Nat.le_of_ble_eq_true rfl, Nat.le_of_ble_eq_true rfl⟩ ⟨Nat.le_of_ble_eq_true rfl, Nat.le_of_ble_eq_true rfl⟩ ?_
    refine q_nrm 105 [q_e (F_X4_faultOfProtesting 0 f g h σ)] 0 0 rfl rfl rfl rfl ?_
    exact q_aret C hr (q_dc (z := (105, .areturn, 1, 0, 0)) tk_X8_faultOf 35 rfl) q_renm (congrArg Prod.snd hF) (congrArg (fun z => q_oe z.1) hF.symm) (Nat.le_of_ble_eq_true rfl) (Nat.le_of_ble_eq_true rfl)
  rw [if_neg c8] at hF
  by_cases c9 : y = 26
  · rw [if_pos c9] at hF
    have hs_c9 : q_sw y = 7 := by rw [c9]; decide +kernel
    refine q_tabIn (tgt := 106) C (q_dc (z := (8, .tableswitch 110 1 7 #[44, 52, 61, 67, 77, 86, 98], 44, 0, 0)) tk_X8_faultOf 4 rfl) (by rw [hs_c9]; decide +kernel) (by rw [hs_c9]; decide +kernel) (by rw [hs_c9]; rfl) (by decide) ?_
    refine q_go C tk_X8_faultOf [(36, 5)] [] (pc1 := 114) (σ1 := σ) (lv1 := [(0, .ref 220), (1, q_e y), (2, .int f), (3, .int g), (4, .int h)]) (st1 := [.int h, .int g, .int f, .ref 0]) rfl ⟨rfl, trivial⟩ ?_
    refine q_callV C hfl mw_X4_faultOfSpeed mi_X4_faultOfSpeed me_X4_faultOfSpeed lk_X8_76 (k_X4_faultOfSpeed 0 f g h σ rfl) (rest := []) rfl rfl rfl (by decide) (by decide) rfl (q_dc (z := (114, .invokevirtual 76, 3, 0, 0)) tk_X8_faultOf 41 rfl) (Nat.le_of_ble_eq_true rfl) ⟨Nat.le_of_ble_eq_true rfl, Nat.le_of_ble_eq_true rfl⟩ ⟨Nat.le_of_ble_eq_true rfl, Nat.le_of_ble_eq_true rfl⟩ ?_
    refine q_nrm 117 [q_e (F_X4_faultOfSpeed 0 f g h σ)] 0 0 rfl rfl rfl rfl ?_
    exact q_aret C hr (q_dc (z := (117, .areturn, 1, 0, 0)) tk_X8_faultOf 42 rfl) q_renm (congrArg Prod.snd hF) (congrArg (fun z => q_oe z.1) hF.symm) (Nat.le_of_ble_eq_true rfl) (Nat.le_of_ble_eq_true rfl)
  rw [if_neg c9] at hF
  have hs0 : q_sw y = 0 := q_sw0 hP.1 c1 c2 c3 c6 c7 c8 c9
  refine q_tabOut (tgt := 118) C (q_dc (z := (8, .tableswitch 110 1 7 #[44, 52, 61, 67, 77, 86, 98], 44, 0, 0)) tk_X8_faultOf 4 rfl) (by rw [hs0]; decide +kernel) (by decide) ?_
  refine q_go C tk_X8_faultOf [(43, 3)] [] (pc1 := 123) (σ1 := σ) (lv1 := [(0, .ref 220), (1, q_e y), (2, .int f), (3, .int g), (4, .int h)]) (st1 := [.int f, .ref 0]) rfl ⟨rfl, trivial⟩ ?_
  refine q_callV C hfl mw_X4_faultOfDrawing mi_X4_faultOfDrawing me_X4_faultOfDrawing lk_X8_97 (k_X4_faultOfDrawing 0 f σ rfl (((((((hP.2.2 c1).2 c2).2 c3).2 c6).2 c7).2 c8).2 c9).1) (rest := []) rfl rfl rfl (by decide) (by decide) rfl (q_dc (z := (123, .invokevirtual 97, 3, 0, 0)) tk_X8_faultOf 46 rfl) (Nat.le_of_ble_eq_true rfl) ⟨Nat.le_of_ble_eq_true rfl, Nat.le_of_ble_eq_true rfl⟩ ⟨Nat.le_of_ble_eq_true rfl, Nat.le_of_ble_eq_true rfl⟩ ?_
  refine q_nrm 126 [q_e (F_X4_faultOfDrawing 0 f σ)] 0 0 rfl rfl rfl rfl ?_
  exact q_aret C hr (q_dc (z := (126, .areturn, 1, 0, 0)) tk_X8_faultOf 47 rfl) q_renm (congrArg Prod.snd hF) (congrArg (fun z => q_oe z.1) hF.symm) (Nat.le_of_ble_eq_true rfl) (Nat.le_of_ble_eq_true rfl)
