/-! The law: 46d.acts. -/
def F_L_acts (ζ : Nat → Nat) (i : Int32) (σ : q_M) : (Int32) × q_M := (q_L (F_L_in ζ (i + 1) 7 σ) (fun x1 : Int32 => (q_L (F_L_in ζ (i + 2) 7 σ) (fun x3 : Int32 => (q_L (F_L_in ζ (i + 3) 60 σ) (fun x5 : Int32 => (q_L (F_L_in ζ i 26 σ) (fun x7 : Int32 => (if x7 = 0 then (q_L (W_addTeam σ).2 (fun σ10 : q_M => (q_L (W_addTeam σ).1 (fun x12 : Int32 => (x12, σ10))))) else (if x7 = 1 then (q_L (W_setSpeed x1 x3 (2 * x5) σ).2 (fun σ15 : q_M => (q_L (W_setSpeed x1 x3 (2 * x5) σ).1 (fun x17 : Int32 => (x17, σ15))))) else (if x7 = 2 then (q_L (W_setLength (80 * x5) σ).2 (fun σ20 : q_M => (q_L (W_setLength (80 * x5) σ).1 (fun x22 : Int32 => (x22, σ20))))) else (if x7 = 3 then (q_L (W_drawLanes (19 * x5) σ).2 (fun σ25 : q_M => (q_L (W_drawLanes (19 * x5) σ).1 (fun x27 : Int32 => (x27, σ25))))) else (if x7 = 4 ∨ x7 = 5 then (q_L (W_start σ).2 (fun σ30 : q_M => (q_L (W_start σ).1 (fun x32 : Int32 => (x32, σ30))))) else (if x7 = 6 ∨ x7 = 7 ∨ x7 = 8 ∨ x7 = 9 ∨ x7 = 10 then (q_L (if (x5 - x5 / 3 * 3) = 0 then (4 * x5) else (x5 - x5 / 12 * 12)) (fun x36 : Int32 => (q_L (W_run x36 σ).2 (fun σ38 : q_M => (q_L (W_run x36 σ).1 (fun x40 : Int32 => (x40, σ38))))))) else (if x7 = 11 ∨ x7 = 12 ∨ x7 = 13 ∨ x7 = 14 then (q_L (F_X8_isStarted σ) (fun x43 : Int32 => (if x43 = 0 then (q_L (W_pass x1 σ).2 (fun σ46 : q_M => (q_L (W_pass x1 σ).1 (fun x48 : Int32 => (x48, σ46))))) else (q_L (F_X8_teamCount σ) (fun x50 : Int32 => (if x1 < x50 then (q_L (W_secondsToZone x1 σ) (fun x53 : Int32 => (if 0 < x53 then (q_L (W_secondsToZone x1 σ) (fun x56 : Int32 => (if 60 < x56 then (q_L (W_pass x1 σ).2 (fun σ59 : q_M => (q_L (W_pass x1 σ).1 (fun x61 : Int32 => (x61, σ59))))) else (if 0 < (x5 - x5 / 4 * 4) then (q_L (F_N8_standingOf x1 σ) (fun x64 : Int32 => (q_L (if 0 < x64 then (F_N8_standingOf x1 σ) else (W_secondsToZone x1 σ)) (fun x67 : Int32 => (q_L (W_run x67 σ).2 (fun σ69 : q_M => (q_L (W_run x67 σ).1 (fun x71 : Int32 => (x71, σ69))))))))) else (q_L (W_pass x1 σ).2 (fun σ73 : q_M => (q_L (W_pass x1 σ).1 (fun x75 : Int32 => (x75, σ73))))))))) else (q_L (W_pass x1 σ).2 (fun σ77 : q_M => (q_L (W_pass x1 σ).1 (fun x79 : Int32 => (x79, σ77)))))))) else (q_L (W_pass x1 σ).2 (fun σ81 : q_M => (q_L (W_pass x1 σ).1 (fun x83 : Int32 => (x83, σ81))))))))))) else (if x7 = 15 ∨ x7 = 16 ∨ x7 = 17 then (q_L (W_pass x1 σ).2 (fun σ86 : q_M => (q_L (W_pass x1 σ).1 (fun x88 : Int32 => (x88, σ86))))) else (if x7 = 18 ∨ x7 = 19 then (q_L (W_drop x1 (x5 - x5 / 22 * 22) σ).2 (fun σ91 : q_M => (q_L (W_drop x1 (x5 - x5 / 22 * 22) σ).1 (fun x93 : Int32 => (x93, σ91))))) else (if x7 = 20 then (q_L (W_withdraw x1 σ).2 (fun σ96 : q_M => (q_L (W_withdraw x1 σ).1 (fun x98 : Int32 => (x98, σ96))))) else (if x7 = 21 ∨ x7 = 22 then (q_L (W_protest x1 x3 (x5 - x5 / 3 * 3) σ).2 (fun σ101 : q_M => (q_L (W_protest x1 x3 (x5 - x5 / 3 * 3) σ).1 (fun x103 : Int32 => (x103, σ101))))) else (F_says x5 x1 x3 σ))))))))))))))))))))
def P_L_acts (ζ : Nat → Nat) (i : Int32) (σ : q_M) : Prop := ((P_L_in ζ (i + 1) 7 σ) ∧ (∀ x1 : Int32, (F_L_in ζ (i + 1) 7 σ) = x1 → ((P_L_in ζ (i + 2) 7 σ) ∧ (∀ x3 : Int32, (F_L_in ζ (i + 2) 7 σ) = x3 → ((P_L_in ζ (i + 3) 60 σ) ∧ (∀ x5 : Int32, (F_L_in ζ (i + 3) 60 σ) = x5 → ((P_L_in ζ i 26 σ) ∧ (∀ x7 : Int32, (F_L_in ζ i 26 σ) = x7 → (((x7 = 0) → ((Q_addTeam σ) ∧ True)) ∧ (¬ (x7 = 0) → (((x7 = 1) → ((Q_setSpeed x1 x3 (2 * x5) σ) ∧ True)) ∧ (¬ (x7 = 1) → (((x7 = 2) → ((Q_setLength (80 * x5) σ) ∧ True)) ∧ (¬ (x7 = 2) → (((x7 = 3) → ((Q_drawLanes (19 * x5) σ) ∧ True)) ∧ (¬ (x7 = 3) → (((x7 = 4 ∨ x7 = 5) → ((Q_start σ) ∧ True)) ∧ (¬ (x7 = 4 ∨ x7 = 5) → (((x7 = 6 ∨ x7 = 7 ∨ x7 = 8 ∨ x7 = 9 ∨ x7 = 10) → (True ∧ (∀ x36 : Int32, (if (x5 - x5 / 3 * 3) = 0 then (4 * x5) else (x5 - x5 / 12 * 12)) = x36 → ((Q_run x36 σ) ∧ True)))) ∧ (¬ (x7 = 6 ∨ x7 = 7 ∨ x7 = 8 ∨ x7 = 9 ∨ x7 = 10) → (((x7 = 11 ∨ x7 = 12 ∨ x7 = 13 ∨ x7 = 14) → ((P_X8_isStarted σ) ∧ (∀ x43 : Int32, (F_X8_isStarted σ) = x43 → ((x43 = 0 → ((Q_pass x1 σ) ∧ True)) ∧ (¬ x43 = 0 → ((P_X8_teamCount σ) ∧ (∀ x50 : Int32, (F_X8_teamCount σ) = x50 → ((x1 < x50 → ((Q_secondsToZone x1 σ) ∧ (∀ x53 : Int32, (W_secondsToZone x1 σ) = x53 → ((0 < x53 → ((Q_secondsToZone x1 σ) ∧ (∀ x56 : Int32, (W_secondsToZone x1 σ) = x56 → ((60 < x56 → ((Q_pass x1 σ) ∧ True)) ∧ (¬ 60 < x56 → ((0 < (x5 - x5 / 4 * 4) → ((P_N8_standingOf x1 σ) ∧ (∀ x64 : Int32, (F_N8_standingOf x1 σ) = x64 → (((0 < x64 → ((P_N8_standingOf x1 σ) ∧ True)) ∧ (¬ 0 < x64 → ((Q_secondsToZone x1 σ) ∧ True))) ∧ (∀ x67 : Int32, (if 0 < x64 then (F_N8_standingOf x1 σ) else (W_secondsToZone x1 σ)) = x67 → ((Q_run x67 σ) ∧ True)))))) ∧ (¬ 0 < (x5 - x5 / 4 * 4) → ((Q_pass x1 σ) ∧ True)))))))) ∧ (¬ 0 < x53 → ((Q_pass x1 σ) ∧ True)))))) ∧ (¬ x1 < x50 → ((Q_pass x1 σ) ∧ True)))))))))) ∧ (¬ (x7 = 11 ∨ x7 = 12 ∨ x7 = 13 ∨ x7 = 14) → (((x7 = 15 ∨ x7 = 16 ∨ x7 = 17) → ((Q_pass x1 σ) ∧ True)) ∧ (¬ (x7 = 15 ∨ x7 = 16 ∨ x7 = 17) → (((x7 = 18 ∨ x7 = 19) → ((Q_drop x1 (x5 - x5 / 22 * 22) σ) ∧ True)) ∧ (¬ (x7 = 18 ∨ x7 = 19) → (((x7 = 20) → ((Q_withdraw x1 σ) ∧ True)) ∧ (¬ (x7 = 20) → (((x7 = 21 ∨ x7 = 22) → ((Q_protest x1 x3 (x5 - x5 / 3 * 3) σ) ∧ True)) ∧ (¬ (x7 = 21 ∨ x7 = 22) → (P_says x5 x1 x3 σ)))))))))))))))))))))))))))))))
set_option maxRecDepth 100000 in
theorem k_L_acts {α β : Nat → Nat} {D : va_G} {κ : Nat → ClassId} (i : Int32) (σ : q_M) (hP : P_L_acts α i σ) : q_C α β D κ yL_acts cL_acts 6 (Option.some Jvm.ClassFile.FieldType.int) 20 400 130 21400 [.ref 220, .ref 335, .int i] σ (q_oi (F_L_acts α i σ).1) (F_L_acts α i σ).2 := by
  refine q_enter (own := RL) (F := fun _ => none) (G := fun _ => none) (by decide +kernel) rfl Fok_L Gok_L (Nat.le_of_ble_eq_true rfl) (fun p l e s m args below meth c A hfl C hr hT => ?_)
  generalize hRR : ({ frames := 20, cells := 130, slots := 21400, locals := 400 } : Room) = R
  have hRf : 20 ≤ R.frames := by rw [← hRR]; exact Nat.le_refl _
  have hRc : 130 ≤ R.cells := by rw [← hRR]; exact Nat.le_refl _
  have hRs : 21400 ≤ R.slots := by rw [← hRR]; exact Nat.le_refl _
  have hRl : 400 ≤ R.locals := by rw [← hRR]; exact Nat.le_refl _
  generalize hF : F_L_acts α i σ = rr
  unfold F_L_acts at hF
  unfold P_L_acts at hP
  refine q_go C tk_L_acts [(0, 5)] [] (pc1 := 6) (σ1 := σ) (lv1 := [(0, .ref 220), (1, .ref 335), (2, .int i)]) (st1 := [.int 7, .int (i + 1), .ref 335]) rfl trivial ?_
  refine q_callS C hfl mw_L_in ms_L_in lk_L_114 (k_L_in (i + 1) 7 σ hP.1) (rest := []) rfl rfl (q_dc (z := (6, .invokestatic 114, 3, 0, 0)) tk_L_acts 5 rfl) (Nat.le_of_ble_eq_true rfl) ⟨by omega, by omega⟩ ⟨by omega, by omega⟩ ?_
  refine q_nrm 9 [.int (F_L_in α (i + 1) 7 σ)] 0 0 rfl rfl (by omega) (by omega) ?_
  refine q_nmI (fun x1 e2 => ?_)
  replace hF := q_let e2 hF
  refine q_go C tk_L_acts [(6, 6)] [] (pc1 := 16) (σ1 := σ) (lv1 := [(3, .int x1), (0, .ref 220), (1, .ref 335), (2, .int i)]) (st1 := [.int 7, .int (i + 2), .ref 335]) rfl trivial ?_
  refine q_callS C hfl mw_L_in ms_L_in lk_L_114 (k_L_in (i + 2) 7 σ (hP.2 x1 e2).1) (rest := []) rfl rfl (q_dc (z := (16, .invokestatic 114, 3, 0, 0)) tk_L_acts 12 rfl) (Nat.le_of_ble_eq_true rfl) ⟨by omega, by omega⟩ ⟨by omega, by omega⟩ ?_
  refine q_nrm 19 [.int (F_L_in α (i + 2) 7 σ)] 0 0 rfl rfl (by omega) (by omega) ?_
  refine q_nmI (fun x3 e4 => ?_)
  replace hF := q_let e4 hF
  refine q_go C tk_L_acts [(13, 6)] [] (pc1 := 27) (σ1 := σ) (lv1 := [(4, .int x3), (3, .int x1), (0, .ref 220), (1, .ref 335), (2, .int i)]) (st1 := [.int 60, .int (i + 3), .ref 335]) rfl trivial ?_
  refine q_callS C hfl mw_L_in ms_L_in lk_L_114 (k_L_in (i + 3) 60 σ ((hP.2 x1 e2).2 x3 e4).1) (rest := []) rfl rfl (q_dc (z := (27, .invokestatic 114, 3, 0, 0)) tk_L_acts 19 rfl) (Nat.le_of_ble_eq_true rfl) ⟨by omega, by omega⟩ ⟨by omega, by omega⟩ ?_
  refine q_nrm 30 [.int (F_L_in α (i + 3) 60 σ)] 0 0 rfl rfl (by omega) (by omega) ?_
  refine q_nmI (fun x5 e6 => ?_)
  replace hF := q_let e6 hF
  refine q_go C tk_L_acts [(20, 4)] [] (pc1 := 36) (σ1 := σ) (lv1 := [(5, .int x5), (4, .int x3), (3, .int x1), (0, .ref 220), (1, .ref 335), (2, .int i)]) (st1 := [.int 26, .int i, .ref 335]) rfl trivial ?_
  refine q_callS C hfl mw_L_in ms_L_in lk_L_114 (k_L_in i 26 σ (((hP.2 x1 e2).2 x3 e4).2 x5 e6).1) (rest := []) rfl rfl (q_dc (z := (36, .invokestatic 114, 3, 0, 0)) tk_L_acts 24 rfl) (Nat.le_of_ble_eq_true rfl) ⟨by omega, by omega⟩ ⟨by omega, by omega⟩ ?_
  refine q_nrm 39 [.int (F_L_in α i 26 σ)] 0 0 rfl rfl (by omega) (by omega) ?_
  refine q_nmI (fun x7 e8 => ?_)
  replace hF := q_let e8 hF
  by_cases c9 : (x7 = 0)
  · rw [if_pos c9] at hF
    refine q_jn (M := 144) (σ1 := σ) (lv1 := [(5, .int x5), (4, .int x3), (3, .int x1), (0, .ref 220), (1, .ref 335), (2, .int i)]) (st1 := []) (k1 := 0) (k2 := 0) ?_ (fun K => ?_)
    · skip
      refine q_go C tk_L_acts [(26, 1)] [] (pc1 := 145) (σ1 := σ) (lv1 := [(5, .int x5), (4, .int x3), (3, .int x1), (0, .ref 220), (1, .ref 335), (2, .int i)]) (st1 := [.ref 220]) rfl trivial ?_
      refine q_callW (n := 1) C hfl cw_addTeam ⟨by decide +kernel, by decide +kernel, by decide +kernel⟩ q_init_QuillRelayLaw sw_addTeam lk_L_118 (kw_addTeam σ (((((hP.2 x1 e2).2 x3 e4).2 x5 e6).2 x7 e8).1 c9).1) (rest := []) rfl rfl (q_dc (z := (145, .invokestatic 118, 3, 0, 0)) tk_L_acts 27 rfl) (Nat.le_of_ble_eq_true rfl) ⟨by omega, by omega⟩ ⟨by omega, by omega⟩ ?_
      refine q_nrm 148 [.int (W_addTeam σ).1] 1 6 rfl rfl (by omega) (by omega) ?_
      refine q_nmM (fun σ10 e11 => ?_)
      replace hF := q_let e11 hF
      refine q_nmI (fun x12 e13 => ?_)
      replace hF := q_let e13 hF
      exact q_iret C hr (q_dc (z := (148, .ireturn, 1, 0, 0)) tk_L_acts 28 rfl) (congrArg Prod.snd hF) (congrArg (fun z => q_oi z.1) hF.symm) (by omega) (by omega)
    · exact q_tabIn (tgt := 144) C (q_dc (z := (39, .tableswitch 280 0 22 #[105, 110, 122, 132, 142, 142, 147, 147, 147, 147, 147, 171, 171, 171, 171, 245, 245, 245, 251, 251, 262, 268, 268], 105, 0, 0)) tk_L_acts 25 rfl) (by rw [c9]; decide +kernel) (by rw [c9]; decide +kernel) (by rw [c9]; rfl) (by decide) K
  rw [if_neg c9] at hF
  by_cases c14 : (x7 = 1)
  · rw [if_pos c14] at hF
    refine q_jn (M := 149) (σ1 := σ) (lv1 := [(5, .int x5), (4, .int x3), (3, .int x1), (0, .ref 220), (1, .ref 335), (2, .int i)]) (st1 := []) (k1 := 0) (k2 := 0) ?_ (fun K => ?_)
    · skip
      refine q_go C tk_L_acts [(29, 6)] [] (pc1 := 157) (σ1 := σ) (lv1 := [(5, .int x5), (4, .int x3), (3, .int x1), (0, .ref 220), (1, .ref 335), (2, .int i)]) (st1 := [.int (2 * x5), .int x3, .int x1, .ref 220]) rfl trivial ?_
      refine q_callW (n := 4) C hfl cw_setSpeed ⟨by decide +kernel, by decide +kernel, by decide +kernel⟩ q_init_QuillRelayLaw sw_setSpeed lk_L_120 (kw_setSpeed x1 x3 (2 * x5) σ ((((((hP.2 x1 e2).2 x3 e4).2 x5 e6).2 x7 e8).2 c9).1 c14).1) (rest := []) rfl rfl (q_dc (z := (157, .invokestatic 120, 3, 0, 0)) tk_L_acts 35 rfl) (Nat.le_of_ble_eq_true rfl) ⟨by omega, by omega⟩ ⟨by omega, by omega⟩ ?_
      refine q_nrm 160 [.int (W_setSpeed x1 x3 (2 * x5) σ).1] 2 12 rfl rfl (by omega) (by omega) ?_
      refine q_nmM (fun σ15 e16 => ?_)
      replace hF := q_let e16 hF
      refine q_nmI (fun x17 e18 => ?_)
      replace hF := q_let e18 hF
      exact q_iret C hr (q_dc (z := (160, .ireturn, 1, 0, 0)) tk_L_acts 36 rfl) (congrArg Prod.snd hF) (congrArg (fun z => q_oi z.1) hF.symm) (by omega) (by omega)
    · exact q_tabIn (tgt := 149) C (q_dc (z := (39, .tableswitch 280 0 22 #[105, 110, 122, 132, 142, 142, 147, 147, 147, 147, 147, 171, 171, 171, 171, 245, 245, 245, 251, 251, 262, 268, 268], 105, 0, 0)) tk_L_acts 25 rfl) (by rw [c14]; decide +kernel) (by rw [c14]; decide +kernel) (by rw [c14]; rfl) (by decide) K
  rw [if_neg c14] at hF
  by_cases c19 : (x7 = 2)
  · rw [if_pos c19] at hF
    refine q_jn (M := 161) (σ1 := σ) (lv1 := [(5, .int x5), (4, .int x3), (3, .int x1), (0, .ref 220), (1, .ref 335), (2, .int i)]) (st1 := []) (k1 := 0) (k2 := 0) ?_ (fun K => ?_)
    · skip
      refine q_go C tk_L_acts [(37, 4)] [] (pc1 := 167) (σ1 := σ) (lv1 := [(5, .int x5), (4, .int x3), (3, .int x1), (0, .ref 220), (1, .ref 335), (2, .int i)]) (st1 := [.int (80 * x5), .ref 220]) rfl trivial ?_
      refine q_callW (n := 2) C hfl cw_setLength ⟨by decide +kernel, by decide +kernel, by decide +kernel⟩ q_init_QuillRelayLaw sw_setLength lk_L_123 (kw_setLength (80 * x5) σ (((((((hP.2 x1 e2).2 x3 e4).2 x5 e6).2 x7 e8).2 c9).2 c14).1 c19).1) (rest := []) rfl rfl (q_dc (z := (167, .invokestatic 123, 3, 0, 0)) tk_L_acts 41 rfl) (Nat.le_of_ble_eq_true rfl) ⟨by omega, by omega⟩ ⟨by omega, by omega⟩ ?_
      refine q_nrm 170 [.int (W_setLength (80 * x5) σ).1] 1 6 rfl rfl (by omega) (by omega) ?_
      refine q_nmM (fun σ20 e21 => ?_)
      replace hF := q_let e21 hF
      refine q_nmI (fun x22 e23 => ?_)
      replace hF := q_let e23 hF
      exact q_iret C hr (q_dc (z := (170, .ireturn, 1, 0, 0)) tk_L_acts 42 rfl) (congrArg Prod.snd hF) (congrArg (fun z => q_oi z.1) hF.symm) (by omega) (by omega)
    · exact q_tabIn (tgt := 161) C (q_dc (z := (39, .tableswitch 280 0 22 #[105, 110, 122, 132, 142, 142, 147, 147, 147, 147, 147, 171, 171, 171, 171, 245, 245, 245, 251, 251, 262, 268, 268], 105, 0, 0)) tk_L_acts 25 rfl) (by rw [c19]; decide +kernel) (by rw [c19]; decide +kernel) (by rw [c19]; rfl) (by decide) K
  rw [if_neg c19] at hF
  by_cases c24 : (x7 = 3)
  · rw [if_pos c24] at hF
    refine q_jn (M := 171) (σ1 := σ) (lv1 := [(5, .int x5), (4, .int x3), (3, .int x1), (0, .ref 220), (1, .ref 335), (2, .int i)]) (st1 := []) (k1 := 0) (k2 := 0) ?_ (fun K => ?_)
    · skip
      refine q_go C tk_L_acts [(43, 4)] [] (pc1 := 177) (σ1 := σ) (lv1 := [(5, .int x5), (4, .int x3), (3, .int x1), (0, .ref 220), (1, .ref 335), (2, .int i)]) (st1 := [.int (19 * x5), .ref 220]) rfl trivial ?_
      refine q_callW (n := 2) C hfl cw_drawLanes ⟨by decide +kernel, by decide +kernel, by decide +kernel⟩ q_init_QuillRelayLaw sw_drawLanes lk_L_126 (kw_drawLanes (19 * x5) σ ((((((((hP.2 x1 e2).2 x3 e4).2 x5 e6).2 x7 e8).2 c9).2 c14).2 c19).1 c24).1) (rest := []) rfl rfl (q_dc (z := (177, .invokestatic 126, 3, 0, 0)) tk_L_acts 47 rfl) (Nat.le_of_ble_eq_true rfl) ⟨by omega, by omega⟩ ⟨by omega, by omega⟩ ?_
      refine q_nrm 180 [.int (W_drawLanes (19 * x5) σ).1] 2 12 rfl rfl (by omega) (by omega) ?_
      refine q_nmM (fun σ25 e26 => ?_)
      replace hF := q_let e26 hF
      refine q_nmI (fun x27 e28 => ?_)
      replace hF := q_let e28 hF
      exact q_iret C hr (q_dc (z := (180, .ireturn, 1, 0, 0)) tk_L_acts 48 rfl) (congrArg Prod.snd hF) (congrArg (fun z => q_oi z.1) hF.symm) (by omega) (by omega)
    · exact q_tabIn (tgt := 171) C (q_dc (z := (39, .tableswitch 280 0 22 #[105, 110, 122, 132, 142, 142, 147, 147, 147, 147, 147, 171, 171, 171, 171, 245, 245, 245, 251, 251, 262, 268, 268], 105, 0, 0)) tk_L_acts 25 rfl) (by rw [c24]; decide +kernel) (by rw [c24]; decide +kernel) (by rw [c24]; rfl) (by decide) K
  rw [if_neg c24] at hF
  by_cases c29 : (x7 = 4 ∨ x7 = 5)
  · rw [if_pos c29] at hF
    refine q_jn (M := 181) (σ1 := σ) (lv1 := [(5, .int x5), (4, .int x3), (3, .int x1), (0, .ref 220), (1, .ref 335), (2, .int i)]) (st1 := []) (k1 := 0) (k2 := 0) ?_ (fun K => ?_)
    · skip
      refine q_go C tk_L_acts [(49, 1)] [] (pc1 := 182) (σ1 := σ) (lv1 := [(5, .int x5), (4, .int x3), (3, .int x1), (0, .ref 220), (1, .ref 335), (2, .int i)]) (st1 := [.ref 220]) rfl trivial ?_
      refine q_callW (n := 1) C hfl cw_start ⟨by decide +kernel, by decide +kernel, by decide +kernel⟩ q_init_QuillRelayLaw sw_start lk_L_128 (kw_start σ (((((((((hP.2 x1 e2).2 x3 e4).2 x5 e6).2 x7 e8).2 c9).2 c14).2 c19).2 c24).1 c29).1) (rest := []) rfl rfl (q_dc (z := (182, .invokestatic 128, 3, 0, 0)) tk_L_acts 50 rfl) (Nat.le_of_ble_eq_true rfl) ⟨by omega, by omega⟩ ⟨by omega, by omega⟩ ?_
      refine q_nrm 185 [.int (W_start σ).1] 1 6 rfl rfl (by omega) (by omega) ?_
      refine q_nmM (fun σ30 e31 => ?_)
      replace hF := q_let e31 hF
      refine q_nmI (fun x32 e33 => ?_)
      replace hF := q_let e33 hF
      exact q_iret C hr (q_dc (z := (185, .ireturn, 1, 0, 0)) tk_L_acts 51 rfl) (congrArg Prod.snd hF) (congrArg (fun z => q_oi z.1) hF.symm) (by omega) (by omega)
    · rcases c29 with z9 | z9
      · exact q_tabIn (tgt := 181) C (q_dc (z := (39, .tableswitch 280 0 22 #[105, 110, 122, 132, 142, 142, 147, 147, 147, 147, 147, 171, 171, 171, 171, 245, 245, 245, 251, 251, 262, 268, 268], 105, 0, 0)) tk_L_acts 25 rfl) (by rw [z9]; decide +kernel) (by rw [z9]; decide +kernel) (by rw [z9]; rfl) (by decide) K
      · exact q_tabIn (tgt := 181) C (q_dc (z := (39, .tableswitch 280 0 22 #[105, 110, 122, 132, 142, 142, 147, 147, 147, 147, 147, 171, 171, 171, 171, 245, 245, 245, 251, 251, 262, 268, 268], 105, 0, 0)) tk_L_acts 25 rfl) (by rw [z9]; decide +kernel) (by rw [z9]; decide +kernel) (by rw [z9]; rfl) (by decide) K
  rw [if_neg c29] at hF
  by_cases c34 : (x7 = 6 ∨ x7 = 7 ∨ x7 = 8 ∨ x7 = 9 ∨ x7 = 10)
  · rw [if_pos c34] at hF
    refine q_jn (M := 186) (σ1 := σ) (lv1 := [(5, .int x5), (4, .int x3), (3, .int x1), (0, .ref 220), (1, .ref 335), (2, .int i)]) (st1 := []) (k1 := 0) (k2 := 0) ?_ (fun K => ?_)
    · skip
      refine q_go C tk_L_acts [(52, 4)] [] (pc1 := 191) (σ1 := σ) (lv1 := [(5, .int x5), (4, .int x3), (3, .int x1), (0, .ref 220), (1, .ref 335), (2, .int i)]) (st1 := [.int (x5 - x5 / 3 * 3), .ref 220]) rfl ⟨(by decide), trivial⟩ ?_
      refine q_mrgW (v := (if (x5 - x5 / 3 * 3) = 0 then (4 * x5) else (x5 - x5 / 12 * 12))) (M := 206) (σ1 := σ) (lv1 := [(5, .int x5), (4, .int x3), (3, .int x1), (0, .ref 220), (1, .ref 335), (2, .int i)]) (st1 := [.ref 220]) (k1 := 0) (k2 := 0) (fun x36 e37 => ?_) (fun K => ?_)
      · replace hF := q_let e37 hF
        refine q_callW (n := 2) C hfl cw_run ⟨by decide +kernel, by decide +kernel, by decide +kernel⟩ q_init_QuillRelayLaw sw_run lk_L_130 (kw_run x36 σ (((((((((((hP.2 x1 e2).2 x3 e4).2 x5 e6).2 x7 e8).2 c9).2 c14).2 c19).2 c24).2 c29).1 c34).2 x36 e37).1) (rest := []) rfl rfl (q_dc (z := (206, .invokestatic 130, 3, 0, 0)) tk_L_acts 64 rfl) (Nat.le_of_ble_eq_true rfl) ⟨by omega, by omega⟩ ⟨by omega, by omega⟩ ?_
        refine q_nrm 209 [.int (W_run x36 σ).1] 1 6 rfl rfl (by omega) (by omega) ?_
        refine q_nmM (fun σ38 e39 => ?_)
        replace hF := q_let e39 hF
        refine q_nmI (fun x40 e41 => ?_)
        replace hF := q_let e41 hF
        exact q_iret C hr (q_dc (z := (209, .ireturn, 1, 0, 0)) tk_L_acts 65 rfl) (congrArg Prod.snd hF) (congrArg (fun z => q_oi z.1) hF.symm) (by omega) (by omega)
      · clear hF
        by_cases c35 : (x5 - x5 / 3 * 3) = 0
        · skip
          refine q_go C tk_L_acts [(56, 5)] [false] (pc1 := 206) (σ1 := σ) (lv1 := [(5, .int x5), (4, .int x3), (3, .int x1), (0, .ref 220), (1, .ref 335), (2, .int i)]) (st1 := [.int (4 * x5), .ref 220]) rfl ⟨c35, trivial⟩ ?_
          rw [if_pos c35] at K; exact q_wdn (by omega) (by omega) K
        · skip
          refine q_go C tk_L_acts [(56, 1), (61, 3)] [true] (pc1 := 206) (σ1 := σ) (lv1 := [(5, .int x5), (4, .int x3), (3, .int x1), (0, .ref 220), (1, .ref 335), (2, .int i)]) (st1 := [.int (x5 - x5 / 12 * 12), .ref 220]) rfl ⟨c35, (by decide), trivial⟩ ?_
          rw [if_neg c35] at K; exact q_wdn (by omega) (by omega) K
    · rcases c34 with z9 | z9 | z9 | z9 | z9
      · exact q_tabIn (tgt := 186) C (q_dc (z := (39, .tableswitch 280 0 22 #[105, 110, 122, 132, 142, 142, 147, 147, 147, 147, 147, 171, 171, 171, 171, 245, 245, 245, 251, 251, 262, 268, 268], 105, 0, 0)) tk_L_acts 25 rfl) (by rw [z9]; decide +kernel) (by rw [z9]; decide +kernel) (by rw [z9]; rfl) (by decide) K
      · exact q_tabIn (tgt := 186) C (q_dc (z := (39, .tableswitch 280 0 22 #[105, 110, 122, 132, 142, 142, 147, 147, 147, 147, 147, 171, 171, 171, 171, 245, 245, 245, 251, 251, 262, 268, 268], 105, 0, 0)) tk_L_acts 25 rfl) (by rw [z9]; decide +kernel) (by rw [z9]; decide +kernel) (by rw [z9]; rfl) (by decide) K
      · exact q_tabIn (tgt := 186) C (q_dc (z := (39, .tableswitch 280 0 22 #[105, 110, 122, 132, 142, 142, 147, 147, 147, 147, 147, 171, 171, 171, 171, 245, 245, 245, 251, 251, 262, 268, 268], 105, 0, 0)) tk_L_acts 25 rfl) (by rw [z9]; decide +kernel) (by rw [z9]; decide +kernel) (by rw [z9]; rfl) (by decide) K
      · exact q_tabIn (tgt := 186) C (q_dc (z := (39, .tableswitch 280 0 22 #[105, 110, 122, 132, 142, 142, 147, 147, 147, 147, 147, 171, 171, 171, 171, 245, 245, 245, 251, 251, 262, 268, 268], 105, 0, 0)) tk_L_acts 25 rfl) (by rw [z9]; decide +kernel) (by rw [z9]; decide +kernel) (by rw [z9]; rfl) (by decide) K
      · exact q_tabIn (tgt := 186) C (q_dc (z := (39, .tableswitch 280 0 22 #[105, 110, 122, 132, 142, 142, 147, 147, 147, 147, 147, 171, 171, 171, 171, 245, 245, 245, 251, 251, 262, 268, 268], 105, 0, 0)) tk_L_acts 25 rfl) (by rw [z9]; decide +kernel) (by rw [z9]; decide +kernel) (by rw [z9]; rfl) (by decide) K
  rw [if_neg c34] at hF
  by_cases c42 : (x7 = 11 ∨ x7 = 12 ∨ x7 = 13 ∨ x7 = 14)
  · rw [if_pos c42] at hF
    refine q_jn (M := 210) (σ1 := σ) (lv1 := [(5, .int x5), (4, .int x3), (3, .int x1), (0, .ref 220), (1, .ref 335), (2, .int i)]) (st1 := []) (k1 := 0) (k2 := 0) ?_ (fun K => ?_)
    · skip
      refine q_go C tk_L_acts [(66, 1)] [] (pc1 := 211) (σ1 := σ) (lv1 := [(5, .int x5), (4, .int x3), (3, .int x1), (0, .ref 220), (1, .ref 335), (2, .int i)]) (st1 := [.ref 220]) rfl trivial ?_
      refine q_callV C hfl mw_X8_isStarted mi_X8_isStarted me_X8_isStarted lk_L_133 (k_X8_isStarted σ (((((((((((hP.2 x1 e2).2 x3 e4).2 x5 e6).2 x7 e8).2 c9).2 c14).2 c19).2 c24).2 c29).2 c34).1 c42).1) (rest := []) rfl rfl rfl (by decide) (by decide) rfl (q_dc (z := (211, .invokevirtual 133, 3, 0, 0)) tk_L_acts 67 rfl) (Nat.le_of_ble_eq_true rfl) ⟨by omega, by omega⟩ ⟨by omega, by omega⟩ ?_
      refine q_nrm 214 [.int (F_X8_isStarted σ)] 0 0 rfl rfl (by omega) (by omega) ?_
      refine q_nmI (fun x43 e44 => ?_)
      replace hF := q_let e44 hF
      by_cases c45 : x43 = 0
      · rw [if_pos c45] at hF
        refine q_go C tk_L_acts [(68, 1), (100, 2)] [true] (pc1 := 280) (σ1 := σ) (lv1 := [(5, .int x5), (4, .int x3), (3, .int x1), (0, .ref 220), (1, .ref 335), (2, .int i)]) (st1 := [.int x1, .ref 220]) rfl ⟨c45, trivial⟩ ?_
        refine q_callW (n := 2) C hfl cw_pass ⟨by decide +kernel, by decide +kernel, by decide +kernel⟩ q_init_QuillRelayLaw sw_pass lk_L_145 (kw_pass x1 σ (((((((((((((hP.2 x1 e2).2 x3 e4).2 x5 e6).2 x7 e8).2 c9).2 c14).2 c19).2 c24).2 c29).2 c34).1 c42).2 x43 e44).1 c45).1) (rest := []) rfl rfl (q_dc (z := (280, .invokestatic 145, 3, 0, 0)) tk_L_acts 102 rfl) (Nat.le_of_ble_eq_true rfl) ⟨by omega, by omega⟩ ⟨by omega, by omega⟩ ?_
        refine q_nrm 283 [.int (W_pass x1 σ).1] 2 12 rfl rfl (by omega) (by omega) ?_
        refine q_nmM (fun σ46 e47 => ?_)
        replace hF := q_let e47 hF
        refine q_nmI (fun x48 e49 => ?_)
        replace hF := q_let e49 hF
        exact q_iret C hr (q_dc (z := (283, .ireturn, 1, 0, 0)) tk_L_acts 103 rfl) (congrArg Prod.snd hF) (congrArg (fun z => q_oi z.1) hF.symm) (by omega) (by omega)
      · rw [if_neg c45] at hF
        refine q_go C tk_L_acts [(68, 3)] [false] (pc1 := 219) (σ1 := σ) (lv1 := [(5, .int x5), (4, .int x3), (3, .int x1), (0, .ref 220), (1, .ref 335), (2, .int i)]) (st1 := [.ref 220, .int x1]) rfl ⟨c45, trivial⟩ ?_
        refine q_callV C hfl mw_X8_teamCount mi_X8_teamCount me_X8_teamCount lk_L_137 (k_X8_teamCount σ (((((((((((((hP.2 x1 e2).2 x3 e4).2 x5 e6).2 x7 e8).2 c9).2 c14).2 c19).2 c24).2 c29).2 c34).1 c42).2 x43 e44).2 c45).1) (rest := [.int x1]) rfl rfl rfl (by decide) (by decide) rfl (q_dc (z := (219, .invokevirtual 137, 3, 0, 0)) tk_L_acts 71 rfl) (Nat.le_of_ble_eq_true rfl) ⟨by omega, by omega⟩ ⟨by omega, by omega⟩ ?_
        refine q_nrm 222 [.int (F_X8_teamCount σ), .int x1] 0 0 rfl rfl (by omega) (by omega) ?_
        refine q_nmI (fun x50 e51 => ?_)
        replace hF := q_let e51 hF
        by_cases c52 : x1 < x50
        · rw [if_pos c52] at hF
          refine q_go C tk_L_acts [(72, 3)] [false] (pc1 := 227) (σ1 := σ) (lv1 := [(5, .int x5), (4, .int x3), (3, .int x1), (0, .ref 220), (1, .ref 335), (2, .int i)]) (st1 := [.int x1, .ref 220]) rfl ⟨c52, trivial⟩ ?_
          refine q_callW (n := 2) C hfl cw_secondsToZone ⟨by decide +kernel, by decide +kernel, by decide +kernel⟩ q_init_QuillRelayLaw sw_secondsToZone lk_L_140 (kw_secondsToZone x1 σ (((((((((((((((hP.2 x1 e2).2 x3 e4).2 x5 e6).2 x7 e8).2 c9).2 c14).2 c19).2 c24).2 c29).2 c34).1 c42).2 x43 e44).2 c45).2 x50 e51).1 c52).1) (rest := []) rfl rfl (q_dc (z := (227, .invokestatic 140, 3, 0, 0)) tk_L_acts 75 rfl) (Nat.le_of_ble_eq_true rfl) ⟨by omega, by omega⟩ ⟨by omega, by omega⟩ ?_
          refine q_nrm 230 [.int (W_secondsToZone x1 σ)] 2 12 rfl rfl (by omega) (by omega) ?_
          refine q_nmI (fun x53 e54 => ?_)
          replace hF := q_let e54 hF
          by_cases c55 : 0 < x53
          · rw [if_pos c55] at hF
            refine q_go C tk_L_acts [(76, 3)] [false] (pc1 := 235) (σ1 := σ) (lv1 := [(5, .int x5), (4, .int x3), (3, .int x1), (0, .ref 220), (1, .ref 335), (2, .int i)]) (st1 := [.int x1, .ref 220]) rfl ⟨c55, trivial⟩ ?_
            refine q_callW (n := 2) C hfl cw_secondsToZone ⟨by decide +kernel, by decide +kernel, by decide +kernel⟩ q_init_QuillRelayLaw sw_secondsToZone lk_L_140 (kw_secondsToZone x1 σ (((((((((((((((((hP.2 x1 e2).2 x3 e4).2 x5 e6).2 x7 e8).2 c9).2 c14).2 c19).2 c24).2 c29).2 c34).1 c42).2 x43 e44).2 c45).2 x50 e51).1 c52).2 x53 e54).1 c55).1) (rest := []) rfl rfl (q_dc (z := (235, .invokestatic 140, 3, 0, 0)) tk_L_acts 79 rfl) (Nat.le_of_ble_eq_true rfl) ⟨by omega, by omega⟩ ⟨by omega, by omega⟩ ?_
            refine q_nrm 238 [.int (W_secondsToZone x1 σ)] 4 24 rfl rfl (by omega) (by omega) ?_
            refine q_nmI (fun x56 e57 => ?_)
            replace hF := q_let e57 hF
            refine q_go C tk_L_acts [(80, 1)] [] (pc1 := 240) (σ1 := σ) (lv1 := [(5, .int x5), (4, .int x3), (3, .int x1), (0, .ref 220), (1, .ref 335), (2, .int i)]) (st1 := [.int 60, .int x56]) rfl trivial ?_
            by_cases c58 : 60 < x56
            · rw [if_pos c58] at hF
              refine q_go C tk_L_acts [(81, 1), (100, 2)] [true] (pc1 := 280) (σ1 := σ) (lv1 := [(5, .int x5), (4, .int x3), (3, .int x1), (0, .ref 220), (1, .ref 335), (2, .int i)]) (st1 := [.int x1, .ref 220]) rfl ⟨c58, trivial⟩ ?_
              refine q_callW (n := 2) C hfl cw_pass ⟨by decide +kernel, by decide +kernel, by decide +kernel⟩ q_init_QuillRelayLaw sw_pass lk_L_145 (kw_pass x1 σ (((((((((((((((((((hP.2 x1 e2).2 x3 e4).2 x5 e6).2 x7 e8).2 c9).2 c14).2 c19).2 c24).2 c29).2 c34).1 c42).2 x43 e44).2 c45).2 x50 e51).1 c52).2 x53 e54).1 c55).2 x56 e57).1 c58).1) (rest := []) rfl rfl (q_dc (z := (280, .invokestatic 145, 3, 0, 0)) tk_L_acts 102 rfl) (Nat.le_of_ble_eq_true rfl) ⟨by omega, by omega⟩ ⟨by omega, by omega⟩ ?_
              refine q_nrm 283 [.int (W_pass x1 σ).1] 6 36 rfl rfl (by omega) (by omega) ?_
              refine q_nmM (fun σ59 e60 => ?_)
              replace hF := q_let e60 hF
              refine q_nmI (fun x61 e62 => ?_)
              replace hF := q_let e62 hF
              exact q_iret C hr (q_dc (z := (283, .ireturn, 1, 0, 0)) tk_L_acts 103 rfl) (congrArg Prod.snd hF) (congrArg (fun z => q_oi z.1) hF.symm) (by omega) (by omega)
            · rw [if_neg c58] at hF
              refine q_go C tk_L_acts [(81, 4)] [false] (pc1 := 247) (σ1 := σ) (lv1 := [(5, .int x5), (4, .int x3), (3, .int x1), (0, .ref 220), (1, .ref 335), (2, .int i)]) (st1 := [.int (x5 - x5 / 4 * 4)]) rfl ⟨c58, (by decide), trivial⟩ ?_
              by_cases c63 : 0 < (x5 - x5 / 4 * 4)
              · rw [if_pos c63] at hF
                refine q_go C tk_L_acts [(85, 4)] [false] (pc1 := 253) (σ1 := σ) (lv1 := [(5, .int x5), (4, .int x3), (3, .int x1), (0, .ref 220), (1, .ref 335), (2, .int i)]) (st1 := [.int x1, .ref 220, .ref 220]) rfl ⟨c63, trivial⟩ ?_
                refine q_callV C hfl mw_X8_standingOf mi_X8_standingOf me_X8_standingOf lk_L_142 (n_X8_standingOf x1 σ ((((((((((((((((((((hP.2 x1 e2).2 x3 e4).2 x5 e6).2 x7 e8).2 c9).2 c14).2 c19).2 c24).2 c29).2 c34).1 c42).2 x43 e44).2 c45).2 x50 e51).1 c52).2 x53 e54).1 c55).2 x56 e57).2 c58).1 c63).1) (rest := [.ref 220]) rfl rfl rfl (by decide) (by decide) rfl (q_dc (z := (253, .invokevirtual 142, 3, 0, 0)) tk_L_acts 89 rfl) (Nat.le_of_ble_eq_true rfl) ⟨by omega, by omega⟩ ⟨by omega, by omega⟩ ?_
                refine q_nrm 256 [.int (F_N8_standingOf x1 σ), .ref 220] 5 30 rfl rfl (by omega) (by omega) ?_
                refine q_nmI (fun x64 e65 => ?_)
                replace hF := q_let e65 hF
                refine q_mrgW (v := (if 0 < x64 then (F_N8_standingOf x1 σ) else (W_secondsToZone x1 σ))) (M := 272) (σ1 := σ) (lv1 := [(5, .int x5), (4, .int x3), (3, .int x1), (0, .ref 220), (1, .ref 335), (2, .int i)]) (st1 := [.ref 220]) (k1 := 7) (k2 := 42) (fun x67 e68 => ?_) (fun K => ?_)
                · replace hF := q_let e68 hF
                  refine q_callW (n := 2) C hfl cw_run ⟨by decide +kernel, by decide +kernel, by decide +kernel⟩ q_init_QuillRelayLaw sw_run lk_L_130 (kw_run x67 σ ((((((((((((((((((((((hP.2 x1 e2).2 x3 e4).2 x5 e6).2 x7 e8).2 c9).2 c14).2 c19).2 c24).2 c29).2 c34).1 c42).2 x43 e44).2 c45).2 x50 e51).1 c52).2 x53 e54).1 c55).2 x56 e57).2 c58).1 c63).2 x64 e65).2 x67 e68).1) (rest := []) rfl rfl (q_dc (z := (272, .invokestatic 130, 3, 0, 0)) tk_L_acts 98 rfl) (Nat.le_of_ble_eq_true rfl) ⟨by omega, by omega⟩ ⟨by omega, by omega⟩ ?_
                  refine q_nrm 275 [.int (W_run x67 σ).1] 8 48 rfl rfl (by omega) (by omega) ?_
                  refine q_nmM (fun σ69 e70 => ?_)
                  replace hF := q_let e70 hF
                  refine q_nmI (fun x71 e72 => ?_)
                  replace hF := q_let e72 hF
                  refine q_go C tk_L_acts [(99, 1)] [] (pc1 := 283) (σ1 := σ69) (lv1 := [(5, .int x5), (4, .int x3), (3, .int x1), (0, .ref 220), (1, .ref 335), (2, .int i)]) (st1 := [.int x71]) rfl trivial ?_
                  exact q_iret C hr (q_dc (z := (283, .ireturn, 1, 0, 0)) tk_L_acts 103 rfl) (congrArg Prod.snd hF) (congrArg (fun z => q_oi z.1) hF.symm) (by omega) (by omega)
                · clear hF
                  by_cases c66 : 0 < x64
                  · skip
                    refine q_go C tk_L_acts [(90, 3)] [false] (pc1 := 261) (σ1 := σ) (lv1 := [(5, .int x5), (4, .int x3), (3, .int x1), (0, .ref 220), (1, .ref 335), (2, .int i)]) (st1 := [.int x1, .ref 220, .ref 220]) rfl ⟨c66, trivial⟩ ?_
                    refine q_callV C hfl mw_X8_standingOf mi_X8_standingOf me_X8_standingOf lk_L_142 (n_X8_standingOf x1 σ ((((((((((((((((((((((hP.2 x1 e2).2 x3 e4).2 x5 e6).2 x7 e8).2 c9).2 c14).2 c19).2 c24).2 c29).2 c34).1 c42).2 x43 e44).2 c45).2 x50 e51).1 c52).2 x53 e54).1 c55).2 x56 e57).2 c58).1 c63).2 x64 e65).1.1 c66).1) (rest := [.ref 220]) rfl rfl rfl (by decide) (by decide) rfl (q_dc (z := (261, .invokevirtual 142, 3, 0, 0)) tk_L_acts 93 rfl) (Nat.le_of_ble_eq_true rfl) ⟨by omega, by omega⟩ ⟨by omega, by omega⟩ ?_
                    refine q_nrm 264 [.int (F_N8_standingOf x1 σ), .ref 220] 6 36 rfl rfl (by omega) (by omega) ?_
                    refine q_go C tk_L_acts [(94, 1)] [] (pc1 := 272) (σ1 := σ) (lv1 := [(5, .int x5), (4, .int x3), (3, .int x1), (0, .ref 220), (1, .ref 335), (2, .int i)]) (st1 := [.int (F_N8_standingOf x1 σ), .ref 220]) rfl trivial ?_
                    rw [if_pos c66] at K; exact q_wdn (by omega) (by omega) K
                  · skip
                    refine q_go C tk_L_acts [(90, 1), (95, 2)] [true] (pc1 := 269) (σ1 := σ) (lv1 := [(5, .int x5), (4, .int x3), (3, .int x1), (0, .ref 220), (1, .ref 335), (2, .int i)]) (st1 := [.int x1, .ref 220, .ref 220]) rfl ⟨c66, trivial⟩ ?_
                    refine q_callW (n := 2) C hfl cw_secondsToZone ⟨by decide +kernel, by decide +kernel, by decide +kernel⟩ q_init_QuillRelayLaw sw_secondsToZone lk_L_140 (kw_secondsToZone x1 σ ((((((((((((((((((((((hP.2 x1 e2).2 x3 e4).2 x5 e6).2 x7 e8).2 c9).2 c14).2 c19).2 c24).2 c29).2 c34).1 c42).2 x43 e44).2 c45).2 x50 e51).1 c52).2 x53 e54).1 c55).2 x56 e57).2 c58).1 c63).2 x64 e65).1.2 c66).1) (rest := [.ref 220]) rfl rfl (q_dc (z := (269, .invokestatic 140, 3, 0, 0)) tk_L_acts 97 rfl) (Nat.le_of_ble_eq_true rfl) ⟨by omega, by omega⟩ ⟨by omega, by omega⟩ ?_
                    refine q_nrm 272 [.int (W_secondsToZone x1 σ), .ref 220] 7 42 rfl rfl (by omega) (by omega) ?_
                    rw [if_neg c66] at K; exact q_wdn (by omega) (by omega) K
              · rw [if_neg c63] at hF
                refine q_go C tk_L_acts [(85, 1), (100, 2)] [true] (pc1 := 280) (σ1 := σ) (lv1 := [(5, .int x5), (4, .int x3), (3, .int x1), (0, .ref 220), (1, .ref 335), (2, .int i)]) (st1 := [.int x1, .ref 220]) rfl ⟨c63, trivial⟩ ?_
                refine q_callW (n := 2) C hfl cw_pass ⟨by decide +kernel, by decide +kernel, by decide +kernel⟩ q_init_QuillRelayLaw sw_pass lk_L_145 (kw_pass x1 σ ((((((((((((((((((((hP.2 x1 e2).2 x3 e4).2 x5 e6).2 x7 e8).2 c9).2 c14).2 c19).2 c24).2 c29).2 c34).1 c42).2 x43 e44).2 c45).2 x50 e51).1 c52).2 x53 e54).1 c55).2 x56 e57).2 c58).2 c63).1) (rest := []) rfl rfl (q_dc (z := (280, .invokestatic 145, 3, 0, 0)) tk_L_acts 102 rfl) (Nat.le_of_ble_eq_true rfl) ⟨by omega, by omega⟩ ⟨by omega, by omega⟩ ?_
                refine q_nrm 283 [.int (W_pass x1 σ).1] 6 36 rfl rfl (by omega) (by omega) ?_
                refine q_nmM (fun σ73 e74 => ?_)
                replace hF := q_let e74 hF
                refine q_nmI (fun x75 e76 => ?_)
                replace hF := q_let e76 hF
                exact q_iret C hr (q_dc (z := (283, .ireturn, 1, 0, 0)) tk_L_acts 103 rfl) (congrArg Prod.snd hF) (congrArg (fun z => q_oi z.1) hF.symm) (by omega) (by omega)
          · rw [if_neg c55] at hF
            refine q_go C tk_L_acts [(76, 1), (100, 2)] [true] (pc1 := 280) (σ1 := σ) (lv1 := [(5, .int x5), (4, .int x3), (3, .int x1), (0, .ref 220), (1, .ref 335), (2, .int i)]) (st1 := [.int x1, .ref 220]) rfl ⟨c55, trivial⟩ ?_
            refine q_callW (n := 2) C hfl cw_pass ⟨by decide +kernel, by decide +kernel, by decide +kernel⟩ q_init_QuillRelayLaw sw_pass lk_L_145 (kw_pass x1 σ (((((((((((((((((hP.2 x1 e2).2 x3 e4).2 x5 e6).2 x7 e8).2 c9).2 c14).2 c19).2 c24).2 c29).2 c34).1 c42).2 x43 e44).2 c45).2 x50 e51).1 c52).2 x53 e54).2 c55).1) (rest := []) rfl rfl (q_dc (z := (280, .invokestatic 145, 3, 0, 0)) tk_L_acts 102 rfl) (Nat.le_of_ble_eq_true rfl) ⟨by omega, by omega⟩ ⟨by omega, by omega⟩ ?_
            refine q_nrm 283 [.int (W_pass x1 σ).1] 4 24 rfl rfl (by omega) (by omega) ?_
            refine q_nmM (fun σ77 e78 => ?_)
            replace hF := q_let e78 hF
            refine q_nmI (fun x79 e80 => ?_)
            replace hF := q_let e80 hF
            exact q_iret C hr (q_dc (z := (283, .ireturn, 1, 0, 0)) tk_L_acts 103 rfl) (congrArg Prod.snd hF) (congrArg (fun z => q_oi z.1) hF.symm) (by omega) (by omega)
        · rw [if_neg c52] at hF
          refine q_go C tk_L_acts [(72, 1), (100, 2)] [true] (pc1 := 280) (σ1 := σ) (lv1 := [(5, .int x5), (4, .int x3), (3, .int x1), (0, .ref 220), (1, .ref 335), (2, .int i)]) (st1 := [.int x1, .ref 220]) rfl ⟨c52, trivial⟩ ?_
          refine q_callW (n := 2) C hfl cw_pass ⟨by decide +kernel, by decide +kernel, by decide +kernel⟩ q_init_QuillRelayLaw sw_pass lk_L_145 (kw_pass x1 σ (((((((((((((((hP.2 x1 e2).2 x3 e4).2 x5 e6).2 x7 e8).2 c9).2 c14).2 c19).2 c24).2 c29).2 c34).1 c42).2 x43 e44).2 c45).2 x50 e51).2 c52).1) (rest := []) rfl rfl (q_dc (z := (280, .invokestatic 145, 3, 0, 0)) tk_L_acts 102 rfl) (Nat.le_of_ble_eq_true rfl) ⟨by omega, by omega⟩ ⟨by omega, by omega⟩ ?_
          refine q_nrm 283 [.int (W_pass x1 σ).1] 2 12 rfl rfl (by omega) (by omega) ?_
          refine q_nmM (fun σ81 e82 => ?_)
          replace hF := q_let e82 hF
          refine q_nmI (fun x83 e84 => ?_)
          replace hF := q_let e84 hF
          exact q_iret C hr (q_dc (z := (283, .ireturn, 1, 0, 0)) tk_L_acts 103 rfl) (congrArg Prod.snd hF) (congrArg (fun z => q_oi z.1) hF.symm) (by omega) (by omega)
    · rcases c42 with z9 | z9 | z9 | z9
      · exact q_tabIn (tgt := 210) C (q_dc (z := (39, .tableswitch 280 0 22 #[105, 110, 122, 132, 142, 142, 147, 147, 147, 147, 147, 171, 171, 171, 171, 245, 245, 245, 251, 251, 262, 268, 268], 105, 0, 0)) tk_L_acts 25 rfl) (by rw [z9]; decide +kernel) (by rw [z9]; decide +kernel) (by rw [z9]; rfl) (by decide) K
      · exact q_tabIn (tgt := 210) C (q_dc (z := (39, .tableswitch 280 0 22 #[105, 110, 122, 132, 142, 142, 147, 147, 147, 147, 147, 171, 171, 171, 171, 245, 245, 245, 251, 251, 262, 268, 268], 105, 0, 0)) tk_L_acts 25 rfl) (by rw [z9]; decide +kernel) (by rw [z9]; decide +kernel) (by rw [z9]; rfl) (by decide) K
      · exact q_tabIn (tgt := 210) C (q_dc (z := (39, .tableswitch 280 0 22 #[105, 110, 122, 132, 142, 142, 147, 147, 147, 147, 147, 171, 171, 171, 171, 245, 245, 245, 251, 251, 262, 268, 268], 105, 0, 0)) tk_L_acts 25 rfl) (by rw [z9]; decide +kernel) (by rw [z9]; decide +kernel) (by rw [z9]; rfl) (by decide) K
      · exact q_tabIn (tgt := 210) C (q_dc (z := (39, .tableswitch 280 0 22 #[105, 110, 122, 132, 142, 142, 147, 147, 147, 147, 147, 171, 171, 171, 171, 245, 245, 245, 251, 251, 262, 268, 268], 105, 0, 0)) tk_L_acts 25 rfl) (by rw [z9]; decide +kernel) (by rw [z9]; decide +kernel) (by rw [z9]; rfl) (by decide) K
  rw [if_neg c42] at hF
  by_cases c85 : (x7 = 15 ∨ x7 = 16 ∨ x7 = 17)
  · rw [if_pos c85] at hF
    refine q_jn (M := 284) (σ1 := σ) (lv1 := [(5, .int x5), (4, .int x3), (3, .int x1), (0, .ref 220), (1, .ref 335), (2, .int i)]) (st1 := []) (k1 := 0) (k2 := 0) ?_ (fun K => ?_)
    · skip
      refine q_go C tk_L_acts [(104, 2)] [] (pc1 := 286) (σ1 := σ) (lv1 := [(5, .int x5), (4, .int x3), (3, .int x1), (0, .ref 220), (1, .ref 335), (2, .int i)]) (st1 := [.int x1, .ref 220]) rfl trivial ?_
      refine q_callW (n := 2) C hfl cw_pass ⟨by decide +kernel, by decide +kernel, by decide +kernel⟩ q_init_QuillRelayLaw sw_pass lk_L_145 (kw_pass x1 σ ((((((((((((hP.2 x1 e2).2 x3 e4).2 x5 e6).2 x7 e8).2 c9).2 c14).2 c19).2 c24).2 c29).2 c34).2 c42).1 c85).1) (rest := []) rfl rfl (q_dc (z := (286, .invokestatic 145, 3, 0, 0)) tk_L_acts 106 rfl) (Nat.le_of_ble_eq_true rfl) ⟨by omega, by omega⟩ ⟨by omega, by omega⟩ ?_
      refine q_nrm 289 [.int (W_pass x1 σ).1] 2 12 rfl rfl (by omega) (by omega) ?_
      refine q_nmM (fun σ86 e87 => ?_)
      replace hF := q_let e87 hF
      refine q_nmI (fun x88 e89 => ?_)
      replace hF := q_let e89 hF
      exact q_iret C hr (q_dc (z := (289, .ireturn, 1, 0, 0)) tk_L_acts 107 rfl) (congrArg Prod.snd hF) (congrArg (fun z => q_oi z.1) hF.symm) (by omega) (by omega)
    · rcases c85 with z9 | z9 | z9
      · exact q_tabIn (tgt := 284) C (q_dc (z := (39, .tableswitch 280 0 22 #[105, 110, 122, 132, 142, 142, 147, 147, 147, 147, 147, 171, 171, 171, 171, 245, 245, 245, 251, 251, 262, 268, 268], 105, 0, 0)) tk_L_acts 25 rfl) (by rw [z9]; decide +kernel) (by rw [z9]; decide +kernel) (by rw [z9]; rfl) (by decide) K
      · exact q_tabIn (tgt := 284) C (q_dc (z := (39, .tableswitch 280 0 22 #[105, 110, 122, 132, 142, 142, 147, 147, 147, 147, 147, 171, 171, 171, 171, 245, 245, 245, 251, 251, 262, 268, 268], 105, 0, 0)) tk_L_acts 25 rfl) (by rw [z9]; decide +kernel) (by rw [z9]; decide +kernel) (by rw [z9]; rfl) (by decide) K
      · exact q_tabIn (tgt := 284) C (q_dc (z := (39, .tableswitch 280 0 22 #[105, 110, 122, 132, 142, 142, 147, 147, 147, 147, 147, 171, 171, 171, 171, 245, 245, 245, 251, 251, 262, 268, 268], 105, 0, 0)) tk_L_acts 25 rfl) (by rw [z9]; decide +kernel) (by rw [z9]; decide +kernel) (by rw [z9]; rfl) (by decide) K
  rw [if_neg c85] at hF
  by_cases c90 : (x7 = 18 ∨ x7 = 19)
  · rw [if_pos c90] at hF
    refine q_jn (M := 290) (σ1 := σ) (lv1 := [(5, .int x5), (4, .int x3), (3, .int x1), (0, .ref 220), (1, .ref 335), (2, .int i)]) (st1 := []) (k1 := 0) (k2 := 0) ?_ (fun K => ?_)
    · skip
      refine q_go C tk_L_acts [(108, 5)] [] (pc1 := 297) (σ1 := σ) (lv1 := [(5, .int x5), (4, .int x3), (3, .int x1), (0, .ref 220), (1, .ref 335), (2, .int i)]) (st1 := [.int (x5 - x5 / 22 * 22), .int x1, .ref 220]) rfl ⟨(by decide), trivial⟩ ?_
      refine q_callW (n := 3) C hfl cw_drop ⟨by decide +kernel, by decide +kernel, by decide +kernel⟩ q_init_QuillRelayLaw sw_drop lk_L_147 (kw_drop x1 (x5 - x5 / 22 * 22) σ (((((((((((((hP.2 x1 e2).2 x3 e4).2 x5 e6).2 x7 e8).2 c9).2 c14).2 c19).2 c24).2 c29).2 c34).2 c42).2 c85).1 c90).1) (rest := []) rfl rfl (q_dc (z := (297, .invokestatic 147, 3, 0, 0)) tk_L_acts 113 rfl) (Nat.le_of_ble_eq_true rfl) ⟨by omega, by omega⟩ ⟨by omega, by omega⟩ ?_
      refine q_nrm 300 [.int (W_drop x1 (x5 - x5 / 22 * 22) σ).1] 2 12 rfl rfl (by omega) (by omega) ?_
      refine q_nmM (fun σ91 e92 => ?_)
      replace hF := q_let e92 hF
      refine q_nmI (fun x93 e94 => ?_)
      replace hF := q_let e94 hF
      exact q_iret C hr (q_dc (z := (300, .ireturn, 1, 0, 0)) tk_L_acts 114 rfl) (congrArg Prod.snd hF) (congrArg (fun z => q_oi z.1) hF.symm) (by omega) (by omega)
    · rcases c90 with z9 | z9
      · exact q_tabIn (tgt := 290) C (q_dc (z := (39, .tableswitch 280 0 22 #[105, 110, 122, 132, 142, 142, 147, 147, 147, 147, 147, 171, 171, 171, 171, 245, 245, 245, 251, 251, 262, 268, 268], 105, 0, 0)) tk_L_acts 25 rfl) (by rw [z9]; decide +kernel) (by rw [z9]; decide +kernel) (by rw [z9]; rfl) (by decide) K
      · exact q_tabIn (tgt := 290) C (q_dc (z := (39, .tableswitch 280 0 22 #[105, 110, 122, 132, 142, 142, 147, 147, 147, 147, 147, 171, 171, 171, 171, 245, 245, 245, 251, 251, 262, 268, 268], 105, 0, 0)) tk_L_acts 25 rfl) (by rw [z9]; decide +kernel) (by rw [z9]; decide +kernel) (by rw [z9]; rfl) (by decide) K
  rw [if_neg c90] at hF
  by_cases c95 : (x7 = 20)
  · rw [if_pos c95] at hF
    refine q_jn (M := 301) (σ1 := σ) (lv1 := [(5, .int x5), (4, .int x3), (3, .int x1), (0, .ref 220), (1, .ref 335), (2, .int i)]) (st1 := []) (k1 := 0) (k2 := 0) ?_ (fun K => ?_)
    · skip
      refine q_go C tk_L_acts [(115, 2)] [] (pc1 := 303) (σ1 := σ) (lv1 := [(5, .int x5), (4, .int x3), (3, .int x1), (0, .ref 220), (1, .ref 335), (2, .int i)]) (st1 := [.int x1, .ref 220]) rfl trivial ?_
      refine q_callW (n := 2) C hfl cw_withdraw ⟨by decide +kernel, by decide +kernel, by decide +kernel⟩ q_init_QuillRelayLaw sw_withdraw lk_L_150 (kw_withdraw x1 σ ((((((((((((((hP.2 x1 e2).2 x3 e4).2 x5 e6).2 x7 e8).2 c9).2 c14).2 c19).2 c24).2 c29).2 c34).2 c42).2 c85).2 c90).1 c95).1) (rest := []) rfl rfl (q_dc (z := (303, .invokestatic 150, 3, 0, 0)) tk_L_acts 117 rfl) (Nat.le_of_ble_eq_true rfl) ⟨by omega, by omega⟩ ⟨by omega, by omega⟩ ?_
      refine q_nrm 306 [.int (W_withdraw x1 σ).1] 2 12 rfl rfl (by omega) (by omega) ?_
      refine q_nmM (fun σ96 e97 => ?_)
      replace hF := q_let e97 hF
      refine q_nmI (fun x98 e99 => ?_)
      replace hF := q_let e99 hF
      exact q_iret C hr (q_dc (z := (306, .ireturn, 1, 0, 0)) tk_L_acts 118 rfl) (congrArg Prod.snd hF) (congrArg (fun z => q_oi z.1) hF.symm) (by omega) (by omega)
    · exact q_tabIn (tgt := 301) C (q_dc (z := (39, .tableswitch 280 0 22 #[105, 110, 122, 132, 142, 142, 147, 147, 147, 147, 147, 171, 171, 171, 171, 245, 245, 245, 251, 251, 262, 268, 268], 105, 0, 0)) tk_L_acts 25 rfl) (by rw [c95]; decide +kernel) (by rw [c95]; decide +kernel) (by rw [c95]; rfl) (by decide) K
  rw [if_neg c95] at hF
  by_cases c100 : (x7 = 21 ∨ x7 = 22)
  · rw [if_pos c100] at hF
    refine q_jn (M := 307) (σ1 := σ) (lv1 := [(5, .int x5), (4, .int x3), (3, .int x1), (0, .ref 220), (1, .ref 335), (2, .int i)]) (st1 := []) (k1 := 0) (k2 := 0) ?_ (fun K => ?_)
    · skip
      refine q_go C tk_L_acts [(119, 6)] [] (pc1 := 315) (σ1 := σ) (lv1 := [(5, .int x5), (4, .int x3), (3, .int x1), (0, .ref 220), (1, .ref 335), (2, .int i)]) (st1 := [.int (x5 - x5 / 3 * 3), .int x3, .int x1, .ref 220]) rfl ⟨(by decide), trivial⟩ ?_
      refine q_callW (n := 4) C hfl cw_protest ⟨by decide +kernel, by decide +kernel, by decide +kernel⟩ q_init_QuillRelayLaw sw_protest lk_L_152 (kw_protest x1 x3 (x5 - x5 / 3 * 3) σ (((((((((((((((hP.2 x1 e2).2 x3 e4).2 x5 e6).2 x7 e8).2 c9).2 c14).2 c19).2 c24).2 c29).2 c34).2 c42).2 c85).2 c90).2 c95).1 c100).1) (rest := []) rfl rfl (q_dc (z := (315, .invokestatic 152, 3, 0, 0)) tk_L_acts 125 rfl) (Nat.le_of_ble_eq_true rfl) ⟨by omega, by omega⟩ ⟨by omega, by omega⟩ ?_
      refine q_nrm 318 [.int (W_protest x1 x3 (x5 - x5 / 3 * 3) σ).1] 3 18 rfl rfl (by omega) (by omega) ?_
      refine q_nmM (fun σ101 e102 => ?_)
      replace hF := q_let e102 hF
      refine q_nmI (fun x103 e104 => ?_)
      replace hF := q_let e104 hF
      exact q_iret C hr (q_dc (z := (318, .ireturn, 1, 0, 0)) tk_L_acts 126 rfl) (congrArg Prod.snd hF) (congrArg (fun z => q_oi z.1) hF.symm) (by omega) (by omega)
    · rcases c100 with z9 | z9
      · exact q_tabIn (tgt := 307) C (q_dc (z := (39, .tableswitch 280 0 22 #[105, 110, 122, 132, 142, 142, 147, 147, 147, 147, 147, 171, 171, 171, 171, 245, 245, 245, 251, 251, 262, 268, 268], 105, 0, 0)) tk_L_acts 25 rfl) (by rw [z9]; decide +kernel) (by rw [z9]; decide +kernel) (by rw [z9]; rfl) (by decide) K
      · exact q_tabIn (tgt := 307) C (q_dc (z := (39, .tableswitch 280 0 22 #[105, 110, 122, 132, 142, 142, 147, 147, 147, 147, 147, 171, 171, 171, 171, 245, 245, 245, 251, 251, 262, 268, 268], 105, 0, 0)) tk_L_acts 25 rfl) (by rw [z9]; decide +kernel) (by rw [z9]; decide +kernel) (by rw [z9]; rfl) (by decide) K
  rw [if_neg c100] at hF
  refine q_tabOut (tgt := 319) C (q_dc (z := (39, .tableswitch 280 0 22 #[105, 110, 122, 132, 142, 142, 147, 147, 147, 147, 147, 171, 171, 171, 171, 245, 245, 245, 251, 251, 262, 268, 268], 105, 0, 0)) tk_L_acts 25 rfl) (q_rg0_22 (fun z9 hz9 => ?_)) (by decide) ?_
  · rcases hz9 with rfl | rfl | rfl | rfl | rfl | rfl | rfl | rfl | rfl | rfl | rfl | rfl | rfl | rfl | rfl | rfl | rfl | rfl | rfl | rfl | rfl | rfl | rfl
    · exact fun q9 => c9 q9
    · exact fun q9 => c14 q9
    · exact fun q9 => c19 q9
    · exact fun q9 => c24 q9
    · exact fun q9 => c29 (Or.inl q9)
    · exact fun q9 => c29 (Or.inr q9)
    · exact fun q9 => c34 (Or.inl q9)
    · exact fun q9 => c34 (Or.inr (Or.inl q9))
    · exact fun q9 => c34 (Or.inr (Or.inr (Or.inl q9)))
    · exact fun q9 => c34 (Or.inr (Or.inr (Or.inr (Or.inl q9))))
    · exact fun q9 => c34 (Or.inr (Or.inr (Or.inr (Or.inr q9))))
    · exact fun q9 => c42 (Or.inl q9)
    · exact fun q9 => c42 (Or.inr (Or.inl q9))
    · exact fun q9 => c42 (Or.inr (Or.inr (Or.inl q9)))
    · exact fun q9 => c42 (Or.inr (Or.inr (Or.inr q9)))
    · exact fun q9 => c85 (Or.inl q9)
    · exact fun q9 => c85 (Or.inr (Or.inl q9))
    · exact fun q9 => c85 (Or.inr (Or.inr q9))
    · exact fun q9 => c90 (Or.inl q9)
    · exact fun q9 => c90 (Or.inr q9)
    · exact fun q9 => c95 q9
    · exact fun q9 => c100 (Or.inl q9)
    · exact fun q9 => c100 (Or.inr q9)
  obtain ⟨⟨c9, a9, b9, h1, h2, h3, h4, h5, h6⟩, h7, h8⟩ := (((((((((((((((hP.2 x1 e2).2 x3 e4).2 x5 e6).2 x7 e8).2 c9).2 c14).2 c19).2 c24).2 c29).2 c34).2 c42).2 c85).2 c90).2 c95).2 c100)
  rw [h1, h2, h3] at h8 hF
  refine q_lvpick [3, 4, 5, 2, 1, 0] (lv' := [(0, .ref 220), (1, .ref 335), (2, .int i), (3, .int (nI a9)), (4, .int (nI b9)), (5, .int (nI c9))]) (by rw [← h1, ← h2, ← h3]; rfl) ?_
  refine t_says hfl C (by omega) (by omega) h4 h5 h6 _ _ (by omega) (by omega) h7 h8 ?_
  exact q_iret C hr (q_dc (z := (474, .ireturn, 1, 0, 0)) tk_L_acts 195 rfl) (congrArg Prod.snd hF) (congrArg (fun z => q_oi z.1) hF.symm) (by omega) (by omega)
