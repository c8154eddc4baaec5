/-! The class: 19.face. -/
def F_X8_teamCount (σ : q_M) : Int32 := (F_X4_countEntered 0 σ)
def P_X8_teamCount (σ : q_M) : Prop := ((P_X4_countEntered 0 σ) ∧ True)
set_option maxRecDepth 100000 in
theorem k_X8_teamCount {α β : Nat → Nat} {D : va_G} {κ : Nat → ClassId} (σ : q_M) (hP : P_X8_teamCount σ) : q_C α β D κ yX8_teamCount cX8_teamCount 1 (Option.some Jvm.ClassFile.FieldType.int) 2 46 0 0 [.ref 220] σ (q_oi (F_X8_teamCount σ)) σ := by
  refine q_enter (own := RX8) (F := F_X8) (G := G_X8) (by decide +kernel) rfl Fok_X8 Gok_X8 (Nat.le_of_ble_eq_true rfl) (fun p l e s m args below meth c A hfl C hr hT => ?_)
  generalize hF : F_X8_teamCount σ = rr
  unfold F_X8_teamCount at hF
  refine q_go C tk_X8_teamCount [(0, 2)] [] (pc1 := 4) (σ1 := σ) (lv1 := [(0, .ref 220)]) (st1 := [.ref 0]) rfl ⟨rfl, trivial⟩ ?_
  refine q_callV C hfl mw_X4_countEntered mi_X4_countEntered me_X4_countEntered lk_X8_113 (k_X4_countEntered 0 σ rfl hP.1) (rest := []) rfl rfl rfl (by decide) (by decide) rfl (q_dc (z := (4, .invokevirtual 113, 3, 0, 0)) tk_X8_teamCount 2 rfl) (Nat.le_of_ble_eq_true rfl) ⟨Nat.le_of_ble_eq_true rfl, Nat.le_of_ble_eq_true rfl⟩ ⟨Nat.le_of_ble_eq_true rfl, Nat.le_of_ble_eq_true rfl⟩ ?_
  refine q_nrm 7 [.int (F_X4_countEntered 0 σ)] 0 0 rfl rfl rfl rfl ?_
  exact q_iret C hr (q_dc (z := (7, .ireturn, 1, 0, 0)) tk_X8_teamCount 3 rfl) rfl (congrArg q_oi hF.symm) (Nat.le_of_ble_eq_true rfl) (Nat.le_of_ble_eq_true rfl)
def F_X8_runningCount (σ : q_M) : Int32 := (F_X4_countRunning 0 σ)
def P_X8_runningCount (σ : q_M) : Prop := ((P_X4_countRunning 0 σ) ∧ True)
set_option maxRecDepth 100000 in
theorem k_X8_runningCount {α β : Nat → Nat} {D : va_G} {κ : Nat → ClassId} (σ : q_M) (hP : P_X8_runningCount σ) : q_C α β D κ yX8_runningCount cX8_runningCount 1 (Option.some Jvm.ClassFile.FieldType.int) 2 46 0 0 [.ref 220] σ (q_oi (F_X8_runningCount σ)) σ := by
  refine q_enter (own := RX8) (F := F_X8) (G := G_X8) (by decide +kernel) rfl Fok_X8 Gok_X8 (Nat.le_of_ble_eq_true rfl) (fun p l e s m args below meth c A hfl C hr hT => ?_)
  generalize hF : F_X8_runningCount σ = rr
  unfold F_X8_runningCount at hF
  refine q_go C tk_X8_runningCount [(0, 2)] [] (pc1 := 4) (σ1 := σ) (lv1 := [(0, .ref 220)]) (st1 := [.ref 0]) rfl ⟨rfl, trivial⟩ ?_
  refine q_callV C hfl mw_X4_countRunning mi_X4_countRunning me_X4_countRunning lk_X8_150 (k_X4_countRunning 0 σ rfl hP.1) (rest := []) rfl rfl rfl (by decide) (by decide) rfl (q_dc (z := (4, .invokevirtual 150, 3, 0, 0)) tk_X8_runningCount 2 rfl) (Nat.le_of_ble_eq_true rfl) ⟨Nat.le_of_ble_eq_true rfl, Nat.le_of_ble_eq_true rfl⟩ ⟨Nat.le_of_ble_eq_true rfl, Nat.le_of_ble_eq_true rfl⟩ ?_
  refine q_nrm 7 [.int (F_X4_countRunning 0 σ)] 0 0 rfl rfl rfl rfl ?_
  exact q_iret C hr (q_dc (z := (7, .ireturn, 1, 0, 0)) tk_X8_runningCount 3 rfl) rfl (congrArg q_oi hF.symm) (Nat.le_of_ble_eq_true rfl) (Nat.le_of_ble_eq_true rfl)
def F_X8_isStarted (σ : q_M) : Int32 := (σ 0 1)
def P_X8_isStarted (σ : q_M) : Prop := (((σ 0 1) = 0 ∨ (σ 0 1) = 1) ∧ True)
set_option maxRecDepth 100000 in
theorem k_X8_isStarted {α β : Nat → Nat} {D : va_G} {κ : Nat → ClassId} (σ : q_M) (hP : P_X8_isStarted σ) : q_C α β D κ yX8_isStarted cX8_isStarted 1 (Option.some Jvm.ClassFile.FieldType.boolean) 0 0 0 0 [.ref 220] σ (q_oi (F_X8_isStarted σ)) σ := by
  refine q_enter (own := RX8) (F := F_X8) (G := G_X8) (by decide +kernel) rfl Fok_X8 Gok_X8 (Nat.le_of_ble_eq_true rfl) (fun p l e s m args below meth c A hfl C hr hT => ?_)
  generalize hF : F_X8_isStarted σ = rr
  unfold F_X8_isStarted at hF
  refine q_go C tk_X8_isStarted [(0, 3)] [] (pc1 := 7) (σ1 := σ) (lv1 := [(0, .ref 220)]) (st1 := [.int (σ 0 1)]) rfl ⟨rfl, rfl, trivial⟩ ?_
  exact q_zret C hr (q_dc (z := (7, .ireturn, 1, 0, 0)) tk_X8_isStarted 3 rfl) (q_zb (hP.1)).1 rfl (congrArg q_oi hF.symm) (Nat.le_of_ble_eq_true rfl) (Nat.le_of_ble_eq_true rfl)
def F_X8_isFinished (σ : q_M) : Int32 := (if (σ 0 1) = 0 then 0 else (if (F_X4_countRunning 0 σ) = 0 then 1 else 0))
def P_X8_isFinished (σ : q_M) : Prop := (((σ 0 1) = 0 → True) ∧ (¬ (σ 0 1) = 0 → ((P_X4_countRunning 0 σ) ∧ True)))
set_option maxRecDepth 100000 in
theorem k_X8_isFinished {α β : Nat → Nat} {D : va_G} {κ : Nat → ClassId} (σ : q_M) (hP : P_X8_isFinished σ) : q_C α β D κ yX8_isFinished cX8_isFinished 1 (Option.some Jvm.ClassFile.FieldType.boolean) 2 46 0 0 [.ref 220] σ (q_oi (F_X8_isFinished σ)) σ := by
  refine q_enter (own := RX8) (F := F_X8) (G := G_X8) (by decide +kernel) rfl Fok_X8 Gok_X8 (Nat.le_of_ble_eq_true rfl) (fun p l e s m args below meth c A hfl C hr hT => ?_)
  generalize hF : F_X8_isFinished σ = rr
  unfold F_X8_isFinished at hF
  refine q_go C tk_X8_isFinished [(0, 3)] [] (pc1 := 7) (σ1 := σ) (lv1 := [(0, .ref 220)]) (st1 := [.int (σ 0 1)]) rfl ⟨rfl, rfl, trivial⟩ ?_
  by_cases c1 : (σ 0 1) = 0
  · rw [if_pos c1] at hF
    refine q_go C tk_X8_isFinished [(3, 1), (10, 1)] [true] (pc1 := 25) (σ1 := σ) (lv1 := [(0, .ref 220)]) (st1 := [.int 0]) rfl ⟨c1, trivial⟩ ?_
    exact q_zret C hr (q_dc (z := (25, .ireturn, 1, 0, 0)) tk_X8_isFinished 11 rfl) (by decide +kernel) rfl (congrArg q_oi hF.symm) (Nat.le_of_ble_eq_true rfl) (Nat.le_of_ble_eq_true rfl)
  · rw [if_neg c1] at hF
    refine q_go C tk_X8_isFinished [(3, 3)] [false] (pc1 := 14) (σ1 := σ) (lv1 := [(0, .ref 220)]) (st1 := [.ref 0]) rfl ⟨c1, rfl, trivial⟩ ?_
    refine q_callV C hfl mw_X4_countRunning mi_X4_countRunning me_X4_countRunning lk_X8_150 (k_X4_countRunning 0 σ rfl (hP.2 c1).1) (rest := []) rfl rfl rfl (by decide) (by decide) rfl (q_dc (z := (14, .invokevirtual 150, 3, 0, 0)) tk_X8_isFinished 6 rfl) (Nat.le_of_ble_eq_true rfl) ⟨Nat.le_of_ble_eq_true rfl, Nat.le_of_ble_eq_true rfl⟩ ⟨Nat.le_of_ble_eq_true rfl, Nat.le_of_ble_eq_true rfl⟩ ?_
    refine q_nrm 17 [.int (F_X4_countRunning 0 σ)] 0 0 rfl rfl rfl rfl ?_
    by_cases c2 : (F_X4_countRunning 0 σ) = 0
    · rw [if_pos c2] at hF
      refine q_go C tk_X8_isFinished [(7, 3)] [false] (pc1 := 25) (σ1 := σ) (lv1 := [(0, .ref 220)]) (st1 := [.int 1]) rfl ⟨c2, trivial⟩ ?_
      exact q_zret C hr (q_dc (z := (25, .ireturn, 1, 0, 0)) tk_X8_isFinished 11 rfl) (by decide +kernel) rfl (congrArg q_oi hF.symm) (Nat.le_of_ble_eq_true rfl) (Nat.le_of_ble_eq_true rfl)
    · rw [if_neg c2] at hF
      refine q_go C tk_X8_isFinished [(7, 1), (10, 1)] [true] (pc1 := 25) (σ1 := σ) (lv1 := [(0, .ref 220)]) (st1 := [.int 0]) rfl ⟨c2, trivial⟩ ?_
      exact q_zret C hr (q_dc (z := (25, .ireturn, 1, 0, 0)) tk_X8_isFinished 11 rfl) (by decide +kernel) rfl (congrArg q_oi hF.symm) (Nat.le_of_ble_eq_true rfl) (Nat.le_of_ble_eq_true rfl)
def F_X8_clock (σ : q_M) : Int32 := (σ 0 2)
set_option maxRecDepth 100000 in
theorem k_X8_clock {α β : Nat → Nat} {D : va_G} {κ : Nat → ClassId} (σ : q_M) : q_C α β D κ yX8_clock cX8_clock 1 (Option.some Jvm.ClassFile.FieldType.int) 0 0 0 0 [.ref 220] σ (q_oi (F_X8_clock σ)) σ := by
  refine q_enter (own := RX8) (F := F_X8) (G := G_X8) (by decide +kernel) rfl Fok_X8 Gok_X8 (Nat.le_of_ble_eq_true rfl) (fun p l e s m args below meth c A hfl C hr hT => ?_)
  generalize hF : F_X8_clock σ = rr
  unfold F_X8_clock at hF
  refine q_go C tk_X8_clock [(0, 3)] [] (pc1 := 7) (σ1 := σ) (lv1 := [(0, .ref 220)]) (st1 := [.int (σ 0 2)]) rfl ⟨rfl, rfl, trivial⟩ ?_
  exact q_iret C hr (q_dc (z := (7, .ireturn, 1, 0, 0)) tk_X8_clock 3 rfl) rfl (congrArg q_oi hF.symm) (Nat.le_of_ble_eq_true rfl) (Nat.le_of_ble_eq_true rfl)
def F_X8_length (σ : q_M) : Int32 := (σ 0 3)
set_option maxRecDepth 100000 in
theorem k_X8_length {α β : Nat → Nat} {D : va_G} {κ : Nat → ClassId} (σ : q_M) : q_C α β D κ yX8_length cX8_length 1 (Option.some Jvm.ClassFile.FieldType.int) 0 0 0 0 [.ref 220] σ (q_oi (F_X8_length σ)) σ := by
  refine q_enter (own := RX8) (F := F_X8) (G := G_X8) (by decide +kernel) rfl Fok_X8 Gok_X8 (Nat.le_of_ble_eq_true rfl) (fun p l e s m args below meth c A hfl C hr hT => ?_)
  generalize hF : F_X8_length σ = rr
  unfold F_X8_length at hF
  refine q_go C tk_X8_length [(0, 3)] [] (pc1 := 7) (σ1 := σ) (lv1 := [(0, .ref 220)]) (st1 := [.int (σ 0 3)]) rfl ⟨rfl, rfl, trivial⟩ ?_
  exact q_iret C hr (q_dc (z := (7, .ireturn, 1, 0, 0)) tk_X8_length 3 rfl) rfl (congrArg q_oi hF.symm) (Nat.le_of_ble_eq_true rfl) (Nat.le_of_ble_eq_true rfl)
def F_X8_laneOf (n : Int32) (σ : q_M) : Int32 ⊕ String := (match (F_X8_teamWith n σ) with | .inl v1 => (.inl (σ v1 4)) | .inr E => (.inr E))
set_option maxRecDepth 100000 in
theorem k_X8_laneOf {α β : Nat → Nat} {D : va_G} {κ : Nat → ClassId} (n : Int32) (σ : q_M) : q_C α β D κ yX8_laneOf cX8_laneOf 2 (Option.some Jvm.ClassFile.FieldType.int) 7 112 1 6 [.ref 220, .int n] σ (q_oxi (F_X8_laneOf n σ)) σ := by
  refine q_enter (own := RX8) (F := F_X8) (G := G_X8) (by decide +kernel) rfl Fok_X8 Gok_X8 (Nat.le_of_ble_eq_true rfl) (fun p l e s m args below meth c A hfl C hr hT => ?_)
  generalize hF : F_X8_laneOf n σ = rr
  unfold F_X8_laneOf at hF
  refine q_go C tk_X8_laneOf [(0, 2)] [] (pc1 := 2) (σ1 := σ) (lv1 := [(0, .ref 220), (1, .int n)]) (st1 := [.int n, .ref 220]) rfl trivial ?_
  have hc3 := (k_X8_teamWith (α := α) (β := β) (D := D) (κ := κ) n σ)
  cases hx2 : (F_X8_teamWith n σ) with
  | inl v1 =>
    rw [hx2] at hc3 hF
    dsimp only at hF
    refine q_callV C hfl mw_X8_teamWith mi_X8_teamWith me_X8_teamWith lk_X8_80 hc3 (rest := []) rfl rfl rfl (by decide) (by decide) rfl (q_dc (z := (2, .invokevirtual 80, 3, 0, 0)) tk_X8_laneOf 2 rfl) (Nat.le_of_ble_eq_true rfl) ⟨Nat.le_of_ble_eq_true rfl, Nat.le_of_ble_eq_true rfl⟩ ⟨Nat.le_of_ble_eq_true rfl, Nat.le_of_ble_eq_true rfl⟩ ?_
    refine q_nrm 5 [.ref v1] 1 6 rfl rfl rfl rfl ?_
    refine q_go C tk_X8_laneOf [(3, 1)] [] (pc1 := 8) (σ1 := σ) (lv1 := [(0, .ref 220), (1, .int n)]) (st1 := [.int (σ v1 4)]) rfl ⟨(f_X8_teamWith_kd  hx2), trivial⟩ ?_
    exact q_iret C hr (q_dc (z := (8, .ireturn, 1, 0, 0)) tk_X8_laneOf 4 rfl) rfl (congrArg q_oxi hF.symm) (Nat.le_of_ble_eq_true rfl) (Nat.le_of_ble_eq_true rfl)
  | inr E =>
    rw [hx2] at hc3 hF
    dsimp only at hF
    refine q_callVx C hfl mw_X8_teamWith mi_X8_teamWith me_X8_teamWith lk_X8_80 hc3 (rest := []) rfl rfl rfl (by decide) (by decide) rfl (q_dc (z := (2, .invokevirtual 80, 3, 0, 0)) tk_X8_laneOf 2 rfl) (Nat.le_of_ble_eq_true rfl) ⟨Nat.le_of_ble_eq_true rfl, Nat.le_of_ble_eq_true rfl⟩ ⟨Nat.le_of_ble_eq_true rfl, Nat.le_of_ble_eq_true rfl⟩ ?_
    exact q_xout C hT rfl (congrArg q_oxi hF.symm) (Nat.le_of_ble_eq_true rfl) (Nat.le_of_ble_eq_true rfl)
def F_X8_teamInLane (q : Int32) (σ : q_M) : Int32 ⊕ String := (q_L (F_X4_numberInLane 0 q σ) (fun x1 : Int32 => (if x1 = (-1) then (.inr "java/util/NoSuchElementException") else (.inl x1))))
def P_X8_teamInLane (q : Int32) (σ : q_M) : Prop := ((P_X4_numberInLane 0 q σ) ∧ True)
set_option maxRecDepth 100000 in
theorem k_X8_teamInLane {α β : Nat → Nat} {D : va_G} {κ : Nat → ClassId} (q : Int32) (σ : q_M) (hP : P_X8_teamInLane q σ) : q_C α β D κ yX8_teamInLane cX8_teamInLane 3 (Option.some Jvm.ClassFile.FieldType.int) 6 90 1 6 [.ref 220, .int q] σ (q_oxi (F_X8_teamInLane q σ)) σ := by
  refine q_enter (own := RX8) (F := F_X8) (G := G_X8) (by decide +kernel) rfl Fok_X8 Gok_X8 (Nat.le_of_ble_eq_true rfl) (fun p l e s m args below meth c A hfl C hr hT => ?_)
  generalize hF : F_X8_teamInLane q σ = rr
  unfold F_X8_teamInLane at hF
  refine q_go C tk_X8_teamInLane [(0, 3)] [] (pc1 := 5) (σ1 := σ) (lv1 := [(0, .ref 220), (1, .int q)]) (st1 := [.int q, .ref 0]) rfl ⟨rfl, trivial⟩ ?_
  refine q_callV C hfl mw_X4_numberInLane mi_X4_numberInLane me_X4_numberInLane lk_X8_166 (k_X4_numberInLane 0 q σ rfl hP.1) (rest := []) rfl rfl rfl (by decide) (by decide) rfl (q_dc (z := (5, .invokevirtual 166, 3, 0, 0)) tk_X8_teamInLane 3 rfl) (Nat.le_of_ble_eq_true rfl) ⟨Nat.le_of_ble_eq_true rfl, Nat.le_of_ble_eq_true rfl⟩ ⟨Nat.le_of_ble_eq_true rfl, Nat.le_of_ble_eq_true rfl⟩ ?_
  refine q_nrm 8 [.int (F_X4_numberInLane 0 q σ)] 0 0 rfl rfl rfl rfl ?_
  generalize e2 : (F_X4_numberInLane 0 q σ) = x1
  replace hF := q_let e2 hF
  refine q_go C tk_X8_teamInLane [(4, 3)] [] (pc1 := 11) (σ1 := σ) (lv1 := [(2, .int x1), (0, .ref 220), (1, .int q)]) (st1 := [.int (-1), .int x1]) rfl trivial ?_
  by_cases c3 : x1 = (-1)
  · rw [if_pos c3] at hF
    refine q_go C tk_X8_teamInLane [(7, 1)] [false] (pc1 := 14) (σ1 := σ) (lv1 := [(2, .int x1), (0, .ref 220), (1, .int q)]) (st1 := []) rfl ⟨c3, trivial⟩ ?_
    exact q_throwN C hT hfl (is := 171) (List.mem_of_getElem? (l := q_msg) (i := 5) rfl) (q_dc (z := (14, .new 169, 3, 0, 0)) tk_X8_teamInLane 8 rfl) (q_dc (z := (17, .dup, 1, 0, 0)) tk_X8_teamInLane 9 rfl) (q_dc (z := (18, .ldc 171, 2, 0, 0)) tk_X8_teamInLane 10 rfl) (q_dc (z := (20, .invokespecial 173, 3, 0, 0)) tk_X8_teamInLane 11 rfl) (q_dc (z := (23, .athrow, 1, 0, 0)) tk_X8_teamInLane 12 rfl) (Nat.le_of_ble_eq_true rfl) (Nat.le_of_ble_eq_true rfl) (Nat.le_of_ble_eq_true rfl) (Nat.le_of_ble_eq_true rfl) (Nat.le_of_ble_eq_true rfl) rfl (congrArg q_oxi hF.symm) (Nat.le_of_ble_eq_true rfl) (Nat.le_of_ble_eq_true rfl)
  · rw [if_neg c3] at hF
    refine q_go C tk_X8_teamInLane [(7, 1), (13, 1)] [true] (pc1 := 25) (σ1 := σ) (lv1 := [(2, .int x1), (0, .ref 220), (1, .int q)]) (st1 := [.int x1]) rfl ⟨c3, trivial⟩ ?_
    exact q_iret C hr (q_dc (z := (25, .ireturn, 1, 0, 0)) tk_X8_teamInLane 14 rfl) rfl (congrArg q_oxi hF.symm) (Nat.le_of_ble_eq_true rfl) (Nat.le_of_ble_eq_true rfl)
def F_X8_speedOf (n : Int32) (g : Int32) (σ : q_M) : Int32 ⊕ String := (match (F_X8_teamWithLeg n g σ) with | .inl v1 => (.inl (F_X6_speedOn v1 g σ)) | .inr E => (.inr E))
def P_X8_speedOf (n : Int32) (g : Int32) (σ : q_M) : Prop := (∀ r, (F_X8_teamWithLeg n g σ) = r → match r with | .inl v1 => ((P_X6_speedOn v1 g σ) ∧ True) | .inr E => True)
set_option maxRecDepth 100000 in
theorem k_X8_speedOf {α β : Nat → Nat} {D : va_G} {κ : Nat → ClassId} (n : Int32) (g : Int32) (σ : q_M) (hP : P_X8_speedOf n g σ) : q_C α β D κ yX8_speedOf cX8_speedOf 3 (Option.some Jvm.ClassFile.FieldType.int) 8 135 2 12 [.ref 220, .int n, .int g] σ (q_oxi (F_X8_speedOf n g σ)) σ := by
  refine q_enter (own := RX8) (F := F_X8) (G := G_X8) (by decide +kernel) rfl Fok_X8 Gok_X8 (Nat.le_of_ble_eq_true rfl) (fun p l e s m args below meth c A hfl C hr hT => ?_)
  generalize hF : F_X8_speedOf n g σ = rr
  unfold F_X8_speedOf at hF
  refine q_go C tk_X8_speedOf [(0, 3)] [] (pc1 := 3) (σ1 := σ) (lv1 := [(0, .ref 220), (1, .int n), (2, .int g)]) (st1 := [.int g, .int n, .ref 220]) rfl trivial ?_
  have hc3 := (k_X8_teamWithLeg (α := α) (β := β) (D := D) (κ := κ) n g σ)
  have hp4 := hP _ rfl
  cases hx2 : (F_X8_teamWithLeg n g σ) with
  | inl v1 =>
    rw [hx2] at hc3 hF
    dsimp only at hF
    rw [hx2] at hp4
    refine q_callV C hfl mw_X8_teamWithLeg mi_X8_teamWithLeg me_X8_teamWithLeg lk_X8_176 hc3 (rest := []) rfl rfl rfl (by decide) (by decide) rfl (q_dc (z := (3, .invokevirtual 176, 3, 0, 0)) tk_X8_speedOf 3 rfl) (Nat.le_of_ble_eq_true rfl) ⟨Nat.le_of_ble_eq_true rfl, Nat.le_of_ble_eq_true rfl⟩ ⟨Nat.le_of_ble_eq_true rfl, Nat.le_of_ble_eq_true rfl⟩ ?_
    refine q_nrm 6 [.ref v1] 2 12 rfl rfl rfl rfl ?_
    refine q_go C tk_X8_speedOf [(4, 1)] [] (pc1 := 7) (σ1 := σ) (lv1 := [(0, .ref 220), (1, .int n), (2, .int g)]) (st1 := [.int g, .ref v1]) rfl trivial ?_
    refine q_callV C hfl mw_X6_speedOn mi_X6_speedOn me_X6_speedOn lk_X8_180 (k_X6_speedOn v1 g σ (f_X8_teamWithLeg_kd  hx2) hp4.1) (rest := []) rfl (f_X8_teamWithLeg_kd  hx2) rfl (by decide) (by decide) rfl (q_dc (z := (7, .invokevirtual 180, 3, 0, 0)) tk_X8_speedOf 5 rfl) (Nat.le_of_ble_eq_true rfl) ⟨Nat.le_of_ble_eq_true rfl, Nat.le_of_ble_eq_true rfl⟩ ⟨Nat.le_of_ble_eq_true rfl, Nat.le_of_ble_eq_true rfl⟩ ?_
    refine q_nrm 10 [.int (F_X6_speedOn v1 g σ)] 2 12 rfl rfl rfl rfl ?_
    exact q_iret C hr (q_dc (z := (10, .ireturn, 1, 0, 0)) tk_X8_speedOf 6 rfl) rfl (congrArg q_oxi hF.symm) (Nat.le_of_ble_eq_true rfl) (Nat.le_of_ble_eq_true rfl)
  | inr E =>
    rw [hx2] at hc3 hF
    dsimp only at hF
    rw [hx2] at hp4
    refine q_callVx C hfl mw_X8_teamWithLeg mi_X8_teamWithLeg me_X8_teamWithLeg lk_X8_176 hc3 (rest := []) rfl rfl rfl (by decide) (by decide) rfl (q_dc (z := (3, .invokevirtual 176, 3, 0, 0)) tk_X8_speedOf 3 rfl) (Nat.le_of_ble_eq_true rfl) ⟨Nat.le_of_ble_eq_true rfl, Nat.le_of_ble_eq_true rfl⟩ ⟨Nat.le_of_ble_eq_true rfl, Nat.le_of_ble_eq_true rfl⟩ ?_
    exact q_xout C hT rfl (congrArg q_oxi hF.symm) (Nat.le_of_ble_eq_true rfl) (Nat.le_of_ble_eq_true rfl)
def F_X8_positionOf (n : Int32) (σ : q_M) : Int32 ⊕ String := (match (F_X8_teamWith n σ) with | .inl v1 => (.inl (σ v1 5)) | .inr E => (.inr E))
set_option maxRecDepth 100000 in
theorem k_X8_positionOf {α β : Nat → Nat} {D : va_G} {κ : Nat → ClassId} (n : Int32) (σ : q_M) : q_C α β D κ yX8_positionOf cX8_positionOf 2 (Option.some Jvm.ClassFile.FieldType.int) 7 112 1 6 [.ref 220, .int n] σ (q_oxi (F_X8_positionOf n σ)) σ := by
  refine q_enter (own := RX8) (F := F_X8) (G := G_X8) (by decide +kernel) rfl Fok_X8 Gok_X8 (Nat.le_of_ble_eq_true rfl) (fun p l e s m args below meth c A hfl C hr hT => ?_)
  generalize hF : F_X8_positionOf n σ = rr
  unfold F_X8_positionOf at hF
  refine q_go C tk_X8_positionOf [(0, 2)] [] (pc1 := 2) (σ1 := σ) (lv1 := [(0, .ref 220), (1, .int n)]) (st1 := [.int n, .ref 220]) rfl trivial ?_
  have hc3 := (k_X8_teamWith (α := α) (β := β) (D := D) (κ := κ) n σ)
  cases hx2 : (F_X8_teamWith n σ) with
  | inl v1 =>
    rw [hx2] at hc3 hF
    dsimp only at hF
    refine q_callV C hfl mw_X8_teamWith mi_X8_teamWith me_X8_teamWith lk_X8_80 hc3 (rest := []) rfl rfl rfl (by decide) (by decide) rfl (q_dc (z := (2, .invokevirtual 80, 3, 0, 0)) tk_X8_positionOf 2 rfl) (Nat.le_of_ble_eq_true rfl) ⟨Nat.le_of_ble_eq_true rfl, Nat.le_of_ble_eq_true rfl⟩ ⟨Nat.le_of_ble_eq_true rfl, Nat.le_of_ble_eq_true rfl⟩ ?_
    refine q_nrm 5 [.ref v1] 1 6 rfl rfl rfl rfl ?_
    refine q_go C tk_X8_positionOf [(3, 1)] [] (pc1 := 8) (σ1 := σ) (lv1 := [(0, .ref 220), (1, .int n)]) (st1 := [.int (σ v1 5)]) rfl ⟨(f_X8_teamWith_kd  hx2), trivial⟩ ?_
    exact q_iret C hr (q_dc (z := (8, .ireturn, 1, 0, 0)) tk_X8_positionOf 4 rfl) rfl (congrArg q_oxi hF.symm) (Nat.le_of_ble_eq_true rfl) (Nat.le_of_ble_eq_true rfl)
  | inr E =>
    rw [hx2] at hc3 hF
    dsimp only at hF
    refine q_callVx C hfl mw_X8_teamWith mi_X8_teamWith me_X8_teamWith lk_X8_80 hc3 (rest := []) rfl rfl rfl (by decide) (by decide) rfl (q_dc (z := (2, .invokevirtual 80, 3, 0, 0)) tk_X8_positionOf 2 rfl) (Nat.le_of_ble_eq_true rfl) ⟨Nat.le_of_ble_eq_true rfl, Nat.le_of_ble_eq_true rfl⟩ ⟨Nat.le_of_ble_eq_true rfl, Nat.le_of_ble_eq_true rfl⟩ ?_
    exact q_xout C hT rfl (congrArg q_oxi hF.symm) (Nat.le_of_ble_eq_true rfl) (Nat.le_of_ble_eq_true rfl)
def F_X8_legOf (n : Int32) (σ : q_M) : Int32 ⊕ String := (match (F_X8_teamWith n σ) with | .inl v1 => (.inl (σ v1 6)) | .inr E => (.inr E))
set_option maxRecDepth 100000 in
theorem k_X8_legOf {α β : Nat → Nat} {D : va_G} {κ : Nat → ClassId} (n : Int32) (σ : q_M) : q_C α β D κ yX8_legOf cX8_legOf 2 (Option.some Jvm.ClassFile.FieldType.int) 7 112 1 6 [.ref 220, .int n] σ (q_oxi (F_X8_legOf n σ)) σ := by
  refine q_enter (own := RX8) (F := F_X8) (G := G_X8) (by decide +kernel) rfl Fok_X8 Gok_X8 (Nat.le_of_ble_eq_true rfl) (fun p l e s m args below meth c A hfl C hr hT => ?_)
  generalize hF : F_X8_legOf n σ = rr
  unfold F_X8_legOf at hF
  refine q_go C tk_X8_legOf [(0, 2)] [] (pc1 := 2) (σ1 := σ) (lv1 := [(0, .ref 220), (1, .int n)]) (st1 := [.int n, .ref 220]) rfl trivial ?_
  have hc3 := (k_X8_teamWith (α := α) (β := β) (D := D) (κ := κ) n σ)
  cases hx2 : (F_X8_teamWith n σ) with
  | inl v1 =>
    rw [hx2] at hc3 hF
    dsimp only at hF
    refine q_callV C hfl mw_X8_teamWith mi_X8_teamWith me_X8_teamWith lk_X8_80 hc3 (rest := []) rfl rfl rfl (by decide) (by decide) rfl (q_dc (z := (2, .invokevirtual 80, 3, 0, 0)) tk_X8_legOf 2 rfl) (Nat.le_of_ble_eq_true rfl) ⟨Nat.le_of_ble_eq_true rfl, Nat.le_of_ble_eq_true rfl⟩ ⟨Nat.le_of_ble_eq_true rfl, Nat.le_of_ble_eq_true rfl⟩ ?_
    refine q_nrm 5 [.ref v1] 1 6 rfl rfl rfl rfl ?_
    refine q_go C tk_X8_legOf [(3, 1)] [] (pc1 := 8) (σ1 := σ) (lv1 := [(0, .ref 220), (1, .int n)]) (st1 := [.int (σ v1 6)]) rfl ⟨(f_X8_teamWith_kd  hx2), trivial⟩ ?_
    exact q_iret C hr (q_dc (z := (8, .ireturn, 1, 0, 0)) tk_X8_legOf 4 rfl) rfl (congrArg q_oxi hF.symm) (Nat.le_of_ble_eq_true rfl) (Nat.le_of_ble_eq_true rfl)
  | inr E =>
    rw [hx2] at hc3 hF
    dsimp only at hF
    refine q_callVx C hfl mw_X8_teamWith mi_X8_teamWith me_X8_teamWith lk_X8_80 hc3 (rest := []) rfl rfl rfl (by decide) (by decide) rfl (q_dc (z := (2, .invokevirtual 80, 3, 0, 0)) tk_X8_legOf 2 rfl) (Nat.le_of_ble_eq_true rfl) ⟨Nat.le_of_ble_eq_true rfl, Nat.le_of_ble_eq_true rfl⟩ ⟨Nat.le_of_ble_eq_true rfl, Nat.le_of_ble_eq_true rfl⟩ ?_
    exact q_xout C hT rfl (congrArg q_oxi hF.symm) (Nat.le_of_ble_eq_true rfl) (Nat.le_of_ble_eq_true rfl)
def F_X8_isRunning (n : Int32) (σ : q_M) : Int32 ⊕ String := (match (F_X8_teamWith n σ) with | .inl v1 => (if (σ v1 3) = 2 then (.inl 1) else (.inl 0)) | .inr E => (.inr E))
set_option maxRecDepth 100000 in
theorem k_X8_isRunning {α β : Nat → Nat} {D : va_G} {κ : Nat → ClassId} (n : Int32) (σ : q_M) : q_C α β D κ yX8_isRunning cX8_isRunning 2 (Option.some Jvm.ClassFile.FieldType.boolean) 7 112 1 6 [.ref 220, .int n] σ (q_oxi (F_X8_isRunning n σ)) σ := by
  refine q_enter (own := RX8) (F := F_X8) (G := G_X8) (by decide +kernel) rfl Fok_X8 Gok_X8 (Nat.le_of_ble_eq_true rfl) (fun p l e s m args below meth c A hfl C hr hT => ?_)
  generalize hF : F_X8_isRunning n σ = rr
  unfold F_X8_isRunning at hF
  refine q_go C tk_X8_isRunning [(0, 2)] [] (pc1 := 2) (σ1 := σ) (lv1 := [(0, .ref 220), (1, .int n)]) (st1 := [.int n, .ref 220]) rfl trivial ?_
  have hc4 := (k_X8_teamWith (α := α) (β := β) (D := D) (κ := κ) n σ)
  cases hx2 : (F_X8_teamWith n σ) with
  | inl v1 =>
    rw [hx2] at hc4 hF
    dsimp only at hF
    refine q_callV C hfl mw_X8_teamWith mi_X8_teamWith me_X8_teamWith lk_X8_80 hc4 (rest := []) rfl rfl rfl (by decide) (by decide) rfl (q_dc (z := (2, .invokevirtual 80, 3, 0, 0)) tk_X8_isRunning 2 rfl) (Nat.le_of_ble_eq_true rfl) ⟨Nat.le_of_ble_eq_true rfl, Nat.le_of_ble_eq_true rfl⟩ ⟨Nat.le_of_ble_eq_true rfl, Nat.le_of_ble_eq_true rfl⟩ ?_
    refine q_nrm 5 [.ref v1] 1 6 rfl rfl rfl rfl ?_
    refine q_go C tk_X8_isRunning [(3, 2)] [] (pc1 := 11) (σ1 := σ) (lv1 := [(0, .ref 220), (1, .int n)]) (st1 := [q_e 2, q_e (σ v1 3)]) rfl ⟨(f_X8_teamWith_kd  hx2), trivial⟩ ?_
    by_cases c3 : (σ v1 3) = 2
    · rw [if_pos c3] at hF
      refine q_go C tk_X8_isRunning [(5, 3)] [false] (pc1 := 19) (σ1 := σ) (lv1 := [(0, .ref 220), (1, .int n)]) (st1 := [.int 1]) rfl ⟨(congrArg Int32.toUInt32 c3), trivial⟩ ?_
      exact q_zret C hr (q_dc (z := (19, .ireturn, 1, 0, 0)) tk_X8_isRunning 9 rfl) (by decide +kernel) rfl (congrArg q_oxi hF.symm) (Nat.le_of_ble_eq_true rfl) (Nat.le_of_ble_eq_true rfl)
    · rw [if_neg c3] at hF
      refine q_go C tk_X8_isRunning [(5, 1), (8, 1)] [true] (pc1 := 19) (σ1 := σ) (lv1 := [(0, .ref 220), (1, .int n)]) (st1 := [.int 0]) rfl ⟨(fun q => c3 (q_u32 q)), trivial⟩ ?_
      exact q_zret C hr (q_dc (z := (19, .ireturn, 1, 0, 0)) tk_X8_isRunning 9 rfl) (by decide +kernel) rfl (congrArg q_oxi hF.symm) (Nat.le_of_ble_eq_true rfl) (Nat.le_of_ble_eq_true rfl)
  | inr E =>
    rw [hx2] at hc4 hF
    dsimp only at hF
    refine q_callVx C hfl mw_X8_teamWith mi_X8_teamWith me_X8_teamWith lk_X8_80 hc4 (rest := []) rfl rfl rfl (by decide) (by decide) rfl (q_dc (z := (2, .invokevirtual 80, 3, 0, 0)) tk_X8_isRunning 2 rfl) (Nat.le_of_ble_eq_true rfl) ⟨Nat.le_of_ble_eq_true rfl, Nat.le_of_ble_eq_true rfl⟩ ⟨Nat.le_of_ble_eq_true rfl, Nat.le_of_ble_eq_true rfl⟩ ?_
    exact q_xout C hT rfl (congrArg q_oxi hF.symm) (Nat.le_of_ble_eq_true rfl) (Nat.le_of_ble_eq_true rfl)
def F_X8_isInZone (n : Int32) (σ : q_M) : Int32 ⊕ String := (match (F_X8_teamWith n σ) with | .inl v1 => (.inl (F_X6_inZone v1 (σ 0 3) σ)) | .inr E => (.inr E))
set_option maxRecDepth 100000 in
theorem k_X8_isInZone {α β : Nat → Nat} {D : va_G} {κ : Nat → ClassId} (n : Int32) (σ : q_M) : q_C α β D κ yX8_isInZone cX8_isInZone 2 (Option.some Jvm.ClassFile.FieldType.boolean) 7 112 1 6 [.ref 220, .int n] σ (q_oxi (F_X8_isInZone n σ)) σ := by
  refine q_enter (own := RX8) (F := F_X8) (G := G_X8) (by decide +kernel) rfl Fok_X8 Gok_X8 (Nat.le_of_ble_eq_true rfl) (fun p l e s m args below meth c A hfl C hr hT => ?_)
  generalize hF : F_X8_isInZone n σ = rr
  unfold F_X8_isInZone at hF
  refine q_go C tk_X8_isInZone [(0, 2)] [] (pc1 := 2) (σ1 := σ) (lv1 := [(0, .ref 220), (1, .int n)]) (st1 := [.int n, .ref 220]) rfl trivial ?_
  have hc3 := (k_X8_teamWith (α := α) (β := β) (D := D) (κ := κ) n σ)
  cases hx2 : (F_X8_teamWith n σ) with
  | inl v1 =>
    rw [hx2] at hc3 hF
    dsimp only at hF
    refine q_callV C hfl mw_X8_teamWith mi_X8_teamWith me_X8_teamWith lk_X8_80 hc3 (rest := []) rfl rfl rfl (by decide) (by decide) rfl (q_dc (z := (2, .invokevirtual 80, 3, 0, 0)) tk_X8_isInZone 2 rfl) (Nat.le_of_ble_eq_true rfl) ⟨Nat.le_of_ble_eq_true rfl, Nat.le_of_ble_eq_true rfl⟩ ⟨Nat.le_of_ble_eq_true rfl, Nat.le_of_ble_eq_true rfl⟩ ?_
    refine q_nrm 5 [.ref v1] 1 6 rfl rfl rfl rfl ?_
    refine q_go C tk_X8_isInZone [(3, 3)] [] (pc1 := 12) (σ1 := σ) (lv1 := [(0, .ref 220), (1, .int n)]) (st1 := [.int (σ 0 3), .ref v1]) rfl ⟨rfl, rfl, trivial⟩ ?_
    refine q_callV C hfl mw_X6_inZone mi_X6_inZone me_X6_inZone lk_X8_192 (k_X6_inZone v1 (σ 0 3) σ (f_X8_teamWith_kd  hx2)) (rest := []) rfl (f_X8_teamWith_kd  hx2) rfl (by decide) (by decide) rfl (q_dc (z := (12, .invokevirtual 192, 3, 0, 0)) tk_X8_isInZone 6 rfl) (Nat.le_of_ble_eq_true rfl) ⟨Nat.le_of_ble_eq_true rfl, Nat.le_of_ble_eq_true rfl⟩ ⟨Nat.le_of_ble_eq_true rfl, Nat.le_of_ble_eq_true rfl⟩ ?_
    refine q_nrm 15 [.int (F_X6_inZone v1 (σ 0 3) σ)] 1 6 rfl rfl rfl rfl ?_
    exact q_zret C hr (q_dc (z := (15, .ireturn, 1, 0, 0)) tk_X8_isInZone 7 rfl) (q_zb (z_X6_inZone)).1 rfl (congrArg q_oxi hF.symm) (Nat.le_of_ble_eq_true rfl) (Nat.le_of_ble_eq_true rfl)
  | inr E =>
    rw [hx2] at hc3 hF
    dsimp only at hF
    refine q_callVx C hfl mw_X8_teamWith mi_X8_teamWith me_X8_teamWith lk_X8_80 hc3 (rest := []) rfl rfl rfl (by decide) (by decide) rfl (q_dc (z := (2, .invokevirtual 80, 3, 0, 0)) tk_X8_isInZone 2 rfl) (Nat.le_of_ble_eq_true rfl) ⟨Nat.le_of_ble_eq_true rfl, Nat.le_of_ble_eq_true rfl⟩ ⟨Nat.le_of_ble_eq_true rfl, Nat.le_of_ble_eq_true rfl⟩ ?_
    exact q_xout C hT rfl (congrArg q_oxi hF.symm) (Nat.le_of_ble_eq_true rfl) (Nat.le_of_ble_eq_true rfl)
def F_X8_standingOf (n : Int32) (σ : q_M) : Int32 ⊕ String := (match (F_X8_teamWith n σ) with | .inl v1 => (.inl (σ v1 8)) | .inr E => (.inr E))
set_option maxRecDepth 100000 in
theorem k_X8_standingOf {α β : Nat → Nat} {D : va_G} {κ : Nat → ClassId} (n : Int32) (σ : q_M) : q_C α β D κ yX8_standingOf cX8_standingOf 2 (Option.some Jvm.ClassFile.FieldType.int) 7 112 1 6 [.ref 220, .int n] σ (q_oxi (F_X8_standingOf n σ)) σ := by
  refine q_enter (own := RX8) (F := F_X8) (G := G_X8) (by decide +kernel) rfl Fok_X8 Gok_X8 (Nat.le_of_ble_eq_true rfl) (fun p l e s m args below meth c A hfl C hr hT => ?_)
  generalize hF : F_X8_standingOf n σ = rr
  unfold F_X8_standingOf at hF
  refine q_go C tk_X8_standingOf [(0, 2)] [] (pc1 := 2) (σ1 := σ) (lv1 := [(0, .ref 220), (1, .int n)]) (st1 := [.int n, .ref 220]) rfl trivial ?_
  have hc3 := (k_X8_teamWith (α := α) (β := β) (D := D) (κ := κ) n σ)
  cases hx2 : (F_X8_teamWith n σ) with
  | inl v1 =>
    rw [hx2] at hc3 hF
    dsimp only at hF
    refine q_callV C hfl mw_X8_teamWith mi_X8_teamWith me_X8_teamWith lk_X8_80 hc3 (rest := []) rfl rfl rfl (by decide) (by decide) rfl (q_dc (z := (2, .invokevirtual 80, 3, 0, 0)) tk_X8_standingOf 2 rfl) (Nat.le_of_ble_eq_true rfl) ⟨Nat.le_of_ble_eq_true rfl, Nat.le_of_ble_eq_true rfl⟩ ⟨Nat.le_of_ble_eq_true rfl, Nat.le_of_ble_eq_true rfl⟩ ?_
    refine q_nrm 5 [.ref v1] 1 6 rfl rfl rfl rfl ?_
    refine q_go C tk_X8_standingOf [(3, 1)] [] (pc1 := 8) (σ1 := σ) (lv1 := [(0, .ref 220), (1, .int n)]) (st1 := [.int (σ v1 8)]) rfl ⟨(f_X8_teamWith_kd  hx2), trivial⟩ ?_
    exact q_iret C hr (q_dc (z := (8, .ireturn, 1, 0, 0)) tk_X8_standingOf 4 rfl) rfl (congrArg q_oxi hF.symm) (Nat.le_of_ble_eq_true rfl) (Nat.le_of_ble_eq_true rfl)
  | inr E =>
    rw [hx2] at hc3 hF
    dsimp only at hF
    refine q_callVx C hfl mw_X8_teamWith mi_X8_teamWith me_X8_teamWith lk_X8_80 hc3 (rest := []) rfl rfl rfl (by decide) (by decide) rfl (q_dc (z := (2, .invokevirtual 80, 3, 0, 0)) tk_X8_standingOf 2 rfl) (Nat.le_of_ble_eq_true rfl) ⟨Nat.le_of_ble_eq_true rfl, Nat.le_of_ble_eq_true rfl⟩ ⟨Nat.le_of_ble_eq_true rfl, Nat.le_of_ble_eq_true rfl⟩ ?_
    exact q_xout C hT rfl (congrArg q_oxi hF.symm) (Nat.le_of_ble_eq_true rfl) (Nat.le_of_ble_eq_true rfl)
def F_X8_penaltyOf (n : Int32) (σ : q_M) : Int32 ⊕ String := (match (F_X8_teamWith n σ) with | .inl v1 => (.inl (σ v1 9)) | .inr E => (.inr E))
set_option maxRecDepth 100000 in
theorem k_X8_penaltyOf {α β : Nat → Nat} {D : va_G} {κ : Nat → ClassId} (n : Int32) (σ : q_M) : q_C α β D κ yX8_penaltyOf cX8_penaltyOf 2 (Option.some Jvm.ClassFile.FieldType.int) 7 112 1 6 [.ref 220, .int n] σ (q_oxi (F_X8_penaltyOf n σ)) σ := by
  refine q_enter (own := RX8) (F := F_X8) (G := G_X8) (by decide +kernel) rfl Fok_X8 Gok_X8 (Nat.le_of_ble_eq_true rfl) (fun p l e s m args below meth c A hfl C hr hT => ?_)
  generalize hF : F_X8_penaltyOf n σ = rr
  unfold F_X8_penaltyOf at hF
  refine q_go C tk_X8_penaltyOf [(0, 2)] [] (pc1 := 2) (σ1 := σ) (lv1 := [(0, .ref 220), (1, .int n)]) (st1 := [.int n, .ref 220]) rfl trivial ?_
  have hc3 := (k_X8_teamWith (α := α) (β := β) (D := D) (κ := κ) n σ)
  cases hx2 : (F_X8_teamWith n σ) with
  | inl v1 =>
    rw [hx2] at hc3 hF
    dsimp only at hF
    refine q_callV C hfl mw_X8_teamWith mi_X8_teamWith me_X8_teamWith lk_X8_80 hc3 (rest := []) rfl rfl rfl (by decide) (by decide) rfl (q_dc (z := (2, .invokevirtual 80, 3, 0, 0)) tk_X8_penaltyOf 2 rfl) (Nat.le_of_ble_eq_true rfl) ⟨Nat.le_of_ble_eq_true rfl, Nat.le_of_ble_eq_true rfl⟩ ⟨Nat.le_of_ble_eq_true rfl, Nat.le_of_ble_eq_true rfl⟩ ?_
    refine q_nrm 5 [.ref v1] 1 6 rfl rfl rfl rfl ?_
    refine q_go C tk_X8_penaltyOf [(3, 1)] [] (pc1 := 8) (σ1 := σ) (lv1 := [(0, .ref 220), (1, .int n)]) (st1 := [.int (σ v1 9)]) rfl ⟨(f_X8_teamWith_kd  hx2), trivial⟩ ?_
    exact q_iret C hr (q_dc (z := (8, .ireturn, 1, 0, 0)) tk_X8_penaltyOf 4 rfl) rfl (congrArg q_oxi hF.symm) (Nat.le_of_ble_eq_true rfl) (Nat.le_of_ble_eq_true rfl)
  | inr E =>
    rw [hx2] at hc3 hF
    dsimp only at hF
    refine q_callVx C hfl mw_X8_teamWith mi_X8_teamWith me_X8_teamWith lk_X8_80 hc3 (rest := []) rfl rfl rfl (by decide) (by decide) rfl (q_dc (z := (2, .invokevirtual 80, 3, 0, 0)) tk_X8_penaltyOf 2 rfl) (Nat.le_of_ble_eq_true rfl) ⟨Nat.le_of_ble_eq_true rfl, Nat.le_of_ble_eq_true rfl⟩ ⟨Nat.le_of_ble_eq_true rfl, Nat.le_of_ble_eq_true rfl⟩ ?_
    exact q_xout C hT rfl (congrArg q_oxi hF.symm) (Nat.le_of_ble_eq_true rfl) (Nat.le_of_ble_eq_true rfl)
def F_X8_hasFoul (n : Int32) (k : Int32) (σ : q_M) : Int32 ⊕ String := (match (F_X8_teamWith n σ) with | .inl v1 => (if (F_X8_isKind k σ) = 0 then (.inr "java/lang/IllegalArgumentException") else (.inl (F_X6_committed v1 k σ))) | .inr E => (.inr E))
def P_X8_hasFoul (n : Int32) (k : Int32) (σ : q_M) : Prop := (∀ r, (F_X8_teamWith n σ) = r → match r with | .inl v1 => (((F_X8_isKind k σ) = 0 → True) ∧ (¬ (F_X8_isKind k σ) = 0 → ((P_X6_committed v1 k σ) ∧ (((F_X6_committed v1 k σ) = 0 ∨ (F_X6_committed v1 k σ) = 1) ∧ True)))) | .inr E => True)
set_option maxRecDepth 100000 in
theorem k_X8_hasFoul {α β : Nat → Nat} {D : va_G} {κ : Nat → ClassId} (n : Int32) (k : Int32) (σ : q_M) (hP : P_X8_hasFoul n k σ) : q_C α β D κ yX8_hasFoul cX8_hasFoul 4 (Option.some Jvm.ClassFile.FieldType.boolean) 7 112 2 12 [.ref 220, .int n, .int k] σ (q_oxi (F_X8_hasFoul n k σ)) σ := by
  refine q_enter (own := RX8) (F := F_X8) (G := G_X8) (by decide +kernel) rfl Fok_X8 Gok_X8 (Nat.le_of_ble_eq_true rfl) (fun p l e s m args below meth c A hfl C hr hT => ?_)
  generalize hF : F_X8_hasFoul n k σ = rr
  unfold F_X8_hasFoul at hF
  refine q_go C tk_X8_hasFoul [(0, 2)] [] (pc1 := 2) (σ1 := σ) (lv1 := [(0, .ref 220), (1, .int n), (2, .int k)]) (st1 := [.int n, .ref 220]) rfl trivial ?_
  have hc4 := (k_X8_teamWith (α := α) (β := β) (D := D) (κ := κ) n σ)
  have hp5 := hP _ rfl
  cases hx2 : (F_X8_teamWith n σ) with
  | inl v1 =>
    rw [hx2] at hc4 hF
    dsimp only at hF
    rw [hx2] at hp5
    refine q_callV C hfl mw_X8_teamWith mi_X8_teamWith me_X8_teamWith lk_X8_80 hc4 (rest := []) rfl rfl rfl (by decide) (by decide) rfl (q_dc (z := (2, .invokevirtual 80, 3, 0, 0)) tk_X8_hasFoul 2 rfl) (Nat.le_of_ble_eq_true rfl) ⟨Nat.le_of_ble_eq_true rfl, Nat.le_of_ble_eq_true rfl⟩ ⟨Nat.le_of_ble_eq_true rfl, Nat.le_of_ble_eq_true rfl⟩ ?_
    refine q_nrm 5 [.ref v1] 1 6 rfl rfl rfl rfl ?_
    refine q_go C tk_X8_hasFoul [(3, 2)] [] (pc1 := 7) (σ1 := σ) (lv1 := [(3, .ref v1), (0, .ref 220), (1, .int n), (2, .int k)]) (st1 := [.int k]) rfl trivial ?_
    refine q_callS C hfl mw_X8_isKind ms_X8_isKind lk_X8_202 (k_X8_isKind k σ) (rest := []) rfl rfl (q_dc (z := (7, .invokestatic 202, 3, 0, 0)) tk_X8_hasFoul 5 rfl) (Nat.le_of_ble_eq_true rfl) ⟨Nat.le_of_ble_eq_true rfl, Nat.le_of_ble_eq_true rfl⟩ ⟨Nat.le_of_ble_eq_true rfl, Nat.le_of_ble_eq_true rfl⟩ ?_
    refine q_nrm 10 [.int (F_X8_isKind k σ)] 1 6 rfl rfl rfl rfl ?_
    by_cases c3 : (F_X8_isKind k σ) = 0
    · rw [if_pos c3] at hF
      refine q_go C tk_X8_hasFoul [(6, 1)] [false] (pc1 := 13) (σ1 := σ) (lv1 := [(3, .ref v1), (0, .ref 220), (1, .int n), (2, .int k)]) (st1 := []) rfl ⟨c3, trivial⟩ ?_
      exact q_throw C hT hfl xk_IllegalArgumentException (is := 207) (List.mem_of_getElem? (l := q_msg) (i := 7) rfl) (q_dc (z := (13, .new 205, 3, 0, 0)) tk_X8_hasFoul 7 rfl) (q_dc (z := (16, .dup, 1, 0, 0)) tk_X8_hasFoul 8 rfl) (q_dc (z := (17, .ldc 207, 2, 0, 0)) tk_X8_hasFoul 9 rfl) (q_dc (z := (19, .invokespecial 209, 3, 0, 0)) tk_X8_hasFoul 10 rfl) (q_dc (z := (22, .athrow, 1, 0, 0)) tk_X8_hasFoul 11 rfl) (Nat.le_of_ble_eq_true rfl) (Nat.le_of_ble_eq_true rfl) (Nat.le_of_ble_eq_true rfl) (Nat.le_of_ble_eq_true rfl) (Nat.le_of_ble_eq_true rfl) rfl (congrArg q_oxi hF.symm) (Nat.le_of_ble_eq_true rfl) (Nat.le_of_ble_eq_true rfl)
    · rw [if_neg c3] at hF
      refine q_go C tk_X8_hasFoul [(6, 1), (12, 2)] [true] (pc1 := 25) (σ1 := σ) (lv1 := [(3, .ref v1), (0, .ref 220), (1, .int n), (2, .int k)]) (st1 := [.int k, .ref v1]) rfl ⟨c3, trivial⟩ ?_
      refine q_callV C hfl mw_X6_committed mi_X6_committed me_X6_committed lk_X8_210 (k_X6_committed v1 k σ (f_X8_teamWith_kd  hx2) (hp5.2 c3).1) (rest := []) rfl (f_X8_teamWith_kd  hx2) rfl (by decide) (by decide) rfl (q_dc (z := (25, .invokevirtual 210, 3, 0, 0)) tk_X8_hasFoul 14 rfl) (Nat.le_of_ble_eq_true rfl) ⟨Nat.le_of_ble_eq_true rfl, Nat.le_of_ble_eq_true rfl⟩ ⟨Nat.le_of_ble_eq_true rfl, Nat.le_of_ble_eq_true rfl⟩ ?_
      refine q_nrm 28 [.int (F_X6_committed v1 k σ)] 1 6 rfl rfl rfl rfl ?_
      exact q_zret C hr (q_dc (z := (28, .ireturn, 1, 0, 0)) tk_X8_hasFoul 15 rfl) (q_zb ((hp5.2 c3).2.1)).1 rfl (congrArg q_oxi hF.symm) (Nat.le_of_ble_eq_true rfl) (Nat.le_of_ble_eq_true rfl)
  | inr E =>
    rw [hx2] at hc4 hF
    dsimp only at hF
    rw [hx2] at hp5
    refine q_callVx C hfl mw_X8_teamWith mi_X8_teamWith me_X8_teamWith lk_X8_80 hc4 (rest := []) rfl rfl rfl (by decide) (by decide) rfl (q_dc (z := (2, .invokevirtual 80, 3, 0, 0)) tk_X8_hasFoul 2 rfl) (Nat.le_of_ble_eq_true rfl) ⟨Nat.le_of_ble_eq_true rfl, Nat.le_of_ble_eq_true rfl⟩ ⟨Nat.le_of_ble_eq_true rfl, Nat.le_of_ble_eq_true rfl⟩ ?_
    exact q_xout C hT rfl (congrArg q_oxi hF.symm) (Nat.le_of_ble_eq_true rfl) (Nat.le_of_ble_eq_true rfl)
def F_X8_splitOf (n : Int32) (g : Int32) (σ : q_M) : Int32 ⊕ String := (match (F_X8_teamWithLeg n g σ) with | .inl v1 => (if (F_X6_hasEnded v1 g σ) = 0 then (.inr "java/util/NoSuchElementException") else (.inl (F_X8_at (v1 + 2) g σ))) | .inr E => (.inr E))
def P_X8_splitOf (n : Int32) (g : Int32) (σ : q_M) : Prop := (∀ r, (F_X8_teamWithLeg n g σ) = r → match r with | .inl v1 => (((F_X6_hasEnded v1 g σ) = 0 → True) ∧ (¬ (F_X6_hasEnded v1 g σ) = 0 → ((P_X8_at (v1 + 2) g σ) ∧ True))) | .inr E => True)
set_option maxRecDepth 100000 in
theorem k_X8_splitOf {α β : Nat → Nat} {D : va_G} {κ : Nat → ClassId} (n : Int32) (g : Int32) (σ : q_M) (hP : P_X8_splitOf n g σ) : q_C α β D κ yX8_splitOf cX8_splitOf 4 (Option.some Jvm.ClassFile.FieldType.int) 8 135 3 18 [.ref 220, .int n, .int g] σ (q_oxi (F_X8_splitOf n g σ)) σ := by
  refine q_enter (own := RX8) (F := F_X8) (G := G_X8) (by decide +kernel) rfl Fok_X8 Gok_X8 (Nat.le_of_ble_eq_true rfl) (fun p l e s m args below meth c A hfl C hr hT => ?_)
  generalize hF : F_X8_splitOf n g σ = rr
  unfold F_X8_splitOf at hF
  refine q_go C tk_X8_splitOf [(0, 3)] [] (pc1 := 3) (σ1 := σ) (lv1 := [(0, .ref 220), (1, .int n), (2, .int g)]) (st1 := [.int g, .int n, .ref 220]) rfl trivial ?_
  have hc4 := (k_X8_teamWithLeg (α := α) (β := β) (D := D) (κ := κ) n g σ)
  have hp5 := hP _ rfl
  cases hx2 : (F_X8_teamWithLeg n g σ) with
  | inl v1 =>
    rw [hx2] at hc4 hF
    dsimp only at hF
    rw [hx2] at hp5
    refine q_callV C hfl mw_X8_teamWithLeg mi_X8_teamWithLeg me_X8_teamWithLeg lk_X8_176 hc4 (rest := []) rfl rfl rfl (by decide) (by decide) rfl (q_dc (z := (3, .invokevirtual 176, 3, 0, 0)) tk_X8_splitOf 3 rfl) (Nat.le_of_ble_eq_true rfl) ⟨Nat.le_of_ble_eq_true rfl, Nat.le_of_ble_eq_true rfl⟩ ⟨Nat.le_of_ble_eq_true rfl, Nat.le_of_ble_eq_true rfl⟩ ?_
    refine q_nrm 6 [.ref v1] 2 12 rfl rfl rfl rfl ?_
    refine q_go C tk_X8_splitOf [(4, 3)] [] (pc1 := 9) (σ1 := σ) (lv1 := [(3, .ref v1), (0, .ref 220), (1, .int n), (2, .int g)]) (st1 := [.int g, .ref v1]) rfl trivial ?_
    refine q_callV C hfl mw_X6_hasEnded mi_X6_hasEnded me_X6_hasEnded lk_X8_213 (k_X6_hasEnded v1 g σ (f_X8_teamWithLeg_kd  hx2)) (rest := []) rfl (f_X8_teamWithLeg_kd  hx2) rfl (by decide) (by decide) rfl (q_dc (z := (9, .invokevirtual 213, 3, 0, 0)) tk_X8_splitOf 7 rfl) (Nat.le_of_ble_eq_true rfl) ⟨Nat.le_of_ble_eq_true rfl, Nat.le_of_ble_eq_true rfl⟩ ⟨Nat.le_of_ble_eq_true rfl, Nat.le_of_ble_eq_true rfl⟩ ?_
    refine q_nrm 12 [.int (F_X6_hasEnded v1 g σ)] 2 12 rfl rfl rfl rfl ?_
    by_cases c3 : (F_X6_hasEnded v1 g σ) = 0
    · rw [if_pos c3] at hF
      refine q_go C tk_X8_splitOf [(8, 1)] [false] (pc1 := 15) (σ1 := σ) (lv1 := [(3, .ref v1), (0, .ref 220), (1, .int n), (2, .int g)]) (st1 := []) rfl ⟨c3, trivial⟩ ?_
      exact q_throwN C hT hfl (is := 216) (List.mem_of_getElem? (l := q_msg) (i := 8) rfl) (q_dc (z := (15, .new 169, 3, 0, 0)) tk_X8_splitOf 9 rfl) (q_dc (z := (18, .dup, 1, 0, 0)) tk_X8_splitOf 10 rfl) (q_dc (z := (19, .ldc 216, 2, 0, 0)) tk_X8_splitOf 11 rfl) (q_dc (z := (21, .invokespecial 173, 3, 0, 0)) tk_X8_splitOf 12 rfl) (q_dc (z := (24, .athrow, 1, 0, 0)) tk_X8_splitOf 13 rfl) (Nat.le_of_ble_eq_true rfl) (Nat.le_of_ble_eq_true rfl) (Nat.le_of_ble_eq_true rfl) (Nat.le_of_ble_eq_true rfl) (Nat.le_of_ble_eq_true rfl) rfl (congrArg q_oxi hF.symm) (Nat.le_of_ble_eq_true rfl) (Nat.le_of_ble_eq_true rfl)
    · rw [if_neg c3] at hF
      refine q_go C tk_X8_splitOf [(8, 1), (14, 3)] [true] (pc1 := 30) (σ1 := σ) (lv1 := [(3, .ref v1), (0, .ref 220), (1, .int n), (2, .int g)]) (st1 := [.int g, .ref (v1 + 2)]) rfl ⟨c3, (f_X8_teamWithLeg_kd  hx2), trivial⟩ ?_
      refine q_callS C hfl mw_X8_at ms_X8_at lk_X8_222 (k_X8_at (v1 + 2) g σ (q_kd_sl (f_X8_teamWithLeg_kd  hx2)) (hp5.2 c3).1) (rest := []) rfl rfl (q_dc (z := (30, .invokestatic 222, 3, 0, 0)) tk_X8_splitOf 17 rfl) (Nat.le_of_ble_eq_true rfl) ⟨Nat.le_of_ble_eq_true rfl, Nat.le_of_ble_eq_true rfl⟩ ⟨Nat.le_of_ble_eq_true rfl, Nat.le_of_ble_eq_true rfl⟩ ?_
      refine q_nrm 33 [.int (F_X8_at (v1 + 2) g σ)] 2 12 rfl rfl rfl rfl ?_
      exact q_iret C hr (q_dc (z := (33, .ireturn, 1, 0, 0)) tk_X8_splitOf 18 rfl) rfl (congrArg q_oxi hF.symm) (Nat.le_of_ble_eq_true rfl) (Nat.le_of_ble_eq_true rfl)
  | inr E =>
    rw [hx2] at hc4 hF
    dsimp only at hF
    rw [hx2] at hp5
    refine q_callVx C hfl mw_X8_teamWithLeg mi_X8_teamWithLeg me_X8_teamWithLeg lk_X8_176 hc4 (rest := []) rfl rfl rfl (by decide) (by decide) rfl (q_dc (z := (3, .invokevirtual 176, 3, 0, 0)) tk_X8_splitOf 3 rfl) (Nat.le_of_ble_eq_true rfl) ⟨Nat.le_of_ble_eq_true rfl, Nat.le_of_ble_eq_true rfl⟩ ⟨Nat.le_of_ble_eq_true rfl, Nat.le_of_ble_eq_true rfl⟩ ?_
    exact q_xout C hT rfl (congrArg q_oxi hF.symm) (Nat.le_of_ble_eq_true rfl) (Nat.le_of_ble_eq_true rfl)
def FL_X8_splitSum_18 (n : Int32) (v1 : Nat) : Nat → Int32 → Int32 → Int32 → q_M → Int32 ⊕ String
  | 0, v2, v4, v5, τ => (.inl 0)
  | nn + 1, v2, v4, v5, τ => (if v5 < v4 then (q_L (τ (v1 + 2) (v5).toNatClampNeg) (fun x6 : Int32 => (FL_X8_splitSum_18 n v1 nn (v2 + x6) v4 (v5 + 1) τ))) else (.inl v2))
def PL_X8_splitSum_18 (n : Int32) (v1 : Nat) : Nat → Int32 → Int32 → Int32 → q_M → Prop
  | 0, v2, v4, v5, τ => False
  | nn + 1, v2, v4, v5, τ => ((v5 < v4 → (vp_in v5 (q_len (v1 + 2)) ∧ (∀ x6 : Int32, (τ (v1 + 2) (v5).toNatClampNeg) = x6 → (PL_X8_splitSum_18 n v1 nn (v2 + x6) v4 (v5 + 1) τ)))) ∧ (¬ v5 < v4 → True))
set_option maxRecDepth 100000 in
theorem kl_X8_splitSum_18 {α β : Nat → Nat} {D : va_G} {κ : Nat → ClassId} (n : Int32) (v1 : Nat) (h_v1 : q_kd v1 = 7) {p : Program} {l : Launch} {e : Env} {s : State} {m : MethodId} {args : Array Value} {below : List Frame} {meth : Method} {c : Code} {A : Nat → Prop} (hfl : l.flags = flags0) (C : q_Cx α β D κ p s m args meth c cX8_splitSum RX8 F_X8 G_X8 7 A) (hr : meth.sig.returnType = (Option.some Jvm.ClassFile.FieldType.int)) (hT : ∀ x ∈ c.exceptionTable.toList, False) : ∀ (nn : Nat) (v2 : Int32) (v4 : Int32) (v5 : Int32) (τ : q_M) (rr : Int32 ⊕ String), PL_X8_splitSum_18 n v1 nn v2 v4 v5 τ → FL_X8_splitSum_18 n v1 nn v2 v4 v5 τ = rr → q_St α β D κ p l e ({ frames := 7, cells := 1, slots := 6, locals := 112 } : Room) s m args below meth c 7 A (vx_MQ below (q_Qc α β D κ A (q_oxi rr) τ) (q_XC α β D κ A (q_oxi rr) τ) args s 1 6 A) 1 6 τ [(0, .ref 220), (1, .int n), (2, .int v2), (3, .ref (v1 + 2)), (4, .int v4), (5, .int v5)] 18 [] := by
  intro nn
  induction nn with
  | zero => intro v2 v4 v5 τ rr hP; exact hP.elim
  | succ nn ih =>
    intro v2 v4 v5 τ rr hP hF
    unfold FL_X8_splitSum_18 at hF
    refine q_go C tk_X8_splitSum [(12, 2)] [] (pc1 := 22) (σ1 := τ) (lv1 := [(0, .ref 220), (1, .int n), (2, .int v2), (3, .ref (v1 + 2)), (4, .int v4), (5, .int v5)]) (st1 := [.int v4, .int v5]) rfl trivial ?_
    by_cases c5 : v5 < v4
    · rw [if_pos c5] at hF
      refine q_go C tk_X8_splitSum [(14, 4)] [false] (pc1 := 29) (σ1 := τ) (lv1 := [(0, .ref 220), (1, .int n), (2, .int v2), (3, .ref (v1 + 2)), (4, .int v4), (5, .int v5)]) (st1 := [.int (τ (v1 + 2) (v5).toNatClampNeg)]) rfl ⟨c5, (q_kd_sl h_v1), (hP.1 c5).1, trivial⟩ ?_
      generalize e7 : (τ (v1 + 2) (v5).toNatClampNeg) = x6
      replace hF := q_let e7 hF
      refine q_go C tk_X8_splitSum [(18, 7)] [] (pc1 := 18) (σ1 := τ) (lv1 := [(5, .int (v5 + 1)), (2, .int (v2 + x6)), (6, .int x6), (0, .ref 220), (1, .int n), (3, .ref (v1 + 2)), (4, .int v4)]) (st1 := []) rfl trivial ?_
      refine q_lvpick [3, 4, 1, 5, 6, 0] (lv' := [(0, .ref 220), (1, .int n), (2, .int (v2 + x6)), (3, .ref (v1 + 2)), (4, .int v4), (5, .int (v5 + 1))]) rfl ?_
      exact ih (v2 + x6) v4 (v5 + 1) τ rr ((hP.1 c5).2 x6 e7) hF
    · rw [if_neg c5] at hF
      refine q_go C tk_X8_splitSum [(14, 1), (25, 1)] [true] (pc1 := 43) (σ1 := τ) (lv1 := [(0, .ref 220), (1, .int n), (2, .int v2), (3, .ref (v1 + 2)), (4, .int v4), (5, .int v5)]) (st1 := [.int v2]) rfl ⟨c5, trivial⟩ ?_
      exact q_iret C hr (q_dc (z := (43, .ireturn, 1, 0, 0)) tk_X8_splitSum 26 rfl) rfl (congrArg q_oxi hF.symm) (Nat.le_of_ble_eq_true rfl) (Nat.le_of_ble_eq_true rfl)
def F_X8_splitSum (n : Int32) (σ : q_M) : Int32 ⊕ String := (match (F_X8_teamWith n σ) with | .inl v1 => (q_L (nI (q_len (v1 + 2))) (fun x3 : Int32 => (FL_X8_splitSum_18 n v1 8 0 x3 0 σ))) | .inr E => (.inr E))
def P_X8_splitSum (n : Int32) (σ : q_M) : Prop := (∀ r, (F_X8_teamWith n σ) = r → match r with | .inl v1 => (∀ x3 : Int32, (nI (q_len (v1 + 2))) = x3 → (PL_X8_splitSum_18 n v1 8 0 x3 0 σ)) | .inr E => True)
set_option maxRecDepth 100000 in
theorem k_X8_splitSum {α β : Nat → Nat} {D : va_G} {κ : Nat → ClassId} (n : Int32) (σ : q_M) (hP : P_X8_splitSum n σ) : q_C α β D κ yX8_splitSum cX8_splitSum 7 (Option.some Jvm.ClassFile.FieldType.int) 7 112 1 6 [.ref 220, .int n] σ (q_oxi (F_X8_splitSum n σ)) σ := by
  refine q_enter (own := RX8) (F := F_X8) (G := G_X8) (by decide +kernel) rfl Fok_X8 Gok_X8 (Nat.le_of_ble_eq_true rfl) (fun p l e s m args below meth c A hfl C hr hT => ?_)
  generalize hF : F_X8_splitSum n σ = rr
  unfold F_X8_splitSum at hF
  refine q_go C tk_X8_splitSum [(0, 4)] [] (pc1 := 4) (σ1 := σ) (lv1 := [(2, .int 0), (0, .ref 220), (1, .int n)]) (st1 := [.int n, .ref 220]) rfl trivial ?_
  have hc8 := (k_X8_teamWith (α := α) (β := β) (D := D) (κ := κ) n σ)
  have hp9 := hP _ rfl
  cases hx2 : (F_X8_teamWith n σ) with
  | inl v1 =>
    rw [hx2] at hc8 hF
    dsimp only at hF
    rw [hx2] at hp9
    refine q_callV C hfl mw_X8_teamWith mi_X8_teamWith me_X8_teamWith lk_X8_80 hc8 (rest := []) rfl rfl rfl (by decide) (by decide) rfl (q_dc (z := (4, .invokevirtual 80, 3, 0, 0)) tk_X8_splitSum 4 rfl) (Nat.le_of_ble_eq_true rfl) ⟨Nat.le_of_ble_eq_true rfl, Nat.le_of_ble_eq_true rfl⟩ ⟨Nat.le_of_ble_eq_true rfl, Nat.le_of_ble_eq_true rfl⟩ ?_
    refine q_nrm 7 [.ref v1] 1 6 rfl rfl rfl rfl ?_
    refine q_go C tk_X8_splitSum [(5, 4)] [] (pc1 := 13) (σ1 := σ) (lv1 := [(3, .ref (v1 + 2)), (2, .int 0), (0, .ref 220), (1, .int n)]) (st1 := [.int (nI (q_len (v1 + 2)))]) rfl ⟨(f_X8_teamWith_kd  hx2), (q_kd_sl (f_X8_teamWith_kd  hx2)), trivial⟩ ?_
    generalize e4 : (nI (q_len (v1 + 2))) = x3
    replace hF := q_let e4 hF
    refine q_go C tk_X8_splitSum [(9, 3)] [] (pc1 := 18) (σ1 := σ) (lv1 := [(5, .int 0), (4, .int x3), (3, .ref (v1 + 2)), (2, .int 0), (0, .ref 220), (1, .int n)]) (st1 := []) rfl trivial ?_
    refine q_lvpick [4, 5, 3, 2, 1, 0] (lv' := [(0, .ref 220), (1, .int n), (2, .int 0), (3, .ref (v1 + 2)), (4, .int x3), (5, .int 0)]) rfl ?_
    exact kl_X8_splitSum_18 n v1 ((f_X8_teamWith_kd  hx2)) hfl C hr hT 8 0 x3 0 σ rr (hp9 x3 e4) hF
  | inr E =>
    rw [hx2] at hc8 hF
    dsimp only at hF
    rw [hx2] at hp9
    refine q_callVx C hfl mw_X8_teamWith mi_X8_teamWith me_X8_teamWith lk_X8_80 hc8 (rest := []) rfl rfl rfl (by decide) (by decide) rfl (q_dc (z := (4, .invokevirtual 80, 3, 0, 0)) tk_X8_splitSum 4 rfl) (Nat.le_of_ble_eq_true rfl) ⟨Nat.le_of_ble_eq_true rfl, Nat.le_of_ble_eq_true rfl⟩ ⟨Nat.le_of_ble_eq_true rfl, Nat.le_of_ble_eq_true rfl⟩ ?_
    exact q_xout C hT rfl (congrArg q_oxi hF.symm) (Nat.le_of_ble_eq_true rfl) (Nat.le_of_ble_eq_true rfl)
def F_X8_timeOf (n : Int32) (σ : q_M) : Int32 ⊕ String := (match (F_X8_finishedTeamWith n σ) with | .inl v1 => (.inl (σ v1 11)) | .inr E => (.inr E))
set_option maxRecDepth 100000 in
theorem k_X8_timeOf {α β : Nat → Nat} {D : va_G} {κ : Nat → ClassId} (n : Int32) (σ : q_M) : q_C α β D κ yX8_timeOf cX8_timeOf 2 (Option.some Jvm.ClassFile.FieldType.int) 8 134 2 12 [.ref 220, .int n] σ (q_oxi (F_X8_timeOf n σ)) σ := by
  refine q_enter (own := RX8) (F := F_X8) (G := G_X8) (by decide +kernel) rfl Fok_X8 Gok_X8 (Nat.le_of_ble_eq_true rfl) (fun p l e s m args below meth c A hfl C hr hT => ?_)
  generalize hF : F_X8_timeOf n σ = rr
  unfold F_X8_timeOf at hF
  refine q_go C tk_X8_timeOf [(0, 2)] [] (pc1 := 2) (σ1 := σ) (lv1 := [(0, .ref 220), (1, .int n)]) (st1 := [.int n, .ref 220]) rfl trivial ?_
  have hc3 := (k_X8_finishedTeamWith (α := α) (β := β) (D := D) (κ := κ) n σ)
  cases hx2 : (F_X8_finishedTeamWith n σ) with
  | inl v1 =>
    rw [hx2] at hc3 hF
    dsimp only at hF
    refine q_callV C hfl mw_X8_finishedTeamWith mi_X8_finishedTeamWith me_X8_finishedTeamWith lk_X8_226 hc3 (rest := []) rfl rfl rfl (by decide) (by decide) rfl (q_dc (z := (2, .invokevirtual 226, 3, 0, 0)) tk_X8_timeOf 2 rfl) (Nat.le_of_ble_eq_true rfl) ⟨Nat.le_of_ble_eq_true rfl, Nat.le_of_ble_eq_true rfl⟩ ⟨Nat.le_of_ble_eq_true rfl, Nat.le_of_ble_eq_true rfl⟩ ?_
    refine q_nrm 5 [.ref v1] 2 12 rfl rfl rfl rfl ?_
    refine q_go C tk_X8_timeOf [(3, 1)] [] (pc1 := 8) (σ1 := σ) (lv1 := [(0, .ref 220), (1, .int n)]) (st1 := [.int (σ v1 11)]) rfl ⟨(f_X8_finishedTeamWith_kd  hx2), trivial⟩ ?_
    exact q_iret C hr (q_dc (z := (8, .ireturn, 1, 0, 0)) tk_X8_timeOf 4 rfl) rfl (congrArg q_oxi hF.symm) (Nat.le_of_ble_eq_true rfl) (Nat.le_of_ble_eq_true rfl)
  | inr E =>
    rw [hx2] at hc3 hF
    dsimp only at hF
    refine q_callVx C hfl mw_X8_finishedTeamWith mi_X8_finishedTeamWith me_X8_finishedTeamWith lk_X8_226 hc3 (rest := []) rfl rfl rfl (by decide) (by decide) rfl (q_dc (z := (2, .invokevirtual 226, 3, 0, 0)) tk_X8_timeOf 2 rfl) (Nat.le_of_ble_eq_true rfl) ⟨Nat.le_of_ble_eq_true rfl, Nat.le_of_ble_eq_true rfl⟩ ⟨Nat.le_of_ble_eq_true rfl, Nat.le_of_ble_eq_true rfl⟩ ?_
    exact q_xout C hT rfl (congrArg q_oxi hF.symm) (Nat.le_of_ble_eq_true rfl) (Nat.le_of_ble_eq_true rfl)
def F_X8_resultOf (n : Int32) (σ : q_M) : Int32 ⊕ String := (match (F_X8_finishedTeamWith n σ) with | .inl v1 => (.inl (F_X6_result v1 σ)) | .inr E => (.inr E))
set_option maxRecDepth 100000 in
theorem k_X8_resultOf {α β : Nat → Nat} {D : va_G} {κ : Nat → ClassId} (n : Int32) (σ : q_M) : q_C α β D κ yX8_resultOf cX8_resultOf 2 (Option.some Jvm.ClassFile.FieldType.int) 8 134 2 12 [.ref 220, .int n] σ (q_oxi (F_X8_resultOf n σ)) σ := by
  refine q_enter (own := RX8) (F := F_X8) (G := G_X8) (by decide +kernel) rfl Fok_X8 Gok_X8 (Nat.le_of_ble_eq_true rfl) (fun p l e s m args below meth c A hfl C hr hT => ?_)
  generalize hF : F_X8_resultOf n σ = rr
  unfold F_X8_resultOf at hF
  refine q_go C tk_X8_resultOf [(0, 2)] [] (pc1 := 2) (σ1 := σ) (lv1 := [(0, .ref 220), (1, .int n)]) (st1 := [.int n, .ref 220]) rfl trivial ?_
  have hc3 := (k_X8_finishedTeamWith (α := α) (β := β) (D := D) (κ := κ) n σ)
  cases hx2 : (F_X8_finishedTeamWith n σ) with
  | inl v1 =>
    rw [hx2] at hc3 hF
    dsimp only at hF
    refine q_callV C hfl mw_X8_finishedTeamWith mi_X8_finishedTeamWith me_X8_finishedTeamWith lk_X8_226 hc3 (rest := []) rfl rfl rfl (by decide) (by decide) rfl (q_dc (z := (2, .invokevirtual 226, 3, 0, 0)) tk_X8_resultOf 2 rfl) (Nat.le_of_ble_eq_true rfl) ⟨Nat.le_of_ble_eq_true rfl, Nat.le_of_ble_eq_true rfl⟩ ⟨Nat.le_of_ble_eq_true rfl, Nat.le_of_ble_eq_true rfl⟩ ?_
    refine q_nrm 5 [.ref v1] 2 12 rfl rfl rfl rfl ?_
    refine q_callV C hfl mw_X6_result mi_X6_result me_X6_result lk_X8_232 (k_X6_result v1 σ (f_X8_finishedTeamWith_kd  hx2)) (rest := []) rfl (f_X8_finishedTeamWith_kd  hx2) rfl (by decide) (by decide) rfl (q_dc (z := (5, .invokevirtual 232, 3, 0, 0)) tk_X8_resultOf 3 rfl) (Nat.le_of_ble_eq_true rfl) ⟨Nat.le_of_ble_eq_true rfl, Nat.le_of_ble_eq_true rfl⟩ ⟨Nat.le_of_ble_eq_true rfl, Nat.le_of_ble_eq_true rfl⟩ ?_
    refine q_nrm 8 [.int (F_X6_result v1 σ)] 2 12 rfl rfl rfl rfl ?_
    exact q_iret C hr (q_dc (z := (8, .ireturn, 1, 0, 0)) tk_X8_resultOf 4 rfl) rfl (congrArg q_oxi hF.symm) (Nat.le_of_ble_eq_true rfl) (Nat.le_of_ble_eq_true rfl)
  | inr E =>
    rw [hx2] at hc3 hF
    dsimp only at hF
    refine q_callVx C hfl mw_X8_finishedTeamWith mi_X8_finishedTeamWith me_X8_finishedTeamWith lk_X8_226 hc3 (rest := []) rfl rfl rfl (by decide) (by decide) rfl (q_dc (z := (2, .invokevirtual 226, 3, 0, 0)) tk_X8_resultOf 2 rfl) (Nat.le_of_ble_eq_true rfl) ⟨Nat.le_of_ble_eq_true rfl, Nat.le_of_ble_eq_true rfl⟩ ⟨Nat.le_of_ble_eq_true rfl, Nat.le_of_ble_eq_true rfl⟩ ?_
    exact q_xout C hT rfl (congrArg q_oxi hF.symm) (Nat.le_of_ble_eq_true rfl) (Nat.le_of_ble_eq_true rfl)
def F_X8_teamAtRank (q : Int32) (σ : q_M) : Int32 ⊕ String := (q_L (F_X4_numberAtRank 0 q σ) (fun x1 : Int32 => (if x1 = (-1) then (.inr "java/util/NoSuchElementException") else (.inl x1))))
def P_X8_teamAtRank (q : Int32) (σ : q_M) : Prop := ((P_X4_numberAtRank 0 q σ) ∧ True)
set_option maxRecDepth 100000 in
theorem k_X8_teamAtRank {α β : Nat → Nat} {D : va_G} {κ : Nat → ClassId} (q : Int32) (σ : q_M) (hP : P_X8_teamAtRank q σ) : q_C α β D κ yX8_teamAtRank cX8_teamAtRank 3 (Option.some Jvm.ClassFile.FieldType.int) 6 93 1 6 [.ref 220, .int q] σ (q_oxi (F_X8_teamAtRank q σ)) σ := by
  refine q_enter (own := RX8) (F := F_X8) (G := G_X8) (by decide +kernel) rfl Fok_X8 Gok_X8 (Nat.le_of_ble_eq_true rfl) (fun p l e s m args below meth c A hfl C hr hT => ?_)
  generalize hF : F_X8_teamAtRank q σ = rr
  unfold F_X8_teamAtRank at hF
  refine q_go C tk_X8_teamAtRank [(0, 3)] [] (pc1 := 5) (σ1 := σ) (lv1 := [(0, .ref 220), (1, .int q)]) (st1 := [.int q, .ref 0]) rfl ⟨rfl, trivial⟩ ?_
  refine q_callV C hfl mw_X4_numberAtRank mi_X4_numberAtRank me_X4_numberAtRank lk_X8_235 (k_X4_numberAtRank 0 q σ rfl hP.1) (rest := []) rfl rfl rfl (by decide) (by decide) rfl (q_dc (z := (5, .invokevirtual 235, 3, 0, 0)) tk_X8_teamAtRank 3 rfl) (Nat.le_of_ble_eq_true rfl) ⟨Nat.le_of_ble_eq_true rfl, Nat.le_of_ble_eq_true rfl⟩ ⟨Nat.le_of_ble_eq_true rfl, Nat.le_of_ble_eq_true rfl⟩ ?_
  refine q_nrm 8 [.int (F_X4_numberAtRank 0 q σ)] 0 0 rfl rfl rfl rfl ?_
  generalize e2 : (F_X4_numberAtRank 0 q σ) = x1
  replace hF := q_let e2 hF
  refine q_go C tk_X8_teamAtRank [(4, 3)] [] (pc1 := 11) (σ1 := σ) (lv1 := [(2, .int x1), (0, .ref 220), (1, .int q)]) (st1 := [.int (-1), .int x1]) rfl trivial ?_
  by_cases c3 : x1 = (-1)
  · rw [if_pos c3] at hF
    refine q_go C tk_X8_teamAtRank [(7, 1)] [false] (pc1 := 14) (σ1 := σ) (lv1 := [(2, .int x1), (0, .ref 220), (1, .int q)]) (st1 := []) rfl ⟨c3, trivial⟩ ?_
    exact q_throwN C hT hfl (is := 238) (List.mem_of_getElem? (l := q_msg) (i := 10) rfl) (q_dc (z := (14, .new 169, 3, 0, 0)) tk_X8_teamAtRank 8 rfl) (q_dc (z := (17, .dup, 1, 0, 0)) tk_X8_teamAtRank 9 rfl) (q_dc (z := (18, .ldc 238, 2, 0, 0)) tk_X8_teamAtRank 10 rfl) (q_dc (z := (20, .invokespecial 173, 3, 0, 0)) tk_X8_teamAtRank 11 rfl) (q_dc (z := (23, .athrow, 1, 0, 0)) tk_X8_teamAtRank 12 rfl) (Nat.le_of_ble_eq_true rfl) (Nat.le_of_ble_eq_true rfl) (Nat.le_of_ble_eq_true rfl) (Nat.le_of_ble_eq_true rfl) (Nat.le_of_ble_eq_true rfl) rfl (congrArg q_oxi hF.symm) (Nat.le_of_ble_eq_true rfl) (Nat.le_of_ble_eq_true rfl)
  · rw [if_neg c3] at hF
    refine q_go C tk_X8_teamAtRank [(7, 1), (13, 1)] [true] (pc1 := 25) (σ1 := σ) (lv1 := [(2, .int x1), (0, .ref 220), (1, .int q)]) (st1 := [.int x1]) rfl ⟨c3, trivial⟩ ?_
    exact q_iret C hr (q_dc (z := (25, .ireturn, 1, 0, 0)) tk_X8_teamAtRank 14 rfl) rfl (congrArg q_oxi hF.symm) (Nat.le_of_ble_eq_true rfl) (Nat.le_of_ble_eq_true rfl)
def F_X8_rankOf (n : Int32) (σ : q_M) : Int32 ⊕ String := (match (F_X8_teamWith n σ) with | .inl v1 => (.inl (F_X4_countAhead 0 v1 σ)) | .inr E => (.inr E))
def P_X8_rankOf (n : Int32) (σ : q_M) : Prop := (∀ r, (F_X8_teamWith n σ) = r → match r with | .inl v1 => ((P_X4_countAhead 0 v1 σ) ∧ True) | .inr E => True)
set_option maxRecDepth 100000 in
theorem k_X8_rankOf {α β : Nat → Nat} {D : va_G} {κ : Nat → ClassId} (n : Int32) (σ : q_M) (hP : P_X8_rankOf n σ) : q_C α β D κ yX8_rankOf cX8_rankOf 2 (Option.some Jvm.ClassFile.FieldType.int) 7 112 1 6 [.ref 220, .int n] σ (q_oxi (F_X8_rankOf n σ)) σ := by
  refine q_enter (own := RX8) (F := F_X8) (G := G_X8) (by decide +kernel) rfl Fok_X8 Gok_X8 (Nat.le_of_ble_eq_true rfl) (fun p l e s m args below meth c A hfl C hr hT => ?_)
  generalize hF : F_X8_rankOf n σ = rr
  unfold F_X8_rankOf at hF
  refine q_go C tk_X8_rankOf [(0, 4)] [] (pc1 := 6) (σ1 := σ) (lv1 := [(0, .ref 220), (1, .int n)]) (st1 := [.int n, .ref 220, .ref 0]) rfl ⟨rfl, trivial⟩ ?_
  have hc3 := (k_X8_teamWith (α := α) (β := β) (D := D) (κ := κ) n σ)
  have hp4 := hP _ rfl
  cases hx2 : (F_X8_teamWith n σ) with
  | inl v1 =>
    rw [hx2] at hc3 hF
    dsimp only at hF
    rw [hx2] at hp4
    refine q_callV C hfl mw_X8_teamWith mi_X8_teamWith me_X8_teamWith lk_X8_80 hc3 (rest := [.ref 0]) rfl rfl rfl (by decide) (by decide) rfl (q_dc (z := (6, .invokevirtual 80, 3, 0, 0)) tk_X8_rankOf 4 rfl) (Nat.le_of_ble_eq_true rfl) ⟨Nat.le_of_ble_eq_true rfl, Nat.le_of_ble_eq_true rfl⟩ ⟨Nat.le_of_ble_eq_true rfl, Nat.le_of_ble_eq_true rfl⟩ ?_
    refine q_nrm 9 [.ref v1, .ref 0] 1 6 rfl rfl rfl rfl ?_
    refine q_callV C hfl mw_X4_countAhead mi_X4_countAhead me_X4_countAhead lk_X8_240 (k_X4_countAhead 0 v1 σ rfl (f_X8_teamWith_kd  hx2) hp4.1) (rest := []) rfl rfl rfl (by decide) (by decide) rfl (q_dc (z := (9, .invokevirtual 240, 3, 0, 0)) tk_X8_rankOf 5 rfl) (Nat.le_of_ble_eq_true rfl) ⟨Nat.le_of_ble_eq_true rfl, Nat.le_of_ble_eq_true rfl⟩ ⟨Nat.le_of_ble_eq_true rfl, Nat.le_of_ble_eq_true rfl⟩ ?_
    refine q_nrm 12 [.int (F_X4_countAhead 0 v1 σ)] 1 6 rfl rfl rfl rfl ?_
    exact q_iret C hr (q_dc (z := (12, .ireturn, 1, 0, 0)) tk_X8_rankOf 6 rfl) rfl (congrArg q_oxi hF.symm) (Nat.le_of_ble_eq_true rfl) (Nat.le_of_ble_eq_true rfl)
  | inr E =>
    rw [hx2] at hc3 hF
    dsimp only at hF
    rw [hx2] at hp4
    refine q_callVx C hfl mw_X8_teamWith mi_X8_teamWith me_X8_teamWith lk_X8_80 hc3 (rest := [.ref 0]) rfl rfl rfl (by decide) (by decide) rfl (q_dc (z := (6, .invokevirtual 80, 3, 0, 0)) tk_X8_rankOf 4 rfl) (Nat.le_of_ble_eq_true rfl) ⟨Nat.le_of_ble_eq_true rfl, Nat.le_of_ble_eq_true rfl⟩ ⟨Nat.le_of_ble_eq_true rfl, Nat.le_of_ble_eq_true rfl⟩ ?_
    exact q_xout C hT rfl (congrArg q_oxi hF.symm) (Nat.le_of_ble_eq_true rfl) (Nat.le_of_ble_eq_true rfl)
def FL_X8_reach_15 (n : Int32) (g : Int32) (v : Int32) : Nat → Int32 → Int32 → Int32 → q_M → Int32 ⊕ String
  | 0, v4, v5, v6, τ => (.inl 0)
  | nn + 1, v4, v5, v6, τ => (if v6 < v then (q_L (v5 + (F_X8_pace v4 v6 τ)) (fun x4 : Int32 => (FL_X8_reach_15 n g v nn v4 x4 (v6 + 1) τ))) else (.inl v5))
def PL_X8_reach_15 (n : Int32) (g : Int32) (v : Int32) : Nat → Int32 → Int32 → Int32 → q_M → Prop
  | 0, v4, v5, v6, τ => False
  | nn + 1, v4, v5, v6, τ => ((v6 < v → (∀ x4 : Int32, (v5 + (F_X8_pace v4 v6 τ)) = x4 → (PL_X8_reach_15 n g v nn v4 x4 (v6 + 1) τ))) ∧ (¬ v6 < v → True))
set_option maxRecDepth 100000 in
theorem kl_X8_reach_15 {α β : Nat → Nat} {D : va_G} {κ : Nat → ClassId} (n : Int32) (g : Int32) (v : Int32) {p : Program} {l : Launch} {e : Env} {s : State} {m : MethodId} {args : Array Value} {below : List Frame} {meth : Method} {c : Code} {A : Nat → Prop} (hfl : l.flags = flags0) (C : q_Cx α β D κ p s m args meth c cX8_reach RX8 F_X8 G_X8 7 A) (hr : meth.sig.returnType = (Option.some Jvm.ClassFile.FieldType.int)) (hT : ∀ x ∈ c.exceptionTable.toList, False) : ∀ (nn : Nat) (v4 : Int32) (v5 : Int32) (v6 : Int32) (τ : q_M) (rr : Int32 ⊕ String), PL_X8_reach_15 n g v nn v4 v5 v6 τ → FL_X8_reach_15 n g v nn v4 v5 v6 τ = rr → q_St α β D κ p l e ({ frames := 9, cells := 3, slots := 18, locals := 159 } : Room) s m args below meth c 7 A (vx_MQ below (q_Qc α β D κ A (q_oxi rr) τ) (q_XC α β D κ A (q_oxi rr) τ) args s 3 18 A) 3 18 τ [(0, .ref 220), (1, .int n), (2, .int g), (3, .int v), (4, .int v4), (5, .int v5), (6, .int v6)] 15 [] := by
  intro nn
  induction nn with
  | zero => intro v4 v5 v6 τ rr hP; exact hP.elim
  | succ nn ih =>
    intro v4 v5 v6 τ rr hP hF
    unfold FL_X8_reach_15 at hF
    refine q_go C tk_X8_reach [(10, 2)] [] (pc1 := 18) (σ1 := τ) (lv1 := [(0, .ref 220), (1, .int n), (2, .int g), (3, .int v), (4, .int v4), (5, .int v5), (6, .int v6)]) (st1 := [.int v, .int v6]) rfl trivial ?_
    by_cases c3 : v6 < v
    · rw [if_pos c3] at hF
      refine q_go C tk_X8_reach [(12, 4)] [false] (pc1 := 27) (σ1 := τ) (lv1 := [(0, .ref 220), (1, .int n), (2, .int g), (3, .int v), (4, .int v4), (5, .int v5), (6, .int v6)]) (st1 := [.int v6, .int v4, .int v5]) rfl ⟨c3, trivial⟩ ?_
      refine q_callS C hfl mw_X8_pace ms_X8_pace lk_X8_258 (k_X8_pace v4 v6 τ) (rest := [.int v5]) rfl rfl (q_dc (z := (27, .invokestatic 258, 3, 0, 0)) tk_X8_reach 16 rfl) (Nat.le_of_ble_eq_true rfl) ⟨Nat.le_of_ble_eq_true rfl, Nat.le_of_ble_eq_true rfl⟩ ⟨Nat.le_of_ble_eq_true rfl, Nat.le_of_ble_eq_true rfl⟩ ?_
      refine q_nrm 30 [.int (F_X8_pace v4 v6 τ), .int v5] 3 18 rfl rfl rfl rfl ?_
      refine q_go C tk_X8_reach [(17, 1)] [] (pc1 := 31) (σ1 := τ) (lv1 := [(0, .ref 220), (1, .int n), (2, .int g), (3, .int v), (4, .int v4), (5, .int v5), (6, .int v6)]) (st1 := [.int (v5 + (F_X8_pace v4 v6 τ))]) rfl trivial ?_
      generalize e5 : (v5 + (F_X8_pace v4 v6 τ)) = x4
      replace hF := q_let e5 hF
      refine q_go C tk_X8_reach [(18, 3)] [] (pc1 := 15) (σ1 := τ) (lv1 := [(6, .int (v6 + 1)), (5, .int x4), (0, .ref 220), (1, .int n), (2, .int g), (3, .int v), (4, .int v4)]) (st1 := []) rfl trivial ?_
      refine q_lvpick [2, 3, 4, 5, 6, 1, 0] (lv' := [(0, .ref 220), (1, .int n), (2, .int g), (3, .int v), (4, .int v4), (5, .int x4), (6, .int (v6 + 1))]) rfl ?_
      exact ih v4 x4 (v6 + 1) τ rr ((hP.1 c3) x4 e5) hF
    · rw [if_neg c3] at hF
      refine q_go C tk_X8_reach [(12, 1), (21, 1)] [true] (pc1 := 41) (σ1 := τ) (lv1 := [(0, .ref 220), (1, .int n), (2, .int g), (3, .int v), (4, .int v4), (5, .int v5), (6, .int v6)]) (st1 := [.int v5]) rfl ⟨c3, trivial⟩ ?_
      exact q_iret C hr (q_dc (z := (41, .ireturn, 1, 0, 0)) tk_X8_reach 22 rfl) rfl (congrArg q_oxi hF.symm) (Nat.le_of_ble_eq_true rfl) (Nat.le_of_ble_eq_true rfl)
def F_X8_reach (n : Int32) (g : Int32) (v : Int32) (σ : q_M) : Int32 ⊕ String := (match (F_X8_speedForReach n g v σ) with | .inl v1 => (FL_X8_reach_15 n g v 1010 v1 0 0 σ) | .inr E => (.inr E))
def P_X8_reach (n : Int32) (g : Int32) (v : Int32) (σ : q_M) : Prop := ((P_X8_speedForReach n g v σ) ∧ (∀ r, (F_X8_speedForReach n g v σ) = r → match r with | .inl v1 => (PL_X8_reach_15 n g v 1010 v1 0 0 σ) | .inr E => True))
set_option maxRecDepth 100000 in
theorem k_X8_reach {α β : Nat → Nat} {D : va_G} {κ : Nat → ClassId} (n : Int32) (g : Int32) (v : Int32) (σ : q_M) (hP : P_X8_reach n g v σ) : q_C α β D κ yX8_reach cX8_reach 7 (Option.some Jvm.ClassFile.FieldType.int) 9 159 3 18 [.ref 220, .int n, .int g, .int v] σ (q_oxi (F_X8_reach n g v σ)) σ := by
  refine q_enter (own := RX8) (F := F_X8) (G := G_X8) (by decide +kernel) rfl Fok_X8 Gok_X8 (Nat.le_of_ble_eq_true rfl) (fun p l e s m args below meth c A hfl C hr hT => ?_)
  generalize hF : F_X8_reach n g v σ = rr
  unfold F_X8_reach at hF
  refine q_go C tk_X8_reach [(0, 4)] [] (pc1 := 4) (σ1 := σ) (lv1 := [(0, .ref 220), (1, .int n), (2, .int g), (3, .int v)]) (st1 := [.int v, .int g, .int n, .ref 220]) rfl trivial ?_
  have hc6 := (k_X8_speedForReach (α := α) (β := β) (D := D) (κ := κ) n g v σ hP.1)
  have hp7 := hP.2 _ rfl
  cases hx2 : (F_X8_speedForReach n g v σ) with
  | inl v1 =>
    rw [hx2] at hc6 hF
    dsimp only at hF
    rw [hx2] at hp7
    refine q_callV C hfl mw_X8_speedForReach mi_X8_speedForReach me_X8_speedForReach lk_X8_254 hc6 (rest := []) rfl rfl rfl (by decide) (by decide) rfl (q_dc (z := (4, .invokevirtual 254, 3, 0, 0)) tk_X8_reach 4 rfl) (Nat.le_of_ble_eq_true rfl) ⟨Nat.le_of_ble_eq_true rfl, Nat.le_of_ble_eq_true rfl⟩ ⟨Nat.le_of_ble_eq_true rfl, Nat.le_of_ble_eq_true rfl⟩ ?_
    refine q_nrm 7 [.int v1] 3 18 rfl rfl rfl rfl ?_
    refine q_go C tk_X8_reach [(5, 5)] [] (pc1 := 15) (σ1 := σ) (lv1 := [(6, .int 0), (5, .int 0), (4, .int v1), (0, .ref 220), (1, .int n), (2, .int g), (3, .int v)]) (st1 := []) rfl trivial ?_
    refine q_lvpick [3, 4, 5, 6, 2, 1, 0] (lv' := [(0, .ref 220), (1, .int n), (2, .int g), (3, .int v), (4, .int v1), (5, .int 0), (6, .int 0)]) rfl ?_
    exact kl_X8_reach_15 n g v  hfl C hr hT 1010 v1 0 0 σ rr hp7 hF
  | inr E =>
    rw [hx2] at hc6 hF
    dsimp only at hF
    rw [hx2] at hp7
    refine q_callVx C hfl mw_X8_speedForReach mi_X8_speedForReach me_X8_speedForReach lk_X8_254 hc6 (rest := []) rfl rfl rfl (by decide) (by decide) rfl (q_dc (z := (4, .invokevirtual 254, 3, 0, 0)) tk_X8_reach 4 rfl) (Nat.le_of_ble_eq_true rfl) ⟨Nat.le_of_ble_eq_true rfl, Nat.le_of_ble_eq_true rfl⟩ ⟨Nat.le_of_ble_eq_true rfl, Nat.le_of_ble_eq_true rfl⟩ ?_
    exact q_xout C hT rfl (congrArg q_oxi hF.symm) (Nat.le_of_ble_eq_true rfl) (Nat.le_of_ble_eq_true rfl)
def F_X8_secondsToZone (n : Int32) (σ : q_M) : Int32 ⊕ String := (match (F_X8_teamWith n σ) with | .inl v1 => (if (σ v1 3) = 2 then (if (σ v1 6) < 3 then (.inl (F_X6_secondsUntilZone v1 (σ 0 3) σ)) else (.inr "java/lang/UnsupportedOperationException")) else (.inr "java/lang/IllegalStateException")) | .inr E => (.inr E))
def P_X8_secondsToZone (n : Int32) (σ : q_M) : Prop := (∀ r, (F_X8_teamWith n σ) = r → match r with | .inl v1 => (((σ v1 3) = 2 → (((σ v1 6) < 3 → ((P_X6_secondsUntilZone v1 (σ 0 3) σ) ∧ True)) ∧ (¬ (σ v1 6) < 3 → True))) ∧ (¬ (σ v1 3) = 2 → True)) | .inr E => True)
set_option maxRecDepth 100000 in
theorem k_X8_secondsToZone {α β : Nat → Nat} {D : va_G} {κ : Nat → ClassId} (n : Int32) (σ : q_M) (hP : P_X8_secondsToZone n σ) : q_C α β D κ yX8_secondsToZone cX8_secondsToZone 3 (Option.some Jvm.ClassFile.FieldType.int) 7 112 2 12 [.ref 220, .int n] σ (q_oxi (F_X8_secondsToZone n σ)) σ := by
  refine q_enter (own := RX8) (F := F_X8) (G := G_X8) (by decide +kernel) rfl Fok_X8 Gok_X8 (Nat.le_of_ble_eq_true rfl) (fun p l e s m args below meth c A hfl C hr hT => ?_)
  generalize hF : F_X8_secondsToZone n σ = rr
  unfold F_X8_secondsToZone at hF
  refine q_go C tk_X8_secondsToZone [(0, 2)] [] (pc1 := 2) (σ1 := σ) (lv1 := [(0, .ref 220), (1, .int n)]) (st1 := [.int n, .ref 220]) rfl trivial ?_
  have hc5 := (k_X8_teamWith (α := α) (β := β) (D := D) (κ := κ) n σ)
  have hp6 := hP _ rfl
  cases hx2 : (F_X8_teamWith n σ) with
  | inl v1 =>
    rw [hx2] at hc5 hF
    dsimp only at hF
    rw [hx2] at hp6
    refine q_callV C hfl mw_X8_teamWith mi_X8_teamWith me_X8_teamWith lk_X8_80 hc5 (rest := []) rfl rfl rfl (by decide) (by decide) rfl (q_dc (z := (2, .invokevirtual 80, 3, 0, 0)) tk_X8_secondsToZone 2 rfl) (Nat.le_of_ble_eq_true rfl) ⟨Nat.le_of_ble_eq_true rfl, Nat.le_of_ble_eq_true rfl⟩ ⟨Nat.le_of_ble_eq_true rfl, Nat.le_of_ble_eq_true rfl⟩ ?_
    refine q_nrm 5 [.ref v1] 1 6 rfl rfl rfl rfl ?_
    refine q_go C tk_X8_secondsToZone [(3, 4)] [] (pc1 := 13) (σ1 := σ) (lv1 := [(2, .ref v1), (0, .ref 220), (1, .int n)]) (st1 := [q_e 2, q_e (σ v1 3)]) rfl ⟨(f_X8_teamWith_kd  hx2), trivial⟩ ?_
    by_cases c3 : (σ v1 3) = 2
    · rw [if_pos c3] at hF
      refine q_go C tk_X8_secondsToZone [(7, 1), (13, 3)] [true] (pc1 := 32) (σ1 := σ) (lv1 := [(2, .ref v1), (0, .ref 220), (1, .int n)]) (st1 := [.int 3, .int (σ v1 6)]) rfl ⟨(congrArg Int32.toUInt32 c3), (f_X8_teamWith_kd  hx2), trivial⟩ ?_
      by_cases c4 : (σ v1 6) < 3
      · rw [if_pos c4] at hF
        refine q_go C tk_X8_secondsToZone [(16, 1), (22, 4)] [true] (pc1 := 54) (σ1 := σ) (lv1 := [(2, .ref v1), (0, .ref 220), (1, .int n)]) (st1 := [.int (σ 0 3), .ref v1]) rfl ⟨c4, rfl, rfl, trivial⟩ ?_
        refine q_callV C hfl mw_X6_secondsUntilZone mi_X6_secondsUntilZone me_X6_secondsUntilZone lk_X8_271 (k_X6_secondsUntilZone v1 (σ 0 3) σ (f_X8_teamWith_kd  hx2) ((hp6.1 c3).1 c4).1) (rest := []) rfl (f_X8_teamWith_kd  hx2) rfl (by decide) (by decide) rfl (q_dc (z := (54, .invokevirtual 271, 3, 0, 0)) tk_X8_secondsToZone 26 rfl) (Nat.le_of_ble_eq_true rfl) ⟨Nat.le_of_ble_eq_true rfl, Nat.le_of_ble_eq_true rfl⟩ ⟨Nat.le_of_ble_eq_true rfl, Nat.le_of_ble_eq_true rfl⟩ ?_
        refine q_nrm 57 [.int (F_X6_secondsUntilZone v1 (σ 0 3) σ)] 1 6 rfl rfl rfl rfl ?_
        exact q_iret C hr (q_dc (z := (57, .ireturn, 1, 0, 0)) tk_X8_secondsToZone 27 rfl) rfl (congrArg q_oxi hF.symm) (Nat.le_of_ble_eq_true rfl) (Nat.le_of_ble_eq_true rfl)
      · rw [if_neg c4] at hF
        refine q_go C tk_X8_secondsToZone [(16, 1)] [false] (pc1 := 35) (σ1 := σ) (lv1 := [(2, .ref v1), (0, .ref 220), (1, .int n)]) (st1 := []) rfl ⟨c4, trivial⟩ ?_
        exact q_throwW C hT hfl xk_UnsupportedOperationException (is := 268) (List.mem_of_getElem? (l := q_msg) (i := 14) rfl) (q_dc (z := (35, .new 266, 3, 0, 0)) tk_X8_secondsToZone 17 rfl) (q_dc (z := (38, .dup, 1, 0, 0)) tk_X8_secondsToZone 18 rfl) (q_dc (z := (39, .ldc_w 268, 3, 0, 0)) tk_X8_secondsToZone 19 rfl) (q_dc (z := (42, .invokespecial 270, 3, 0, 0)) tk_X8_secondsToZone 20 rfl) (q_dc (z := (45, .athrow, 1, 0, 0)) tk_X8_secondsToZone 21 rfl) (Nat.le_of_ble_eq_true rfl) (Nat.le_of_ble_eq_true rfl) (Nat.le_of_ble_eq_true rfl) (Nat.le_of_ble_eq_true rfl) (Nat.le_of_ble_eq_true rfl) rfl (congrArg q_oxi hF.symm) (Nat.le_of_ble_eq_true rfl) (Nat.le_of_ble_eq_true rfl)
    · rw [if_neg c3] at hF
      refine q_go C tk_X8_secondsToZone [(7, 1)] [false] (pc1 := 16) (σ1 := σ) (lv1 := [(2, .ref v1), (0, .ref 220), (1, .int n)]) (st1 := []) rfl ⟨(fun q => c3 (q_u32 q)), trivial⟩ ?_
      exact q_throwW C hT hfl xk_IllegalStateException (is := 263) (List.mem_of_getElem? (l := q_msg) (i := 13) rfl) (q_dc (z := (16, .new 261, 3, 0, 0)) tk_X8_secondsToZone 8 rfl) (q_dc (z := (19, .dup, 1, 0, 0)) tk_X8_secondsToZone 9 rfl) (q_dc (z := (20, .ldc_w 263, 3, 0, 0)) tk_X8_secondsToZone 10 rfl) (q_dc (z := (23, .invokespecial 265, 3, 0, 0)) tk_X8_secondsToZone 11 rfl) (q_dc (z := (26, .athrow, 1, 0, 0)) tk_X8_secondsToZone 12 rfl) (Nat.le_of_ble_eq_true rfl) (Nat.le_of_ble_eq_true rfl) (Nat.le_of_ble_eq_true rfl) (Nat.le_of_ble_eq_true rfl) (Nat.le_of_ble_eq_true rfl) rfl (congrArg q_oxi hF.symm) (Nat.le_of_ble_eq_true rfl) (Nat.le_of_ble_eq_true rfl)
  | inr E =>
    rw [hx2] at hc5 hF
    dsimp only at hF
    rw [hx2] at hp6
    refine q_callVx C hfl mw_X8_teamWith mi_X8_teamWith me_X8_teamWith lk_X8_80 hc5 (rest := []) rfl rfl rfl (by decide) (by decide) rfl (q_dc (z := (2, .invokevirtual 80, 3, 0, 0)) tk_X8_secondsToZone 2 rfl) (Nat.le_of_ble_eq_true rfl) ⟨Nat.le_of_ble_eq_true rfl, Nat.le_of_ble_eq_true rfl⟩ ⟨Nat.le_of_ble_eq_true rfl, Nat.le_of_ble_eq_true rfl⟩ ?_
    exact q_xout C hT rfl (congrArg q_oxi hF.symm) (Nat.le_of_ble_eq_true rfl) (Nat.le_of_ble_eq_true rfl)
def F_X8_undo (σ : q_M) : (Int32 ⊕ String) × q_M := (if (σ 221 2) = 0 then ((.inr "java/lang/IllegalStateException"), σ) else (q_L (F_X2_popInto 0 σ) (fun σ2 : q_M => ((.inl (σ2 221 2)), σ2))))
def P_X8_undo (σ : q_M) : Prop := (((σ 221 2) = 0 → True) ∧ (¬ (σ 221 2) = 0 → ((P_X2_popInto 0 σ) ∧ True)))
set_option maxRecDepth 100000 in
theorem k_X8_undo {α β : Nat → Nat} {D : va_G} {κ : Nat → ClassId} (σ : q_M) (hP : P_X8_undo σ) : q_C α β D κ yX8_undo cX8_undo 1 (Option.some Jvm.ClassFile.FieldType.int) 6 107 1 6 [.ref 220] σ (q_oxi (F_X8_undo σ).1) (F_X8_undo σ).2 := by
  refine q_enter (own := RX8) (F := F_X8) (G := G_X8) (by decide +kernel) rfl Fok_X8 Gok_X8 (Nat.le_of_ble_eq_true rfl) (fun p l e s m args below meth c A hfl C hr hT => ?_)
  generalize hF : F_X8_undo σ = rr
  unfold F_X8_undo at hF
  refine q_go C tk_X8_undo [(0, 3)] [] (pc1 := 7) (σ1 := σ) (lv1 := [(0, .ref 220)]) (st1 := [.int (σ 221 2)]) rfl ⟨rfl, rfl, trivial⟩ ?_
  by_cases c1 : (σ 221 2) = 0
  · rw [if_pos c1] at hF
    refine q_go C tk_X8_undo [(3, 1)] [false] (pc1 := 10) (σ1 := σ) (lv1 := [(0, .ref 220)]) (st1 := []) rfl ⟨c1, trivial⟩ ?_
    exact q_throwW C hT hfl xk_IllegalStateException (is := 329) (List.mem_of_getElem? (l := q_msg) (i := 19) rfl) (q_dc (z := (10, .new 261, 3, 0, 0)) tk_X8_undo 4 rfl) (q_dc (z := (13, .dup, 1, 0, 0)) tk_X8_undo 5 rfl) (q_dc (z := (14, .ldc_w 329, 3, 0, 0)) tk_X8_undo 6 rfl) (q_dc (z := (17, .invokespecial 265, 3, 0, 0)) tk_X8_undo 7 rfl) (q_dc (z := (20, .athrow, 1, 0, 0)) tk_X8_undo 8 rfl) (Nat.le_of_ble_eq_true rfl) (Nat.le_of_ble_eq_true rfl) (Nat.le_of_ble_eq_true rfl) (Nat.le_of_ble_eq_true rfl) (Nat.le_of_ble_eq_true rfl) (congrArg Prod.snd hF) (congrArg (fun z => q_oxi z.1) hF.symm) (Nat.le_of_ble_eq_true rfl) (Nat.le_of_ble_eq_true rfl)
  · rw [if_neg c1] at hF
    refine q_go C tk_X8_undo [(3, 1), (9, 4)] [true] (pc1 := 29) (σ1 := σ) (lv1 := [(0, .ref 220)]) (st1 := [.ref 0, .ref 221]) rfl ⟨c1, rfl, rfl, trivial⟩ ?_
    refine q_callV C hfl mw_X2_popInto mi_X2_popInto me_X2_popInto lk_X8_331 (k_X2_popInto 0 σ rfl (hP.2 c1).1) (rest := []) rfl rfl rfl (by decide) (by decide) rfl (q_dc (z := (29, .invokevirtual 331, 3, 0, 0)) tk_X8_undo 13 rfl) (Nat.le_of_ble_eq_true rfl) ⟨Nat.le_of_ble_eq_true rfl, Nat.le_of_ble_eq_true rfl⟩ ⟨Nat.le_of_ble_eq_true rfl, Nat.le_of_ble_eq_true rfl⟩ ?_
    refine q_nrm 32 [] 0 0 rfl rfl rfl rfl ?_
    generalize e3 : (F_X2_popInto 0 σ) = σ2
    replace hF := q_let e3 hF
    refine q_go C tk_X8_undo [(14, 3)] [] (pc1 := 39) (σ1 := σ2) (lv1 := [(0, .ref 220)]) (st1 := [.int (σ2 221 2)]) rfl ⟨rfl, rfl, trivial⟩ ?_
    exact q_iret C hr (q_dc (z := (39, .ireturn, 1, 0, 0)) tk_X8_undo 17 rfl) (congrArg Prod.snd hF) (congrArg (fun z => q_oxi z.1) hF.symm) (Nat.le_of_ble_eq_true rfl) (Nat.le_of_ble_eq_true rfl)
def F_X8_save (σ : q_M) : (Int32) × q_M := (q_L (F_X4_copyFrom 40 0 σ) (fun σ1 : q_M => (q_L (q_up σ1 220 6 1) (fun σ3 : q_M => ((σ3 0 2), σ3)))))
def P_X8_save (σ : q_M) : Prop := ((P_X4_copyFrom 40 0 σ) ∧ True)
set_option maxRecDepth 100000 in
theorem k_X8_save {α β : Nat → Nat} {D : va_G} {κ : Nat → ClassId} (σ : q_M) (hP : P_X8_save σ) : q_C α β D κ yX8_save cX8_save 1 (Option.some Jvm.ClassFile.FieldType.int) 4 86 0 0 [.ref 220] σ (q_oi (F_X8_save σ).1) (F_X8_save σ).2 := by
  refine q_enter (own := RX8) (F := F_X8) (G := G_X8) (by decide +kernel) rfl Fok_X8 Gok_X8 (Nat.le_of_ble_eq_true rfl) (fun p l e s m args below meth c A hfl C hr hT => ?_)
  generalize hF : F_X8_save σ = rr
  unfold F_X8_save at hF
  refine q_go C tk_X8_save [(0, 4)] [] (pc1 := 8) (σ1 := σ) (lv1 := [(0, .ref 220)]) (st1 := [.ref 0, .ref 40]) rfl ⟨rfl, rfl, trivial⟩ ?_
  refine q_callV C hfl mw_X4_copyFrom mi_X4_copyFrom me_X4_copyFrom lk_X8_334 (k_X4_copyFrom 40 0 σ rfl rfl hP.1) (rest := []) rfl rfl rfl (by decide) (by decide) rfl (q_dc (z := (8, .invokevirtual 334, 3, 0, 0)) tk_X8_save 4 rfl) (Nat.le_of_ble_eq_true rfl) ⟨Nat.le_of_ble_eq_true rfl, Nat.le_of_ble_eq_true rfl⟩ ⟨Nat.le_of_ble_eq_true rfl, Nat.le_of_ble_eq_true rfl⟩ ?_
  refine q_nrm 11 [] 0 0 rfl rfl rfl rfl ?_
  generalize e2 : (F_X4_copyFrom 40 0 σ) = σ1
  replace hF := q_let e2 hF
  refine q_go C tk_X8_save [(5, 3)] [] (pc1 := 16) (σ1 := (q_up σ1 220 6 1)) (lv1 := [(0, .ref 220)]) (st1 := []) rfl ⟨rfl, (by decide), trivial⟩ ?_
  generalize e4 : (q_up σ1 220 6 1) = σ3
  replace hF := q_let e4 hF
  refine q_go C tk_X8_save [(8, 3)] [] (pc1 := 23) (σ1 := σ3) (lv1 := [(0, .ref 220)]) (st1 := [.int (σ3 0 2)]) rfl ⟨rfl, rfl, trivial⟩ ?_
  exact q_iret C hr (q_dc (z := (23, .ireturn, 1, 0, 0)) tk_X8_save 11 rfl) (congrArg Prod.snd hF) (congrArg (fun z => q_oi z.1) hF.symm) (Nat.le_of_ble_eq_true rfl) (Nat.le_of_ble_eq_true rfl)
def F_X8_restore (σ : q_M) : (Int32 ⊕ String) × q_M := (if (σ 220 6) = 0 then ((.inr "java/lang/IllegalStateException"), σ) else (q_L (F_X4_copyFrom 0 40 σ) (fun σ2 : q_M => (q_L (q_up σ2 221 2 0) (fun σ4 : q_M => ((.inl (σ4 0 2)), σ4))))))
def P_X8_restore (σ : q_M) : Prop := (((σ 220 6) = 0 → True) ∧ (¬ (σ 220 6) = 0 → ((P_X4_copyFrom 0 40 σ) ∧ True)))
set_option maxRecDepth 100000 in
theorem k_X8_restore {α β : Nat → Nat} {D : va_G} {κ : Nat → ClassId} (σ : q_M) (hP : P_X8_restore σ) : q_C α β D κ yX8_restore cX8_restore 1 (Option.some Jvm.ClassFile.FieldType.int) 6 90 1 6 [.ref 220] σ (q_oxi (F_X8_restore σ).1) (F_X8_restore σ).2 := by
  refine q_enter (own := RX8) (F := F_X8) (G := G_X8) (by decide +kernel) rfl Fok_X8 Gok_X8 (Nat.le_of_ble_eq_true rfl) (fun p l e s m args below meth c A hfl C hr hT => ?_)
  generalize hF : F_X8_restore σ = rr
  unfold F_X8_restore at hF
  refine q_go C tk_X8_restore [(0, 2)] [] (pc1 := 4) (σ1 := σ) (lv1 := [(0, .ref 220)]) (st1 := [.int (σ 220 6)]) rfl ⟨rfl, trivial⟩ ?_
  by_cases c1 : (σ 220 6) = 0
  · rw [if_pos c1] at hF
    refine q_go C tk_X8_restore [(2, 1)] [false] (pc1 := 7) (σ1 := σ) (lv1 := [(0, .ref 220)]) (st1 := []) rfl ⟨c1, trivial⟩ ?_
    exact q_throwW C hT hfl xk_IllegalStateException (is := 337) (List.mem_of_getElem? (l := q_msg) (i := 20) rfl) (q_dc (z := (7, .new 261, 3, 0, 0)) tk_X8_restore 3 rfl) (q_dc (z := (10, .dup, 1, 0, 0)) tk_X8_restore 4 rfl) (q_dc (z := (11, .ldc_w 337, 3, 0, 0)) tk_X8_restore 5 rfl) (q_dc (z := (14, .invokespecial 265, 3, 0, 0)) tk_X8_restore 6 rfl) (q_dc (z := (17, .athrow, 1, 0, 0)) tk_X8_restore 7 rfl) (Nat.le_of_ble_eq_true rfl) (Nat.le_of_ble_eq_true rfl) (Nat.le_of_ble_eq_true rfl) (Nat.le_of_ble_eq_true rfl) (Nat.le_of_ble_eq_true rfl) (congrArg Prod.snd hF) (congrArg (fun z => q_oxi z.1) hF.symm) (Nat.le_of_ble_eq_true rfl) (Nat.le_of_ble_eq_true rfl)
  · rw [if_neg c1] at hF
    refine q_go C tk_X8_restore [(2, 1), (8, 4)] [true] (pc1 := 26) (σ1 := σ) (lv1 := [(0, .ref 220)]) (st1 := [.ref 40, .ref 0]) rfl ⟨c1, rfl, rfl, trivial⟩ ?_
    refine q_callV C hfl mw_X4_copyFrom mi_X4_copyFrom me_X4_copyFrom lk_X8_334 (k_X4_copyFrom 0 40 σ rfl rfl (hP.2 c1).1) (rest := []) rfl rfl rfl (by decide) (by decide) rfl (q_dc (z := (26, .invokevirtual 334, 3, 0, 0)) tk_X8_restore 12 rfl) (Nat.le_of_ble_eq_true rfl) ⟨Nat.le_of_ble_eq_true rfl, Nat.le_of_ble_eq_true rfl⟩ ⟨Nat.le_of_ble_eq_true rfl, Nat.le_of_ble_eq_true rfl⟩ ?_
    refine q_nrm 29 [] 0 0 rfl rfl rfl rfl ?_
    generalize e3 : (F_X4_copyFrom 0 40 σ) = σ2
    replace hF := q_let e3 hF
    refine q_go C tk_X8_restore [(13, 4)] [] (pc1 := 37) (σ1 := (q_up σ2 221 2 0)) (lv1 := [(0, .ref 220)]) (st1 := []) rfl ⟨rfl, rfl, trivial⟩ ?_
    generalize e5 : (q_up σ2 221 2 0) = σ4
    replace hF := q_let e5 hF
    refine q_go C tk_X8_restore [(17, 3)] [] (pc1 := 44) (σ1 := σ4) (lv1 := [(0, .ref 220)]) (st1 := [.int (σ4 0 2)]) rfl ⟨rfl, rfl, trivial⟩ ?_
    exact q_iret C hr (q_dc (z := (44, .ireturn, 1, 0, 0)) tk_X8_restore 20 rfl) (congrArg Prod.snd hF) (congrArg (fun z => q_oxi z.1) hF.symm) (Nat.le_of_ble_eq_true rfl) (Nat.le_of_ble_eq_true rfl)
