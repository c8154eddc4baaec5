/-! The model: numbers. -/
def F_X9_numberX (v : Int32) (σ : q_M) : q_M := σ
def P_X9_numberX (v : Int32) (σ : q_M) : Prop := False
theorem k_X9_numberX {α β : Nat → Nat} {D : va_G} {κ : Nat → ClassId} (v : Int32) (σ : q_M) (hP : P_X9_numberX v σ) : q_C α β D κ yX9_number cX9_number 2 (Option.none : Option Jvm.ClassFile.FieldType) 1 40 0 0 [.ref 229, .int v] σ q_ov (F_X9_numberX v σ) := hP.elim
def F_X9_number0 (v : Int32) (σ : q_M) : q_M := (if v < 10 then (q_L (F_X9_puts (48 + (v - v / 10 * 10)) σ) (fun σ2 : q_M => σ2)) else (q_L (F_X9_numberX (v / 10) σ) (fun σ4 : q_M => (q_L (F_X9_puts (48 + (v - v / 10 * 10)) σ4) (fun σ6 : q_M => σ6)))))
def P_X9_number0 (v : Int32) (σ : q_M) : Prop := ((v < 10 → ((P_X9_puts (48 + (v - v / 10 * 10)) σ) ∧ True)) ∧ (¬ v < 10 → ((P_X9_numberX (v / 10) σ) ∧ (∀ σ4 : q_M, (F_X9_numberX (v / 10) σ) = σ4 → ((P_X9_puts (48 + (v - v / 10 * 10)) σ4) ∧ True)))))
set_option maxRecDepth 100000 in
theorem k_X9_number0 {α β : Nat → Nat} {D : va_G} {κ : Nat → ClassId} (v : Int32) (σ : q_M) (hP : P_X9_number0 v σ) : q_C α β D κ yX9_number cX9_number 2 (Option.none : Option Jvm.ClassFile.FieldType) 2 61 0 0 [.ref 229, .int v] σ q_ov (F_X9_number0 v σ) := by
  refine q_enter (own := RX9) (F := F_X9) (G := G_X9) (by decide +kernel) rfl Fok_X9 Gok_X9 (Nat.le_of_ble_eq_true rfl) (fun p l e s m args below meth c A hfl C hr hT => ?_)
  generalize hF : F_X9_number0 v σ = rr
  unfold F_X9_number0 at hF
  refine q_go C tk_X9_number [(0, 2)] [] (pc1 := 3) (σ1 := σ) (lv1 := [(0, .ref 229), (1, .int v)]) (st1 := [.int 10, .int v]) rfl trivial ?_
  by_cases c1 : v < 10
  · rw [if_pos c1] at hF
    refine q_go C tk_X9_number [(2, 1), (8, 6)] [true] (pc1 := 22) (σ1 := σ) (lv1 := [(0, .ref 229), (1, .int v)]) (st1 := [.int (48 + (v - v / 10 * 10)), .ref 229]) rfl ⟨c1, (by decide), trivial⟩ ?_
    refine q_callV C hfl mw_X9_puts mi_X9_puts me_X9_puts lk_X9_173 (k_X9_puts (48 + (v - v / 10 * 10)) σ (hP.1 c1).1) (rest := []) rfl rfl rfl (by decide) (by decide) rfl (q_dc (z := (22, .invokevirtual 173, 3, 0, 0)) tk_X9_number 14 rfl) (Nat.le_of_ble_eq_true rfl) ⟨Nat.le_of_ble_eq_true rfl, Nat.le_of_ble_eq_true rfl⟩ ⟨Nat.le_of_ble_eq_true rfl, Nat.le_of_ble_eq_true rfl⟩ ?_
    refine q_nrm 25 [] 0 0 rfl rfl rfl rfl ?_
    generalize e3 : (F_X9_puts (48 + (v - v / 10 * 10)) σ) = σ2
    replace hF := q_let e3 hF
    exact q_vret C hr (q_dc (z := (25, .return_, 1, 0, 0)) tk_X9_number 15 rfl) hF rfl (Nat.le_of_ble_eq_true rfl) (Nat.le_of_ble_eq_true rfl)
  · rw [if_neg c1] at hF
    refine q_go C tk_X9_number [(2, 5)] [false] (pc1 := 11) (σ1 := σ) (lv1 := [(0, .ref 229), (1, .int v)]) (st1 := [.int (v / 10), .ref 229]) rfl ⟨c1, (by decide), trivial⟩ ?_
    refine q_callV C hfl mw_X9_number mi_X9_number me_X9_number lk_X9_170 (k_X9_numberX (v / 10) σ (hP.2 c1).1) (rest := []) rfl rfl rfl (by decide) (by decide) rfl (q_dc (z := (11, .invokevirtual 170, 3, 0, 0)) tk_X9_number 7 rfl) (Nat.le_of_ble_eq_true rfl) ⟨Nat.le_of_ble_eq_true rfl, Nat.le_of_ble_eq_true rfl⟩ ⟨Nat.le_of_ble_eq_true rfl, Nat.le_of_ble_eq_true rfl⟩ ?_
    refine q_nrm 14 [] 0 0 rfl rfl rfl rfl ?_
    generalize e5 : (F_X9_numberX (v / 10) σ) = σ4
    replace hF := q_let e5 hF
    refine q_go C tk_X9_number [(8, 6)] [] (pc1 := 22) (σ1 := σ4) (lv1 := [(0, .ref 229), (1, .int v)]) (st1 := [.int (48 + (v - v / 10 * 10)), .ref 229]) rfl ⟨(by decide), trivial⟩ ?_
    refine q_callV C hfl mw_X9_puts mi_X9_puts me_X9_puts lk_X9_173 (k_X9_puts (48 + (v - v / 10 * 10)) σ4 ((hP.2 c1).2 σ4 e5).1) (rest := []) rfl rfl rfl (by decide) (by decide) rfl (q_dc (z := (22, .invokevirtual 173, 3, 0, 0)) tk_X9_number 14 rfl) (Nat.le_of_ble_eq_true rfl) ⟨Nat.le_of_ble_eq_true rfl, Nat.le_of_ble_eq_true rfl⟩ ⟨Nat.le_of_ble_eq_true rfl, Nat.le_of_ble_eq_true rfl⟩ ?_
    refine q_nrm 25 [] 0 0 rfl rfl rfl rfl ?_
    generalize e7 : (F_X9_puts (48 + (v - v / 10 * 10)) σ4) = σ6
    replace hF := q_let e7 hF
    exact q_vret C hr (q_dc (z := (25, .return_, 1, 0, 0)) tk_X9_number 15 rfl) hF rfl (Nat.le_of_ble_eq_true rfl) (Nat.le_of_ble_eq_true rfl)
def F_X9_number1 (v : Int32) (σ : q_M) : q_M := (if v < 10 then (q_L (F_X9_puts (48 + (v - v / 10 * 10)) σ) (fun σ2 : q_M => σ2)) else (q_L (F_X9_number0 (v / 10) σ) (fun σ4 : q_M => (q_L (F_X9_puts (48 + (v - v / 10 * 10)) σ4) (fun σ6 : q_M => σ6)))))
def P_X9_number1 (v : Int32) (σ : q_M) : Prop := ((v < 10 → ((P_X9_puts (48 + (v - v / 10 * 10)) σ) ∧ True)) ∧ (¬ v < 10 → ((P_X9_number0 (v / 10) σ) ∧ (∀ σ4 : q_M, (F_X9_number0 (v / 10) σ) = σ4 → ((P_X9_puts (48 + (v - v / 10 * 10)) σ4) ∧ True)))))
set_option maxRecDepth 100000 in
theorem k_X9_number1 {α β : Nat → Nat} {D : va_G} {κ : Nat → ClassId} (v : Int32) (σ : q_M) (hP : P_X9_number1 v σ) : q_C α β D κ yX9_number cX9_number 2 (Option.none : Option Jvm.ClassFile.FieldType) 3 82 0 0 [.ref 229, .int v] σ q_ov (F_X9_number1 v σ) := by
  refine q_enter (own := RX9) (F := F_X9) (G := G_X9) (by decide +kernel) rfl Fok_X9 Gok_X9 (Nat.le_of_ble_eq_true rfl) (fun p l e s m args below meth c A hfl C hr hT => ?_)
  generalize hF : F_X9_number1 v σ = rr
  unfold F_X9_number1 at hF
  refine q_go C tk_X9_number [(0, 2)] [] (pc1 := 3) (σ1 := σ) (lv1 := [(0, .ref 229), (1, .int v)]) (st1 := [.int 10, .int v]) rfl trivial ?_
  by_cases c1 : v < 10
  · rw [if_pos c1] at hF
    refine q_go C tk_X9_number [(2, 1), (8, 6)] [true] (pc1 := 22) (σ1 := σ) (lv1 := [(0, .ref 229), (1, .int v)]) (st1 := [.int (48 + (v - v / 10 * 10)), .ref 229]) rfl ⟨c1, (by decide), trivial⟩ ?_
    refine q_callV C hfl mw_X9_puts mi_X9_puts me_X9_puts lk_X9_173 (k_X9_puts (48 + (v - v / 10 * 10)) σ (hP.1 c1).1) (rest := []) rfl rfl rfl (by decide) (by decide) rfl (q_dc (z := (22, .invokevirtual 173, 3, 0, 0)) tk_X9_number 14 rfl) (Nat.le_of_ble_eq_true rfl) ⟨Nat.le_of_ble_eq_true rfl, Nat.le_of_ble_eq_true rfl⟩ ⟨Nat.le_of_ble_eq_true rfl, Nat.le_of_ble_eq_true rfl⟩ ?_
    refine q_nrm 25 [] 0 0 rfl rfl rfl rfl ?_
    generalize e3 : (F_X9_puts (48 + (v - v / 10 * 10)) σ) = σ2
    replace hF := q_let e3 hF
    exact q_vret C hr (q_dc (z := (25, .return_, 1, 0, 0)) tk_X9_number 15 rfl) hF rfl (Nat.le_of_ble_eq_true rfl) (Nat.le_of_ble_eq_true rfl)
  · rw [if_neg c1] at hF
    refine q_go C tk_X9_number [(2, 5)] [false] (pc1 := 11) (σ1 := σ) (lv1 := [(0, .ref 229), (1, .int v)]) (st1 := [.int (v / 10), .ref 229]) rfl ⟨c1, (by decide), trivial⟩ ?_
    refine q_callV C hfl mw_X9_number mi_X9_number me_X9_number lk_X9_170 (k_X9_number0 (v / 10) σ (hP.2 c1).1) (rest := []) rfl rfl rfl (by decide) (by decide) rfl (q_dc (z := (11, .invokevirtual 170, 3, 0, 0)) tk_X9_number 7 rfl) (Nat.le_of_ble_eq_true rfl) ⟨Nat.le_of_ble_eq_true rfl, Nat.le_of_ble_eq_true rfl⟩ ⟨Nat.le_of_ble_eq_true rfl, Nat.le_of_ble_eq_true rfl⟩ ?_
    refine q_nrm 14 [] 0 0 rfl rfl rfl rfl ?_
    generalize e5 : (F_X9_number0 (v / 10) σ) = σ4
    replace hF := q_let e5 hF
    refine q_go C tk_X9_number [(8, 6)] [] (pc1 := 22) (σ1 := σ4) (lv1 := [(0, .ref 229), (1, .int v)]) (st1 := [.int (48 + (v - v / 10 * 10)), .ref 229]) rfl ⟨(by decide), trivial⟩ ?_
    refine q_callV C hfl mw_X9_puts mi_X9_puts me_X9_puts lk_X9_173 (k_X9_puts (48 + (v - v / 10 * 10)) σ4 ((hP.2 c1).2 σ4 e5).1) (rest := []) rfl rfl rfl (by decide) (by decide) rfl (q_dc (z := (22, .invokevirtual 173, 3, 0, 0)) tk_X9_number 14 rfl) (Nat.le_of_ble_eq_true rfl) ⟨Nat.le_of_ble_eq_true rfl, Nat.le_of_ble_eq_true rfl⟩ ⟨Nat.le_of_ble_eq_true rfl, Nat.le_of_ble_eq_true rfl⟩ ?_
    refine q_nrm 25 [] 0 0 rfl rfl rfl rfl ?_
    generalize e7 : (F_X9_puts (48 + (v - v / 10 * 10)) σ4) = σ6
    replace hF := q_let e7 hF
    exact q_vret C hr (q_dc (z := (25, .return_, 1, 0, 0)) tk_X9_number 15 rfl) hF rfl (Nat.le_of_ble_eq_true rfl) (Nat.le_of_ble_eq_true rfl)
def F_X9_number2 (v : Int32) (σ : q_M) : q_M := (if v < 10 then (q_L (F_X9_puts (48 + (v - v / 10 * 10)) σ) (fun σ2 : q_M => σ2)) else (q_L (F_X9_number1 (v / 10) σ) (fun σ4 : q_M => (q_L (F_X9_puts (48 + (v - v / 10 * 10)) σ4) (fun σ6 : q_M => σ6)))))
def P_X9_number2 (v : Int32) (σ : q_M) : Prop := ((v < 10 → ((P_X9_puts (48 + (v - v / 10 * 10)) σ) ∧ True)) ∧ (¬ v < 10 → ((P_X9_number1 (v / 10) σ) ∧ (∀ σ4 : q_M, (F_X9_number1 (v / 10) σ) = σ4 → ((P_X9_puts (48 + (v - v / 10 * 10)) σ4) ∧ True)))))
set_option maxRecDepth 100000 in
theorem k_X9_number2 {α β : Nat → Nat} {D : va_G} {κ : Nat → ClassId} (v : Int32) (σ : q_M) (hP : P_X9_number2 v σ) : q_C α β D κ yX9_number cX9_number 2 (Option.none : Option Jvm.ClassFile.FieldType) 4 103 0 0 [.ref 229, .int v] σ q_ov (F_X9_number2 v σ) := by
  refine q_enter (own := RX9) (F := F_X9) (G := G_X9) (by decide +kernel) rfl Fok_X9 Gok_X9 (Nat.le_of_ble_eq_true rfl) (fun p l e s m args below meth c A hfl C hr hT => ?_)
  generalize hF : F_X9_number2 v σ = rr
  unfold F_X9_number2 at hF
  refine q_go C tk_X9_number [(0, 2)] [] (pc1 := 3) (σ1 := σ) (lv1 := [(0, .ref 229), (1, .int v)]) (st1 := [.int 10, .int v]) rfl trivial ?_
  by_cases c1 : v < 10
  · rw [if_pos c1] at hF
    refine q_go C tk_X9_number [(2, 1), (8, 6)] [true] (pc1 := 22) (σ1 := σ) (lv1 := [(0, .ref 229), (1, .int v)]) (st1 := [.int (48 + (v - v / 10 * 10)), .ref 229]) rfl ⟨c1, (by decide), trivial⟩ ?_
    refine q_callV C hfl mw_X9_puts mi_X9_puts me_X9_puts lk_X9_173 (k_X9_puts (48 + (v - v / 10 * 10)) σ (hP.1 c1).1) (rest := []) rfl rfl rfl (by decide) (by decide) rfl (q_dc (z := (22, .invokevirtual 173, 3, 0, 0)) tk_X9_number 14 rfl) (Nat.le_of_ble_eq_true rfl) ⟨Nat.le_of_ble_eq_true rfl, Nat.le_of_ble_eq_true rfl⟩ ⟨Nat.le_of_ble_eq_true rfl, Nat.le_of_ble_eq_true rfl⟩ ?_
    refine q_nrm 25 [] 0 0 rfl rfl rfl rfl ?_
    generalize e3 : (F_X9_puts (48 + (v - v / 10 * 10)) σ) = σ2
    replace hF := q_let e3 hF
    exact q_vret C hr (q_dc (z := (25, .return_, 1, 0, 0)) tk_X9_number 15 rfl) hF rfl (Nat.le_of_ble_eq_true rfl) (Nat.le_of_ble_eq_true rfl)
  · rw [if_neg c1] at hF
    refine q_go C tk_X9_number [(2, 5)] [false] (pc1 := 11) (σ1 := σ) (lv1 := [(0, .ref 229), (1, .int v)]) (st1 := [.int (v / 10), .ref 229]) rfl ⟨c1, (by decide), trivial⟩ ?_
    refine q_callV C hfl mw_X9_number mi_X9_number me_X9_number lk_X9_170 (k_X9_number1 (v / 10) σ (hP.2 c1).1) (rest := []) rfl rfl rfl (by decide) (by decide) rfl (q_dc (z := (11, .invokevirtual 170, 3, 0, 0)) tk_X9_number 7 rfl) (Nat.le_of_ble_eq_true rfl) ⟨Nat.le_of_ble_eq_true rfl, Nat.le_of_ble_eq_true rfl⟩ ⟨Nat.le_of_ble_eq_true rfl, Nat.le_of_ble_eq_true rfl⟩ ?_
    refine q_nrm 14 [] 0 0 rfl rfl rfl rfl ?_
    generalize e5 : (F_X9_number1 (v / 10) σ) = σ4
    replace hF := q_let e5 hF
    refine q_go C tk_X9_number [(8, 6)] [] (pc1 := 22) (σ1 := σ4) (lv1 := [(0, .ref 229), (1, .int v)]) (st1 := [.int (48 + (v - v / 10 * 10)), .ref 229]) rfl ⟨(by decide), trivial⟩ ?_
    refine q_callV C hfl mw_X9_puts mi_X9_puts me_X9_puts lk_X9_173 (k_X9_puts (48 + (v - v / 10 * 10)) σ4 ((hP.2 c1).2 σ4 e5).1) (rest := []) rfl rfl rfl (by decide) (by decide) rfl (q_dc (z := (22, .invokevirtual 173, 3, 0, 0)) tk_X9_number 14 rfl) (Nat.le_of_ble_eq_true rfl) ⟨Nat.le_of_ble_eq_true rfl, Nat.le_of_ble_eq_true rfl⟩ ⟨Nat.le_of_ble_eq_true rfl, Nat.le_of_ble_eq_true rfl⟩ ?_
    refine q_nrm 25 [] 0 0 rfl rfl rfl rfl ?_
    generalize e7 : (F_X9_puts (48 + (v - v / 10 * 10)) σ4) = σ6
    replace hF := q_let e7 hF
    exact q_vret C hr (q_dc (z := (25, .return_, 1, 0, 0)) tk_X9_number 15 rfl) hF rfl (Nat.le_of_ble_eq_true rfl) (Nat.le_of_ble_eq_true rfl)
def F_X9_number3 (v : Int32) (σ : q_M) : q_M := (if v < 10 then (q_L (F_X9_puts (48 + (v - v / 10 * 10)) σ) (fun σ2 : q_M => σ2)) else (q_L (F_X9_number2 (v / 10) σ) (fun σ4 : q_M => (q_L (F_X9_puts (48 + (v - v / 10 * 10)) σ4) (fun σ6 : q_M => σ6)))))
def P_X9_number3 (v : Int32) (σ : q_M) : Prop := ((v < 10 → ((P_X9_puts (48 + (v - v / 10 * 10)) σ) ∧ True)) ∧ (¬ v < 10 → ((P_X9_number2 (v / 10) σ) ∧ (∀ σ4 : q_M, (F_X9_number2 (v / 10) σ) = σ4 → ((P_X9_puts (48 + (v - v / 10 * 10)) σ4) ∧ True)))))
set_option maxRecDepth 100000 in
theorem k_X9_number3 {α β : Nat → Nat} {D : va_G} {κ : Nat → ClassId} (v : Int32) (σ : q_M) (hP : P_X9_number3 v σ) : q_C α β D κ yX9_number cX9_number 2 (Option.none : Option Jvm.ClassFile.FieldType) 5 124 0 0 [.ref 229, .int v] σ q_ov (F_X9_number3 v σ) := by
  refine q_enter (own := RX9) (F := F_X9) (G := G_X9) (by decide +kernel) rfl Fok_X9 Gok_X9 (Nat.le_of_ble_eq_true rfl) (fun p l e s m args below meth c A hfl C hr hT => ?_)
  generalize hF : F_X9_number3 v σ = rr
  unfold F_X9_number3 at hF
  refine q_go C tk_X9_number [(0, 2)] [] (pc1 := 3) (σ1 := σ) (lv1 := [(0, .ref 229), (1, .int v)]) (st1 := [.int 10, .int v]) rfl trivial ?_
  by_cases c1 : v < 10
  · rw [if_pos c1] at hF
    refine q_go C tk_X9_number [(2, 1), (8, 6)] [true] (pc1 := 22) (σ1 := σ) (lv1 := [(0, .ref 229), (1, .int v)]) (st1 := [.int (48 + (v - v / 10 * 10)), .ref 229]) rfl ⟨c1, (by decide), trivial⟩ ?_
    refine q_callV C hfl mw_X9_puts mi_X9_puts me_X9_puts lk_X9_173 (k_X9_puts (48 + (v - v / 10 * 10)) σ (hP.1 c1).1) (rest := []) rfl rfl rfl (by decide) (by decide) rfl (q_dc (z := (22, .invokevirtual 173, 3, 0, 0)) tk_X9_number 14 rfl) (Nat.le_of_ble_eq_true rfl) ⟨Nat.le_of_ble_eq_true rfl, Nat.le_of_ble_eq_true rfl⟩ ⟨Nat.le_of_ble_eq_true rfl, Nat.le_of_ble_eq_true rfl⟩ ?_
    refine q_nrm 25 [] 0 0 rfl rfl rfl rfl ?_
    generalize e3 : (F_X9_puts (48 + (v - v / 10 * 10)) σ) = σ2
    replace hF := q_let e3 hF
    exact q_vret C hr (q_dc (z := (25, .return_, 1, 0, 0)) tk_X9_number 15 rfl) hF rfl (Nat.le_of_ble_eq_true rfl) (Nat.le_of_ble_eq_true rfl)
  · rw [if_neg c1] at hF
    refine q_go C tk_X9_number [(2, 5)] [false] (pc1 := 11) (σ1 := σ) (lv1 := [(0, .ref 229), (1, .int v)]) (st1 := [.int (v / 10), .ref 229]) rfl ⟨c1, (by decide), trivial⟩ ?_
    refine q_callV C hfl mw_X9_number mi_X9_number me_X9_number lk_X9_170 (k_X9_number2 (v / 10) σ (hP.2 c1).1) (rest := []) rfl rfl rfl (by decide) (by decide) rfl (q_dc (z := (11, .invokevirtual 170, 3, 0, 0)) tk_X9_number 7 rfl) (Nat.le_of_ble_eq_true rfl) ⟨Nat.le_of_ble_eq_true rfl, Nat.le_of_ble_eq_true rfl⟩ ⟨Nat.le_of_ble_eq_true rfl, Nat.le_of_ble_eq_true rfl⟩ ?_
    refine q_nrm 14 [] 0 0 rfl rfl rfl rfl ?_
    generalize e5 : (F_X9_number2 (v / 10) σ) = σ4
    replace hF := q_let e5 hF
    refine q_go C tk_X9_number [(8, 6)] [] (pc1 := 22) (σ1 := σ4) (lv1 := [(0, .ref 229), (1, .int v)]) (st1 := [.int (48 + (v - v / 10 * 10)), .ref 229]) rfl ⟨(by decide), trivial⟩ ?_
    refine q_callV C hfl mw_X9_puts mi_X9_puts me_X9_puts lk_X9_173 (k_X9_puts (48 + (v - v / 10 * 10)) σ4 ((hP.2 c1).2 σ4 e5).1) (rest := []) rfl rfl rfl (by decide) (by decide) rfl (q_dc (z := (22, .invokevirtual 173, 3, 0, 0)) tk_X9_number 14 rfl) (Nat.le_of_ble_eq_true rfl) ⟨Nat.le_of_ble_eq_true rfl, Nat.le_of_ble_eq_true rfl⟩ ⟨Nat.le_of_ble_eq_true rfl, Nat.le_of_ble_eq_true rfl⟩ ?_
    refine q_nrm 25 [] 0 0 rfl rfl rfl rfl ?_
    generalize e7 : (F_X9_puts (48 + (v - v / 10 * 10)) σ4) = σ6
    replace hF := q_let e7 hF
    exact q_vret C hr (q_dc (z := (25, .return_, 1, 0, 0)) tk_X9_number 15 rfl) hF rfl (Nat.le_of_ble_eq_true rfl) (Nat.le_of_ble_eq_true rfl)
def F_X9_number4 (v : Int32) (σ : q_M) : q_M := (if v < 10 then (q_L (F_X9_puts (48 + (v - v / 10 * 10)) σ) (fun σ2 : q_M => σ2)) else (q_L (F_X9_number3 (v / 10) σ) (fun σ4 : q_M => (q_L (F_X9_puts (48 + (v - v / 10 * 10)) σ4) (fun σ6 : q_M => σ6)))))
def P_X9_number4 (v : Int32) (σ : q_M) : Prop := ((v < 10 → ((P_X9_puts (48 + (v - v / 10 * 10)) σ) ∧ True)) ∧ (¬ v < 10 → ((P_X9_number3 (v / 10) σ) ∧ (∀ σ4 : q_M, (F_X9_number3 (v / 10) σ) = σ4 → ((P_X9_puts (48 + (v - v / 10 * 10)) σ4) ∧ True)))))
set_option maxRecDepth 100000 in
theorem k_X9_number4 {α β : Nat → Nat} {D : va_G} {κ : Nat → ClassId} (v : Int32) (σ : q_M) (hP : P_X9_number4 v σ) : q_C α β D κ yX9_number cX9_number 2 (Option.none : Option Jvm.ClassFile.FieldType) 6 145 0 0 [.ref 229, .int v] σ q_ov (F_X9_number4 v σ) := by
  refine q_enter (own := RX9) (F := F_X9) (G := G_X9) (by decide +kernel) rfl Fok_X9 Gok_X9 (Nat.le_of_ble_eq_true rfl) (fun p l e s m args below meth c A hfl C hr hT => ?_)
  generalize hF : F_X9_number4 v σ = rr
  unfold F_X9_number4 at hF
  refine q_go C tk_X9_number [(0, 2)] [] (pc1 := 3) (σ1 := σ) (lv1 := [(0, .ref 229), (1, .int v)]) (st1 := [.int 10, .int v]) rfl trivial ?_
  by_cases c1 : v < 10
  · rw [if_pos c1] at hF
    refine q_go C tk_X9_number [(2, 1), (8, 6)] [true] (pc1 := 22) (σ1 := σ) (lv1 := [(0, .ref 229), (1, .int v)]) (st1 := [.int (48 + (v - v / 10 * 10)), .ref 229]) rfl ⟨c1, (by decide), trivial⟩ ?_
    refine q_callV C hfl mw_X9_puts mi_X9_puts me_X9_puts lk_X9_173 (k_X9_puts (48 + (v - v / 10 * 10)) σ (hP.1 c1).1) (rest := []) rfl rfl rfl (by decide) (by decide) rfl (q_dc (z := (22, .invokevirtual 173, 3, 0, 0)) tk_X9_number 14 rfl) (Nat.le_of_ble_eq_true rfl) ⟨Nat.le_of_ble_eq_true rfl, Nat.le_of_ble_eq_true rfl⟩ ⟨Nat.le_of_ble_eq_true rfl, Nat.le_of_ble_eq_true rfl⟩ ?_
    refine q_nrm 25 [] 0 0 rfl rfl rfl rfl ?_
    generalize e3 : (F_X9_puts (48 + (v - v / 10 * 10)) σ) = σ2
    replace hF := q_let e3 hF
    exact q_vret C hr (q_dc (z := (25, .return_, 1, 0, 0)) tk_X9_number 15 rfl) hF rfl (Nat.le_of_ble_eq_true rfl) (Nat.le_of_ble_eq_true rfl)
  · rw [if_neg c1] at hF
    refine q_go C tk_X9_number [(2, 5)] [false] (pc1 := 11) (σ1 := σ) (lv1 := [(0, .ref 229), (1, .int v)]) (st1 := [.int (v / 10), .ref 229]) rfl ⟨c1, (by decide), trivial⟩ ?_
    refine q_callV C hfl mw_X9_number mi_X9_number me_X9_number lk_X9_170 (k_X9_number3 (v / 10) σ (hP.2 c1).1) (rest := []) rfl rfl rfl (by decide) (by decide) rfl (q_dc (z := (11, .invokevirtual 170, 3, 0, 0)) tk_X9_number 7 rfl) (Nat.le_of_ble_eq_true rfl) ⟨Nat.le_of_ble_eq_true rfl, Nat.le_of_ble_eq_true rfl⟩ ⟨Nat.le_of_ble_eq_true rfl, Nat.le_of_ble_eq_true rfl⟩ ?_
    refine q_nrm 14 [] 0 0 rfl rfl rfl rfl ?_
    generalize e5 : (F_X9_number3 (v / 10) σ) = σ4
    replace hF := q_let e5 hF
    refine q_go C tk_X9_number [(8, 6)] [] (pc1 := 22) (σ1 := σ4) (lv1 := [(0, .ref 229), (1, .int v)]) (st1 := [.int (48 + (v - v / 10 * 10)), .ref 229]) rfl ⟨(by decide), trivial⟩ ?_
    refine q_callV C hfl mw_X9_puts mi_X9_puts me_X9_puts lk_X9_173 (k_X9_puts (48 + (v - v / 10 * 10)) σ4 ((hP.2 c1).2 σ4 e5).1) (rest := []) rfl rfl rfl (by decide) (by decide) rfl (q_dc (z := (22, .invokevirtual 173, 3, 0, 0)) tk_X9_number 14 rfl) (Nat.le_of_ble_eq_true rfl) ⟨Nat.le_of_ble_eq_true rfl, Nat.le_of_ble_eq_true rfl⟩ ⟨Nat.le_of_ble_eq_true rfl, Nat.le_of_ble_eq_true rfl⟩ ?_
    refine q_nrm 25 [] 0 0 rfl rfl rfl rfl ?_
    generalize e7 : (F_X9_puts (48 + (v - v / 10 * 10)) σ4) = σ6
    replace hF := q_let e7 hF
    exact q_vret C hr (q_dc (z := (25, .return_, 1, 0, 0)) tk_X9_number 15 rfl) hF rfl (Nat.le_of_ble_eq_true rfl) (Nat.le_of_ble_eq_true rfl)
def F_X9_number5 (v : Int32) (σ : q_M) : q_M := (if v < 10 then (q_L (F_X9_puts (48 + (v - v / 10 * 10)) σ) (fun σ2 : q_M => σ2)) else (q_L (F_X9_number4 (v / 10) σ) (fun σ4 : q_M => (q_L (F_X9_puts (48 + (v - v / 10 * 10)) σ4) (fun σ6 : q_M => σ6)))))
def P_X9_number5 (v : Int32) (σ : q_M) : Prop := ((v < 10 → ((P_X9_puts (48 + (v - v / 10 * 10)) σ) ∧ True)) ∧ (¬ v < 10 → ((P_X9_number4 (v / 10) σ) ∧ (∀ σ4 : q_M, (F_X9_number4 (v / 10) σ) = σ4 → ((P_X9_puts (48 + (v - v / 10 * 10)) σ4) ∧ True)))))
set_option maxRecDepth 100000 in
theorem k_X9_number5 {α β : Nat → Nat} {D : va_G} {κ : Nat → ClassId} (v : Int32) (σ : q_M) (hP : P_X9_number5 v σ) : q_C α β D κ yX9_number cX9_number 2 (Option.none : Option Jvm.ClassFile.FieldType) 7 166 0 0 [.ref 229, .int v] σ q_ov (F_X9_number5 v σ) := by
  refine q_enter (own := RX9) (F := F_X9) (G := G_X9) (by decide +kernel) rfl Fok_X9 Gok_X9 (Nat.le_of_ble_eq_true rfl) (fun p l e s m args below meth c A hfl C hr hT => ?_)
  generalize hF : F_X9_number5 v σ = rr
  unfold F_X9_number5 at hF
  refine q_go C tk_X9_number [(0, 2)] [] (pc1 := 3) (σ1 := σ) (lv1 := [(0, .ref 229), (1, .int v)]) (st1 := [.int 10, .int v]) rfl trivial ?_
  by_cases c1 : v < 10
  · rw [if_pos c1] at hF
    refine q_go C tk_X9_number [(2, 1), (8, 6)] [true] (pc1 := 22) (σ1 := σ) (lv1 := [(0, .ref 229), (1, .int v)]) (st1 := [.int (48 + (v - v / 10 * 10)), .ref 229]) rfl ⟨c1, (by decide), trivial⟩ ?_
    refine q_callV C hfl mw_X9_puts mi_X9_puts me_X9_puts lk_X9_173 (k_X9_puts (48 + (v - v / 10 * 10)) σ (hP.1 c1).1) (rest := []) rfl rfl rfl (by decide) (by decide) rfl (q_dc (z := (22, .invokevirtual 173, 3, 0, 0)) tk_X9_number 14 rfl) (Nat.le_of_ble_eq_true rfl) ⟨Nat.le_of_ble_eq_true rfl, Nat.le_of_ble_eq_true rfl⟩ ⟨Nat.le_of_ble_eq_true rfl, Nat.le_of_ble_eq_true rfl⟩ ?_
    refine q_nrm 25 [] 0 0 rfl rfl rfl rfl ?_
    generalize e3 : (F_X9_puts (48 + (v - v / 10 * 10)) σ) = σ2
    replace hF := q_let e3 hF
    exact q_vret C hr (q_dc (z := (25, .return_, 1, 0, 0)) tk_X9_number 15 rfl) hF rfl (Nat.le_of_ble_eq_true rfl) (Nat.le_of_ble_eq_true rfl)
  · rw [if_neg c1] at hF
    refine q_go C tk_X9_number [(2, 5)] [false] (pc1 := 11) (σ1 := σ) (lv1 := [(0, .ref 229), (1, .int v)]) (st1 := [.int (v / 10), .ref 229]) rfl ⟨c1, (by decide), trivial⟩ ?_
    refine q_callV C hfl mw_X9_number mi_X9_number me_X9_number lk_X9_170 (k_X9_number4 (v / 10) σ (hP.2 c1).1) (rest := []) rfl rfl rfl (by decide) (by decide) rfl (q_dc (z := (11, .invokevirtual 170, 3, 0, 0)) tk_X9_number 7 rfl) (Nat.le_of_ble_eq_true rfl) ⟨Nat.le_of_ble_eq_true rfl, Nat.le_of_ble_eq_true rfl⟩ ⟨Nat.le_of_ble_eq_true rfl, Nat.le_of_ble_eq_true rfl⟩ ?_
    refine q_nrm 14 [] 0 0 rfl rfl rfl rfl ?_
    generalize e5 : (F_X9_number4 (v / 10) σ) = σ4
    replace hF := q_let e5 hF
    refine q_go C tk_X9_number [(8, 6)] [] (pc1 := 22) (σ1 := σ4) (lv1 := [(0, .ref 229), (1, .int v)]) (st1 := [.int (48 + (v - v / 10 * 10)), .ref 229]) rfl ⟨(by decide), trivial⟩ ?_
    refine q_callV C hfl mw_X9_puts mi_X9_puts me_X9_puts lk_X9_173 (k_X9_puts (48 + (v - v / 10 * 10)) σ4 ((hP.2 c1).2 σ4 e5).1) (rest := []) rfl rfl rfl (by decide) (by decide) rfl (q_dc (z := (22, .invokevirtual 173, 3, 0, 0)) tk_X9_number 14 rfl) (Nat.le_of_ble_eq_true rfl) ⟨Nat.le_of_ble_eq_true rfl, Nat.le_of_ble_eq_true rfl⟩ ⟨Nat.le_of_ble_eq_true rfl, Nat.le_of_ble_eq_true rfl⟩ ?_
    refine q_nrm 25 [] 0 0 rfl rfl rfl rfl ?_
    generalize e7 : (F_X9_puts (48 + (v - v / 10 * 10)) σ4) = σ6
    replace hF := q_let e7 hF
    exact q_vret C hr (q_dc (z := (25, .return_, 1, 0, 0)) tk_X9_number 15 rfl) hF rfl (Nat.le_of_ble_eq_true rfl) (Nat.le_of_ble_eq_true rfl)
def F_X9_number6 (v : Int32) (σ : q_M) : q_M := (if v < 10 then (q_L (F_X9_puts (48 + (v - v / 10 * 10)) σ) (fun σ2 : q_M => σ2)) else (q_L (F_X9_number5 (v / 10) σ) (fun σ4 : q_M => (q_L (F_X9_puts (48 + (v - v / 10 * 10)) σ4) (fun σ6 : q_M => σ6)))))
def P_X9_number6 (v : Int32) (σ : q_M) : Prop := ((v < 10 → ((P_X9_puts (48 + (v - v / 10 * 10)) σ) ∧ True)) ∧ (¬ v < 10 → ((P_X9_number5 (v / 10) σ) ∧ (∀ σ4 : q_M, (F_X9_number5 (v / 10) σ) = σ4 → ((P_X9_puts (48 + (v - v / 10 * 10)) σ4) ∧ True)))))
set_option maxRecDepth 100000 in
theorem k_X9_number6 {α β : Nat → Nat} {D : va_G} {κ : Nat → ClassId} (v : Int32) (σ : q_M) (hP : P_X9_number6 v σ) : q_C α β D κ yX9_number cX9_number 2 (Option.none : Option Jvm.ClassFile.FieldType) 8 187 0 0 [.ref 229, .int v] σ q_ov (F_X9_number6 v σ) := by
  refine q_enter (own := RX9) (F := F_X9) (G := G_X9) (by decide +kernel) rfl Fok_X9 Gok_X9 (Nat.le_of_ble_eq_true rfl) (fun p l e s m args below meth c A hfl C hr hT => ?_)
  generalize hF : F_X9_number6 v σ = rr
  unfold F_X9_number6 at hF
  refine q_go C tk_X9_number [(0, 2)] [] (pc1 := 3) (σ1 := σ) (lv1 := [(0, .ref 229), (1, .int v)]) (st1 := [.int 10, .int v]) rfl trivial ?_
  by_cases c1 : v < 10
  · rw [if_pos c1] at hF
    refine q_go C tk_X9_number [(2, 1), (8, 6)] [true] (pc1 := 22) (σ1 := σ) (lv1 := [(0, .ref 229), (1, .int v)]) (st1 := [.int (48 + (v - v / 10 * 10)), .ref 229]) rfl ⟨c1, (by decide), trivial⟩ ?_
    refine q_callV C hfl mw_X9_puts mi_X9_puts me_X9_puts lk_X9_173 (k_X9_puts (48 + (v - v / 10 * 10)) σ (hP.1 c1).1) (rest := []) rfl rfl rfl (by decide) (by decide) rfl (q_dc (z := (22, .invokevirtual 173, 3, 0, 0)) tk_X9_number 14 rfl) (Nat.le_of_ble_eq_true rfl) ⟨Nat.le_of_ble_eq_true rfl, Nat.le_of_ble_eq_true rfl⟩ ⟨Nat.le_of_ble_eq_true rfl, Nat.le_of_ble_eq_true rfl⟩ ?_
    refine q_nrm 25 [] 0 0 rfl rfl rfl rfl ?_
    generalize e3 : (F_X9_puts (48 + (v - v / 10 * 10)) σ) = σ2
    replace hF := q_let e3 hF
    exact q_vret C hr (q_dc (z := (25, .return_, 1, 0, 0)) tk_X9_number 15 rfl) hF rfl (Nat.le_of_ble_eq_true rfl) (Nat.le_of_ble_eq_true rfl)
  · rw [if_neg c1] at hF
    refine q_go C tk_X9_number [(2, 5)] [false] (pc1 := 11) (σ1 := σ) (lv1 := [(0, .ref 229), (1, .int v)]) (st1 := [.int (v / 10), .ref 229]) rfl ⟨c1, (by decide), trivial⟩ ?_
    refine q_callV C hfl mw_X9_number mi_X9_number me_X9_number lk_X9_170 (k_X9_number5 (v / 10) σ (hP.2 c1).1) (rest := []) rfl rfl rfl (by decide) (by decide) rfl (q_dc (z := (11, .invokevirtual 170, 3, 0, 0)) tk_X9_number 7 rfl) (Nat.le_of_ble_eq_true rfl) ⟨Nat.le_of_ble_eq_true rfl, Nat.le_of_ble_eq_true rfl⟩ ⟨Nat.le_of_ble_eq_true rfl, Nat.le_of_ble_eq_true rfl⟩ ?_
    refine q_nrm 14 [] 0 0 rfl rfl rfl rfl ?_
    generalize e5 : (F_X9_number5 (v / 10) σ) = σ4
    replace hF := q_let e5 hF
    refine q_go C tk_X9_number [(8, 6)] [] (pc1 := 22) (σ1 := σ4) (lv1 := [(0, .ref 229), (1, .int v)]) (st1 := [.int (48 + (v - v / 10 * 10)), .ref 229]) rfl ⟨(by decide), trivial⟩ ?_
    refine q_callV C hfl mw_X9_puts mi_X9_puts me_X9_puts lk_X9_173 (k_X9_puts (48 + (v - v / 10 * 10)) σ4 ((hP.2 c1).2 σ4 e5).1) (rest := []) rfl rfl rfl (by decide) (by decide) rfl (q_dc (z := (22, .invokevirtual 173, 3, 0, 0)) tk_X9_number 14 rfl) (Nat.le_of_ble_eq_true rfl) ⟨Nat.le_of_ble_eq_true rfl, Nat.le_of_ble_eq_true rfl⟩ ⟨Nat.le_of_ble_eq_true rfl, Nat.le_of_ble_eq_true rfl⟩ ?_
    refine q_nrm 25 [] 0 0 rfl rfl rfl rfl ?_
    generalize e7 : (F_X9_puts (48 + (v - v / 10 * 10)) σ4) = σ6
    replace hF := q_let e7 hF
    exact q_vret C hr (q_dc (z := (25, .return_, 1, 0, 0)) tk_X9_number 15 rfl) hF rfl (Nat.le_of_ble_eq_true rfl) (Nat.le_of_ble_eq_true rfl)
def F_X9_number7 (v : Int32) (σ : q_M) : q_M := (if v < 10 then (q_L (F_X9_puts (48 + (v - v / 10 * 10)) σ) (fun σ2 : q_M => σ2)) else (q_L (F_X9_number6 (v / 10) σ) (fun σ4 : q_M => (q_L (F_X9_puts (48 + (v - v / 10 * 10)) σ4) (fun σ6 : q_M => σ6)))))
def P_X9_number7 (v : Int32) (σ : q_M) : Prop := ((v < 10 → ((P_X9_puts (48 + (v - v / 10 * 10)) σ) ∧ True)) ∧ (¬ v < 10 → ((P_X9_number6 (v / 10) σ) ∧ (∀ σ4 : q_M, (F_X9_number6 (v / 10) σ) = σ4 → ((P_X9_puts (48 + (v - v / 10 * 10)) σ4) ∧ True)))))
set_option maxRecDepth 100000 in
theorem k_X9_number7 {α β : Nat → Nat} {D : va_G} {κ : Nat → ClassId} (v : Int32) (σ : q_M) (hP : P_X9_number7 v σ) : q_C α β D κ yX9_number cX9_number 2 (Option.none : Option Jvm.ClassFile.FieldType) 9 208 0 0 [.ref 229, .int v] σ q_ov (F_X9_number7 v σ) := by
  refine q_enter (own := RX9) (F := F_X9) (G := G_X9) (by decide +kernel) rfl Fok_X9 Gok_X9 (Nat.le_of_ble_eq_true rfl) (fun p l e s m args below meth c A hfl C hr hT => ?_)
  generalize hF : F_X9_number7 v σ = rr
  unfold F_X9_number7 at hF
  refine q_go C tk_X9_number [(0, 2)] [] (pc1 := 3) (σ1 := σ) (lv1 := [(0, .ref 229), (1, .int v)]) (st1 := [.int 10, .int v]) rfl trivial ?_
  by_cases c1 : v < 10
  · rw [if_pos c1] at hF
    refine q_go C tk_X9_number [(2, 1), (8, 6)] [true] (pc1 := 22) (σ1 := σ) (lv1 := [(0, .ref 229), (1, .int v)]) (st1 := [.int (48 + (v - v / 10 * 10)), .ref 229]) rfl ⟨c1, (by decide), trivial⟩ ?_
    refine q_callV C hfl mw_X9_puts mi_X9_puts me_X9_puts lk_X9_173 (k_X9_puts (48 + (v - v / 10 * 10)) σ (hP.1 c1).1) (rest := []) rfl rfl rfl (by decide) (by decide) rfl (q_dc (z := (22, .invokevirtual 173, 3, 0, 0)) tk_X9_number 14 rfl) (Nat.le_of_ble_eq_true rfl) ⟨Nat.le_of_ble_eq_true rfl, Nat.le_of_ble_eq_true rfl⟩ ⟨Nat.le_of_ble_eq_true rfl, Nat.le_of_ble_eq_true rfl⟩ ?_
    refine q_nrm 25 [] 0 0 rfl rfl rfl rfl ?_
    generalize e3 : (F_X9_puts (48 + (v - v / 10 * 10)) σ) = σ2
    replace hF := q_let e3 hF
    exact q_vret C hr (q_dc (z := (25, .return_, 1, 0, 0)) tk_X9_number 15 rfl) hF rfl (Nat.le_of_ble_eq_true rfl) (Nat.le_of_ble_eq_true rfl)
  · rw [if_neg c1] at hF
    refine q_go C tk_X9_number [(2, 5)] [false] (pc1 := 11) (σ1 := σ) (lv1 := [(0, .ref 229), (1, .int v)]) (st1 := [.int (v / 10), .ref 229]) rfl ⟨c1, (by decide), trivial⟩ ?_
    refine q_callV C hfl mw_X9_number mi_X9_number me_X9_number lk_X9_170 (k_X9_number6 (v / 10) σ (hP.2 c1).1) (rest := []) rfl rfl rfl (by decide) (by decide) rfl (q_dc (z := (11, .invokevirtual 170, 3, 0, 0)) tk_X9_number 7 rfl) (Nat.le_of_ble_eq_true rfl) ⟨Nat.le_of_ble_eq_true rfl, Nat.le_of_ble_eq_true rfl⟩ ⟨Nat.le_of_ble_eq_true rfl, Nat.le_of_ble_eq_true rfl⟩ ?_
    refine q_nrm 14 [] 0 0 rfl rfl rfl rfl ?_
    generalize e5 : (F_X9_number6 (v / 10) σ) = σ4
    replace hF := q_let e5 hF
    refine q_go C tk_X9_number [(8, 6)] [] (pc1 := 22) (σ1 := σ4) (lv1 := [(0, .ref 229), (1, .int v)]) (st1 := [.int (48 + (v - v / 10 * 10)), .ref 229]) rfl ⟨(by decide), trivial⟩ ?_
    refine q_callV C hfl mw_X9_puts mi_X9_puts me_X9_puts lk_X9_173 (k_X9_puts (48 + (v - v / 10 * 10)) σ4 ((hP.2 c1).2 σ4 e5).1) (rest := []) rfl rfl rfl (by decide) (by decide) rfl (q_dc (z := (22, .invokevirtual 173, 3, 0, 0)) tk_X9_number 14 rfl) (Nat.le_of_ble_eq_true rfl) ⟨Nat.le_of_ble_eq_true rfl, Nat.le_of_ble_eq_true rfl⟩ ⟨Nat.le_of_ble_eq_true rfl, Nat.le_of_ble_eq_true rfl⟩ ?_
    refine q_nrm 25 [] 0 0 rfl rfl rfl rfl ?_
    generalize e7 : (F_X9_puts (48 + (v - v / 10 * 10)) σ4) = σ6
    replace hF := q_let e7 hF
    exact q_vret C hr (q_dc (z := (25, .return_, 1, 0, 0)) tk_X9_number 15 rfl) hF rfl (Nat.le_of_ble_eq_true rfl) (Nat.le_of_ble_eq_true rfl)
def F_X9_number8 (v : Int32) (σ : q_M) : q_M := (if v < 10 then (q_L (F_X9_puts (48 + (v - v / 10 * 10)) σ) (fun σ2 : q_M => σ2)) else (q_L (F_X9_number7 (v / 10) σ) (fun σ4 : q_M => (q_L (F_X9_puts (48 + (v - v / 10 * 10)) σ4) (fun σ6 : q_M => σ6)))))
def P_X9_number8 (v : Int32) (σ : q_M) : Prop := ((v < 10 → ((P_X9_puts (48 + (v - v / 10 * 10)) σ) ∧ True)) ∧ (¬ v < 10 → ((P_X9_number7 (v / 10) σ) ∧ (∀ σ4 : q_M, (F_X9_number7 (v / 10) σ) = σ4 → ((P_X9_puts (48 + (v - v / 10 * 10)) σ4) ∧ True)))))
set_option maxRecDepth 100000 in
theorem k_X9_number8 {α β : Nat → Nat} {D : va_G} {κ : Nat → ClassId} (v : Int32) (σ : q_M) (hP : P_X9_number8 v σ) : q_C α β D κ yX9_number cX9_number 2 (Option.none : Option Jvm.ClassFile.FieldType) 10 229 0 0 [.ref 229, .int v] σ q_ov (F_X9_number8 v σ) := by
  refine q_enter (own := RX9) (F := F_X9) (G := G_X9) (by decide +kernel) rfl Fok_X9 Gok_X9 (Nat.le_of_ble_eq_true rfl) (fun p l e s m args below meth c A hfl C hr hT => ?_)
  generalize hF : F_X9_number8 v σ = rr
  unfold F_X9_number8 at hF
  refine q_go C tk_X9_number [(0, 2)] [] (pc1 := 3) (σ1 := σ) (lv1 := [(0, .ref 229), (1, .int v)]) (st1 := [.int 10, .int v]) rfl trivial ?_
  by_cases c1 : v < 10
  · rw [if_pos c1] at hF
    refine q_go C tk_X9_number [(2, 1), (8, 6)] [true] (pc1 := 22) (σ1 := σ) (lv1 := [(0, .ref 229), (1, .int v)]) (st1 := [.int (48 + (v - v / 10 * 10)), .ref 229]) rfl ⟨c1, (by decide), trivial⟩ ?_
    refine q_callV C hfl mw_X9_puts mi_X9_puts me_X9_puts lk_X9_173 (k_X9_puts (48 + (v - v / 10 * 10)) σ (hP.1 c1).1) (rest := []) rfl rfl rfl (by decide) (by decide) rfl (q_dc (z := (22, .invokevirtual 173, 3, 0, 0)) tk_X9_number 14 rfl) (Nat.le_of_ble_eq_true rfl) ⟨Nat.le_of_ble_eq_true rfl, Nat.le_of_ble_eq_true rfl⟩ ⟨Nat.le_of_ble_eq_true rfl, Nat.le_of_ble_eq_true rfl⟩ ?_
    refine q_nrm 25 [] 0 0 rfl rfl rfl rfl ?_
    generalize e3 : (F_X9_puts (48 + (v - v / 10 * 10)) σ) = σ2
    replace hF := q_let e3 hF
    exact q_vret C hr (q_dc (z := (25, .return_, 1, 0, 0)) tk_X9_number 15 rfl) hF rfl (Nat.le_of_ble_eq_true rfl) (Nat.le_of_ble_eq_true rfl)
  · rw [if_neg c1] at hF
    refine q_go C tk_X9_number [(2, 5)] [false] (pc1 := 11) (σ1 := σ) (lv1 := [(0, .ref 229), (1, .int v)]) (st1 := [.int (v / 10), .ref 229]) rfl ⟨c1, (by decide), trivial⟩ ?_
    refine q_callV C hfl mw_X9_number mi_X9_number me_X9_number lk_X9_170 (k_X9_number7 (v / 10) σ (hP.2 c1).1) (rest := []) rfl rfl rfl (by decide) (by decide) rfl (q_dc (z := (11, .invokevirtual 170, 3, 0, 0)) tk_X9_number 7 rfl) (Nat.le_of_ble_eq_true rfl) ⟨Nat.le_of_ble_eq_true rfl, Nat.le_of_ble_eq_true rfl⟩ ⟨Nat.le_of_ble_eq_true rfl, Nat.le_of_ble_eq_true rfl⟩ ?_
    refine q_nrm 14 [] 0 0 rfl rfl rfl rfl ?_
    generalize e5 : (F_X9_number7 (v / 10) σ) = σ4
    replace hF := q_let e5 hF
    refine q_go C tk_X9_number [(8, 6)] [] (pc1 := 22) (σ1 := σ4) (lv1 := [(0, .ref 229), (1, .int v)]) (st1 := [.int (48 + (v - v / 10 * 10)), .ref 229]) rfl ⟨(by decide), trivial⟩ ?_
    refine q_callV C hfl mw_X9_puts mi_X9_puts me_X9_puts lk_X9_173 (k_X9_puts (48 + (v - v / 10 * 10)) σ4 ((hP.2 c1).2 σ4 e5).1) (rest := []) rfl rfl rfl (by decide) (by decide) rfl (q_dc (z := (22, .invokevirtual 173, 3, 0, 0)) tk_X9_number 14 rfl) (Nat.le_of_ble_eq_true rfl) ⟨Nat.le_of_ble_eq_true rfl, Nat.le_of_ble_eq_true rfl⟩ ⟨Nat.le_of_ble_eq_true rfl, Nat.le_of_ble_eq_true rfl⟩ ?_
    refine q_nrm 25 [] 0 0 rfl rfl rfl rfl ?_
    generalize e7 : (F_X9_puts (48 + (v - v / 10 * 10)) σ4) = σ6
    replace hF := q_let e7 hF
    exact q_vret C hr (q_dc (z := (25, .return_, 1, 0, 0)) tk_X9_number 15 rfl) hF rfl (Nat.le_of_ble_eq_true rfl) (Nat.le_of_ble_eq_true rfl)
def F_X9_number9 (v : Int32) (σ : q_M) : q_M := (if v < 10 then (q_L (F_X9_puts (48 + (v - v / 10 * 10)) σ) (fun σ2 : q_M => σ2)) else (q_L (F_X9_number8 (v / 10) σ) (fun σ4 : q_M => (q_L (F_X9_puts (48 + (v - v / 10 * 10)) σ4) (fun σ6 : q_M => σ6)))))
def P_X9_number9 (v : Int32) (σ : q_M) : Prop := ((v < 10 → ((P_X9_puts (48 + (v - v / 10 * 10)) σ) ∧ True)) ∧ (¬ v < 10 → ((P_X9_number8 (v / 10) σ) ∧ (∀ σ4 : q_M, (F_X9_number8 (v / 10) σ) = σ4 → ((P_X9_puts (48 + (v - v / 10 * 10)) σ4) ∧ True)))))
set_option maxRecDepth 100000 in
theorem k_X9_number9 {α β : Nat → Nat} {D : va_G} {κ : Nat → ClassId} (v : Int32) (σ : q_M) (hP : P_X9_number9 v σ) : q_C α β D κ yX9_number cX9_number 2 (Option.none : Option Jvm.ClassFile.FieldType) 11 250 0 0 [.ref 229, .int v] σ q_ov (F_X9_number9 v σ) := by
  refine q_enter (own := RX9) (F := F_X9) (G := G_X9) (by decide +kernel) rfl Fok_X9 Gok_X9 (Nat.le_of_ble_eq_true rfl) (fun p l e s m args below meth c A hfl C hr hT => ?_)
  generalize hF : F_X9_number9 v σ = rr
  unfold F_X9_number9 at hF
  refine q_go C tk_X9_number [(0, 2)] [] (pc1 := 3) (σ1 := σ) (lv1 := [(0, .ref 229), (1, .int v)]) (st1 := [.int 10, .int v]) rfl trivial ?_
  by_cases c1 : v < 10
  · rw [if_pos c1] at hF
    refine q_go C tk_X9_number [(2, 1), (8, 6)] [true] (pc1 := 22) (σ1 := σ) (lv1 := [(0, .ref 229), (1, .int v)]) (st1 := [.int (48 + (v - v / 10 * 10)), .ref 229]) rfl ⟨c1, (by decide), trivial⟩ ?_
    refine q_callV C hfl mw_X9_puts mi_X9_puts me_X9_puts lk_X9_173 (k_X9_puts (48 + (v - v / 10 * 10)) σ (hP.1 c1).1) (rest := []) rfl rfl rfl (by decide) (by decide) rfl (q_dc (z := (22, .invokevirtual 173, 3, 0, 0)) tk_X9_number 14 rfl) (Nat.le_of_ble_eq_true rfl) ⟨Nat.le_of_ble_eq_true rfl, Nat.le_of_ble_eq_true rfl⟩ ⟨Nat.le_of_ble_eq_true rfl, Nat.le_of_ble_eq_true rfl⟩ ?_
    refine q_nrm 25 [] 0 0 rfl rfl rfl rfl ?_
    generalize e3 : (F_X9_puts (48 + (v - v / 10 * 10)) σ) = σ2
    replace hF := q_let e3 hF
    exact q_vret C hr (q_dc (z := (25, .return_, 1, 0, 0)) tk_X9_number 15 rfl) hF rfl (Nat.le_of_ble_eq_true rfl) (Nat.le_of_ble_eq_true rfl)
  · rw [if_neg c1] at hF
    refine q_go C tk_X9_number [(2, 5)] [false] (pc1 := 11) (σ1 := σ) (lv1 := [(0, .ref 229), (1, .int v)]) (st1 := [.int (v / 10), .ref 229]) rfl ⟨c1, (by decide), trivial⟩ ?_
    refine q_callV C hfl mw_X9_number mi_X9_number me_X9_number lk_X9_170 (k_X9_number8 (v / 10) σ (hP.2 c1).1) (rest := []) rfl rfl rfl (by decide) (by decide) rfl (q_dc (z := (11, .invokevirtual 170, 3, 0, 0)) tk_X9_number 7 rfl) (Nat.le_of_ble_eq_true rfl) ⟨Nat.le_of_ble_eq_true rfl, Nat.le_of_ble_eq_true rfl⟩ ⟨Nat.le_of_ble_eq_true rfl, Nat.le_of_ble_eq_true rfl⟩ ?_
    refine q_nrm 14 [] 0 0 rfl rfl rfl rfl ?_
    generalize e5 : (F_X9_number8 (v / 10) σ) = σ4
    replace hF := q_let e5 hF
    refine q_go C tk_X9_number [(8, 6)] [] (pc1 := 22) (σ1 := σ4) (lv1 := [(0, .ref 229), (1, .int v)]) (st1 := [.int (48 + (v - v / 10 * 10)), .ref 229]) rfl ⟨(by decide), trivial⟩ ?_
    refine q_callV C hfl mw_X9_puts mi_X9_puts me_X9_puts lk_X9_173 (k_X9_puts (48 + (v - v / 10 * 10)) σ4 ((hP.2 c1).2 σ4 e5).1) (rest := []) rfl rfl rfl (by decide) (by decide) rfl (q_dc (z := (22, .invokevirtual 173, 3, 0, 0)) tk_X9_number 14 rfl) (Nat.le_of_ble_eq_true rfl) ⟨Nat.le_of_ble_eq_true rfl, Nat.le_of_ble_eq_true rfl⟩ ⟨Nat.le_of_ble_eq_true rfl, Nat.le_of_ble_eq_true rfl⟩ ?_
    refine q_nrm 25 [] 0 0 rfl rfl rfl rfl ?_
    generalize e7 : (F_X9_puts (48 + (v - v / 10 * 10)) σ4) = σ6
    replace hF := q_let e7 hF
    exact q_vret C hr (q_dc (z := (25, .return_, 1, 0, 0)) tk_X9_number 15 rfl) hF rfl (Nat.le_of_ble_eq_true rfl) (Nat.le_of_ble_eq_true rfl)
