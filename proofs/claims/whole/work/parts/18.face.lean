/-! The class: 18.face. -/
def F_X2_push (h : Nat) (r : Nat) (σ : q_M) : q_M := (q_L (q_up σ h 1 ((σ h 1) + 1)) (fun σ1 : q_M => (if (σ1 h 1) < 0 then (q_L (q_up σ1 h 1 0) (fun σ4 : q_M => (q_L (F_X4_copyFrom (60 + 20 * ((σ4 h 1)).toNatClampNeg) r σ4) (fun σ6 : q_M => (q_up σ6 h 2 (q_min ((σ6 h 2) + 1) 8)))))) else (if (σ1 h 1) < 8 then (q_L (F_X4_copyFrom (60 + 20 * ((σ1 h 1)).toNatClampNeg) r σ1) (fun σ9 : q_M => (q_up σ9 h 2 (q_min ((σ9 h 2) + 1) 8)))) else (q_L (q_up σ1 h 1 0) (fun σ11 : q_M => (q_L (F_X4_copyFrom (60 + 20 * ((σ11 h 1)).toNatClampNeg) r σ11) (fun σ13 : q_M => (q_up σ13 h 2 (q_min ((σ13 h 2) + 1) 8))))))))))
def P_X2_push (h : Nat) (r : Nat) (σ : q_M) : Prop := (∀ σ1 : q_M, (q_up σ h 1 ((σ h 1) + 1)) = σ1 → (((σ1 h 1) < 0 → (vp_in ((q_up σ1 h 1 0) h 1) 8 ∧ (∀ σ4 : q_M, (q_up σ1 h 1 0) = σ4 → ((P_X4_copyFrom (60 + 20 * ((σ4 h 1)).toNatClampNeg) r σ4) ∧ True)))) ∧ (¬ (σ1 h 1) < 0 → (((σ1 h 1) < 8 → (vp_in (σ1 h 1) 8 ∧ ((P_X4_copyFrom (60 + 20 * ((σ1 h 1)).toNatClampNeg) r σ1) ∧ True))) ∧ (¬ (σ1 h 1) < 8 → (vp_in ((q_up σ1 h 1 0) h 1) 8 ∧ (∀ σ11 : q_M, (q_up σ1 h 1 0) = σ11 → ((P_X4_copyFrom (60 + 20 * ((σ11 h 1)).toNatClampNeg) r σ11) ∧ True))))))))
set_option maxRecDepth 100000 in
theorem k_X2_push {α β : Nat → Nat} {D : va_G} {κ : Nat → ClassId} (h : Nat) (r : Nat) (σ : q_M) (h_h : q_kd h = 4) (h_r : q_kd r = 6) (hP : P_X2_push h r σ) : q_C α β D κ yX2_push cX2_push 2 (Option.none : Option Jvm.ClassFile.FieldType) 4 86 0 0 [.ref h, .ref r] σ q_ov (F_X2_push h r σ) := by
  refine q_enter (own := RX2) (F := F_X2) (G := G_X2) (by decide +kernel) rfl Fok_X2 Gok_X2 (Nat.le_of_ble_eq_true rfl) (fun p l e s m args below meth c A hfl C hr hT => ?_)
  generalize hF : F_X2_push h r σ = rr
  unfold F_X2_push at hF
  refine q_go C tk_X2_push [(0, 8)] [] (pc1 := 14) (σ1 := (q_up σ h 1 ((σ h 1) + 1))) (lv1 := [(0, .ref h), (1, .ref r)]) (st1 := [.int ((q_up σ h 1 ((σ h 1) + 1)) h 1)]) rfl ⟨h_h, h_h, h_h, trivial⟩ ?_
  generalize e2 : (q_up σ h 1 ((σ h 1) + 1)) = σ1
  replace hF := q_let e2 hF
  by_cases c3 : (σ1 h 1) < 0
  · rw [if_pos c3] at hF
    refine q_go C tk_X2_push [(8, 1), (15, 9)] [true] (pc1 := 44) (σ1 := (q_up σ1 h 1 0)) (lv1 := [(0, .ref h), (1, .ref r)]) (st1 := [.ref r, .ref (60 + 20 * (((q_up σ1 h 1 0) h 1)).toNatClampNeg)]) rfl ⟨c3, h_h, h_h, h_h, rfl, ((hP σ1 e2).1 c3).1, trivial⟩ ?_
    generalize e5 : (q_up σ1 h 1 0) = σ4
    replace hF := q_let e5 hF
    refine q_callV C hfl mw_X4_copyFrom mi_X4_copyFrom me_X4_copyFrom lk_X2_22 (k_X4_copyFrom (60 + 20 * ((σ4 h 1)).toNatClampNeg) r σ4 (q_kd_ro ((hP σ1 e2).1 c3).1) h_r (((hP σ1 e2).1 c3).2 σ4 e5).1) (rest := []) rfl (q_kd_ro ((hP σ1 e2).1 c3).1) rfl (by decide) (by decide) rfl (q_dc (z := (44, .invokevirtual 22, 3, 0, 0)) tk_X2_push 24 rfl) (Nat.le_of_ble_eq_true rfl) ⟨Nat.le_of_ble_eq_true rfl, Nat.le_of_ble_eq_true rfl⟩ ⟨Nat.le_of_ble_eq_true rfl, Nat.le_of_ble_eq_true rfl⟩ ?_
    refine q_nrm 47 [] 0 0 rfl rfl rfl rfl ?_
    generalize e7 : (F_X4_copyFrom (60 + 20 * ((σ4 h 1)).toNatClampNeg) r σ4) = σ6
    replace hF := q_let e7 hF
    refine q_go C tk_X2_push [(25, 8)] [] (pc1 := 59) (σ1 := σ6) (lv1 := [(0, .ref h), (1, .ref r)]) (st1 := [.int 8, .int ((σ6 h 2) + 1), .ref h]) rfl ⟨h_h, h_h, rfl, trivial⟩ ?_
    refine q_mmin C lk_X2_29 (q_dc (z := (59, .invokestatic 29, 3, 0, 0)) tk_X2_push 33 rfl) (Nat.le_of_ble_eq_true rfl) ⟨Nat.le_of_ble_eq_true rfl, Nat.le_of_ble_eq_true rfl⟩ ⟨Nat.le_of_ble_eq_true rfl, Nat.le_of_ble_eq_true rfl⟩ ?_
    refine q_nrm 62 [.int (q_min ((σ6 h 2) + 1) 8), .ref h] 0 0 rfl rfl rfl rfl ?_
    refine q_go C tk_X2_push [(34, 1)] [] (pc1 := 65) (σ1 := (q_up σ6 h 2 (q_min ((σ6 h 2) + 1) 8))) (lv1 := [(0, .ref h), (1, .ref r)]) (st1 := []) rfl ⟨h_h, trivial⟩ ?_
    exact q_vret C hr (q_dc (z := (65, .return_, 1, 0, 0)) tk_X2_push 35 rfl) hF rfl (Nat.le_of_ble_eq_true rfl) (Nat.le_of_ble_eq_true rfl)
  · rw [if_neg c3] at hF
    refine q_go C tk_X2_push [(8, 6)] [false] (pc1 := 26) (σ1 := σ1) (lv1 := [(0, .ref h), (1, .ref r)]) (st1 := [.int 8, .int (σ1 h 1)]) rfl ⟨c3, h_h, h_h, rfl, trivial⟩ ?_
    by_cases c8 : (σ1 h 1) < 8
    · rw [if_pos c8] at hF
      refine q_go C tk_X2_push [(14, 1), (18, 6)] [true] (pc1 := 44) (σ1 := σ1) (lv1 := [(0, .ref h), (1, .ref r)]) (st1 := [.ref r, .ref (60 + 20 * ((σ1 h 1)).toNatClampNeg)]) rfl ⟨c8, h_h, h_h, rfl, (((hP σ1 e2).2 c3).1 c8).1, trivial⟩ ?_
      refine q_callV C hfl mw_X4_copyFrom mi_X4_copyFrom me_X4_copyFrom lk_X2_22 (k_X4_copyFrom (60 + 20 * ((σ1 h 1)).toNatClampNeg) r σ1 (q_kd_ro (((hP σ1 e2).2 c3).1 c8).1) h_r (((hP σ1 e2).2 c3).1 c8).2.1) (rest := []) rfl (q_kd_ro (((hP σ1 e2).2 c3).1 c8).1) rfl (by decide) (by decide) rfl (q_dc (z := (44, .invokevirtual 22, 3, 0, 0)) tk_X2_push 24 rfl) (Nat.le_of_ble_eq_true rfl) ⟨Nat.le_of_ble_eq_true rfl, Nat.le_of_ble_eq_true rfl⟩ ⟨Nat.le_of_ble_eq_true rfl, Nat.le_of_ble_eq_true rfl⟩ ?_
      refine q_nrm 47 [] 0 0 rfl rfl rfl rfl ?_
      generalize e10 : (F_X4_copyFrom (60 + 20 * ((σ1 h 1)).toNatClampNeg) r σ1) = σ9
      replace hF := q_let e10 hF
      refine q_go C tk_X2_push [(25, 8)] [] (pc1 := 59) (σ1 := σ9) (lv1 := [(0, .ref h), (1, .ref r)]) (st1 := [.int 8, .int ((σ9 h 2) + 1), .ref h]) rfl ⟨h_h, h_h, rfl, trivial⟩ ?_
      refine q_mmin C lk_X2_29 (q_dc (z := (59, .invokestatic 29, 3, 0, 0)) tk_X2_push 33 rfl) (Nat.le_of_ble_eq_true rfl) ⟨Nat.le_of_ble_eq_true rfl, Nat.le_of_ble_eq_true rfl⟩ ⟨Nat.le_of_ble_eq_true rfl, Nat.le_of_ble_eq_true rfl⟩ ?_
      refine q_nrm 62 [.int (q_min ((σ9 h 2) + 1) 8), .ref h] 0 0 rfl rfl rfl rfl ?_
      refine q_go C tk_X2_push [(34, 1)] [] (pc1 := 65) (σ1 := (q_up σ9 h 2 (q_min ((σ9 h 2) + 1) 8))) (lv1 := [(0, .ref h), (1, .ref r)]) (st1 := []) rfl ⟨h_h, trivial⟩ ?_
      exact q_vret C hr (q_dc (z := (65, .return_, 1, 0, 0)) tk_X2_push 35 rfl) hF rfl (Nat.le_of_ble_eq_true rfl) (Nat.le_of_ble_eq_true rfl)
    · rw [if_neg c8] at hF
      refine q_go C tk_X2_push [(14, 10)] [false] (pc1 := 44) (σ1 := (q_up σ1 h 1 0)) (lv1 := [(0, .ref h), (1, .ref r)]) (st1 := [.ref r, .ref (60 + 20 * (((q_up σ1 h 1 0) h 1)).toNatClampNeg)]) rfl ⟨c8, h_h, h_h, h_h, rfl, (((hP σ1 e2).2 c3).2 c8).1, trivial⟩ ?_
      generalize e12 : (q_up σ1 h 1 0) = σ11
      replace hF := q_let e12 hF
      refine q_callV C hfl mw_X4_copyFrom mi_X4_copyFrom me_X4_copyFrom lk_X2_22 (k_X4_copyFrom (60 + 20 * ((σ11 h 1)).toNatClampNeg) r σ11 (q_kd_ro (((hP σ1 e2).2 c3).2 c8).1) h_r ((((hP σ1 e2).2 c3).2 c8).2 σ11 e12).1) (rest := []) rfl (q_kd_ro (((hP σ1 e2).2 c3).2 c8).1) rfl (by decide) (by decide) rfl (q_dc (z := (44, .invokevirtual 22, 3, 0, 0)) tk_X2_push 24 rfl) (Nat.le_of_ble_eq_true rfl) ⟨Nat.le_of_ble_eq_true rfl, Nat.le_of_ble_eq_true rfl⟩ ⟨Nat.le_of_ble_eq_true rfl, Nat.le_of_ble_eq_true rfl⟩ ?_
      refine q_nrm 47 [] 0 0 rfl rfl rfl rfl ?_
      generalize e14 : (F_X4_copyFrom (60 + 20 * ((σ11 h 1)).toNatClampNeg) r σ11) = σ13
      replace hF := q_let e14 hF
      refine q_go C tk_X2_push [(25, 8)] [] (pc1 := 59) (σ1 := σ13) (lv1 := [(0, .ref h), (1, .ref r)]) (st1 := [.int 8, .int ((σ13 h 2) + 1), .ref h]) rfl ⟨h_h, h_h, rfl, trivial⟩ ?_
      refine q_mmin C lk_X2_29 (q_dc (z := (59, .invokestatic 29, 3, 0, 0)) tk_X2_push 33 rfl) (Nat.le_of_ble_eq_true rfl) ⟨Nat.le_of_ble_eq_true rfl, Nat.le_of_ble_eq_true rfl⟩ ⟨Nat.le_of_ble_eq_true rfl, Nat.le_of_ble_eq_true rfl⟩ ?_
      refine q_nrm 62 [.int (q_min ((σ13 h 2) + 1) 8), .ref h] 0 0 rfl rfl rfl rfl ?_
      refine q_go C tk_X2_push [(34, 1)] [] (pc1 := 65) (σ1 := (q_up σ13 h 2 (q_min ((σ13 h 2) + 1) 8))) (lv1 := [(0, .ref h), (1, .ref r)]) (st1 := []) rfl ⟨h_h, trivial⟩ ?_
      exact q_vret C hr (q_dc (z := (65, .return_, 1, 0, 0)) tk_X2_push 35 rfl) hF rfl (Nat.le_of_ble_eq_true rfl) (Nat.le_of_ble_eq_true rfl)
def F_X2_popInto (h : Nat) (r : Nat) (σ : q_M) : q_M := (if 0 < (σ h 2) then (if (σ h 1) < 0 then σ else (if (σ h 1) < 8 then (q_L (F_X4_copyFrom r (60 + 20 * ((σ h 1)).toNatClampNeg) σ) (fun σ4 : q_M => (q_L (if 0 < (σ4 h 1) then ((σ4 h 1) - 1) else (8 - 1)) (fun x7 : Int32 => (q_up (q_up σ4 h 1 x7) h 2 ((σ4 h 2) - 1)))))) else σ)) else σ)
def P_X2_popInto (h : Nat) (r : Nat) (σ : q_M) : Prop := ((0 < (σ h 2) → (((σ h 1) < 0 → True) ∧ (¬ (σ h 1) < 0 → (((σ h 1) < 8 → (vp_in (σ h 1) 8 ∧ ((P_X4_copyFrom r (60 + 20 * ((σ h 1)).toNatClampNeg) σ) ∧ True))) ∧ (¬ (σ h 1) < 8 → True))))) ∧ (¬ 0 < (σ h 2) → True))
set_option maxRecDepth 100000 in
theorem k_X2_popInto {α β : Nat → Nat} {D : va_G} {κ : Nat → ClassId} (h : Nat) (r : Nat) (σ : q_M) (h_h : q_kd h = 4) (h_r : q_kd r = 6) (hP : P_X2_popInto h r σ) : q_C α β D κ yX2_popInto cX2_popInto 2 (Option.none : Option Jvm.ClassFile.FieldType) 4 86 0 0 [.ref h, .ref r] σ q_ov (F_X2_popInto h r σ) := by
  refine q_enter (own := RX2) (F := F_X2) (G := G_X2) (by decide +kernel) rfl Fok_X2 Gok_X2 (Nat.le_of_ble_eq_true rfl) (fun p l e s m args below meth c A hfl C hr hT => ?_)
  generalize hF : F_X2_popInto h r σ = rr
  unfold F_X2_popInto at hF
  refine q_go C tk_X2_popInto [(0, 2)] [] (pc1 := 4) (σ1 := σ) (lv1 := [(0, .ref h), (1, .ref r)]) (st1 := [.int (σ h 2)]) rfl ⟨h_h, trivial⟩ ?_
  by_cases c1 : 0 < (σ h 2)
  · rw [if_pos c1] at hF
    refine q_go C tk_X2_popInto [(2, 3)] [false] (pc1 := 11) (σ1 := σ) (lv1 := [(0, .ref h), (1, .ref r)]) (st1 := [.int (σ h 1)]) rfl ⟨c1, h_h, trivial⟩ ?_
    by_cases c2 : (σ h 1) < 0
    · rw [if_pos c2] at hF
      refine q_go C tk_X2_popInto [(5, 1)] [true] (pc1 := 76) (σ1 := σ) (lv1 := [(0, .ref h), (1, .ref r)]) (st1 := []) rfl ⟨c2, trivial⟩ ?_
      exact q_vret C hr (q_dc (z := (76, .return_, 1, 0, 0)) tk_X2_popInto 40 rfl) hF rfl (Nat.le_of_ble_eq_true rfl) (Nat.le_of_ble_eq_true rfl)
    · rw [if_neg c2] at hF
      refine q_go C tk_X2_popInto [(5, 6)] [false] (pc1 := 23) (σ1 := σ) (lv1 := [(0, .ref h), (1, .ref r)]) (st1 := [.int 8, .int (σ h 1)]) rfl ⟨c2, h_h, h_h, rfl, trivial⟩ ?_
      by_cases c3 : (σ h 1) < 8
      · rw [if_pos c3] at hF
        refine q_go C tk_X2_popInto [(11, 7)] [false] (pc1 := 36) (σ1 := σ) (lv1 := [(0, .ref h), (1, .ref r)]) (st1 := [.ref (60 + 20 * ((σ h 1)).toNatClampNeg), .ref r]) rfl ⟨c3, h_h, h_h, rfl, (((hP.1 c1).2 c2).1 c3).1, trivial⟩ ?_
        refine q_callV C hfl mw_X4_copyFrom mi_X4_copyFrom me_X4_copyFrom lk_X2_22 (k_X4_copyFrom r (60 + 20 * ((σ h 1)).toNatClampNeg) σ h_r (q_kd_ro (((hP.1 c1).2 c2).1 c3).1) (((hP.1 c1).2 c2).1 c3).2.1) (rest := []) rfl h_r rfl (by decide) (by decide) rfl (q_dc (z := (36, .invokevirtual 22, 3, 0, 0)) tk_X2_popInto 18 rfl) (Nat.le_of_ble_eq_true rfl) ⟨Nat.le_of_ble_eq_true rfl, Nat.le_of_ble_eq_true rfl⟩ ⟨Nat.le_of_ble_eq_true rfl, Nat.le_of_ble_eq_true rfl⟩ ?_
        refine q_nrm 39 [] 0 0 rfl rfl rfl rfl ?_
        generalize e5 : (F_X4_copyFrom r (60 + 20 * ((σ h 1)).toNatClampNeg) σ) = σ4
        replace hF := q_let e5 hF
        refine q_go C tk_X2_popInto [(19, 3)] [] (pc1 := 44) (σ1 := σ4) (lv1 := [(0, .ref h), (1, .ref r)]) (st1 := [.int (σ4 h 1), .ref h]) rfl ⟨h_h, trivial⟩ ?_
        refine q_mrg (v := (if 0 < (σ4 h 1) then ((σ4 h 1) - 1) else (8 - 1))) (M := 63) (σ1 := σ4) (lv1 := [(0, .ref h), (1, .ref r)]) (st1 := [.ref h]) (fun x7 e8 => ?_) (fun K => ?_)
        · replace hF := q_let e8 hF
          refine q_go C tk_X2_popInto [(33, 7)] [] (pc1 := 76) (σ1 := (q_up (q_up σ4 h 1 x7) h 2 ((σ4 h 2) - 1))) (lv1 := [(0, .ref h), (1, .ref r)]) (st1 := []) rfl ⟨h_h, h_h, h_h, trivial⟩ ?_
          exact q_vret C hr (q_dc (z := (76, .return_, 1, 0, 0)) tk_X2_popInto 40 rfl) hF rfl (Nat.le_of_ble_eq_true rfl) (Nat.le_of_ble_eq_true rfl)
        · clear hF
          by_cases c6 : 0 < (σ4 h 1)
          · skip
            refine q_go C tk_X2_popInto [(22, 6)] [false] (pc1 := 63) (σ1 := σ4) (lv1 := [(0, .ref h), (1, .ref r)]) (st1 := [.int ((σ4 h 1) - 1), .ref h]) rfl ⟨c6, h_h, trivial⟩ ?_
            rw [if_pos c6] at K; exact K
          · skip
            refine q_go C tk_X2_popInto [(22, 1), (28, 5)] [true] (pc1 := 63) (σ1 := σ4) (lv1 := [(0, .ref h), (1, .ref r)]) (st1 := [.int (8 - 1), .ref h]) rfl ⟨c6, h_h, rfl, trivial⟩ ?_
            rw [if_neg c6] at K; exact K
      · rw [if_neg c3] at hF
        refine q_go C tk_X2_popInto [(11, 1)] [true] (pc1 := 76) (σ1 := σ) (lv1 := [(0, .ref h), (1, .ref r)]) (st1 := []) rfl ⟨c3, trivial⟩ ?_
        exact q_vret C hr (q_dc (z := (76, .return_, 1, 0, 0)) tk_X2_popInto 40 rfl) hF rfl (Nat.le_of_ble_eq_true rfl) (Nat.le_of_ble_eq_true rfl)
  · rw [if_neg c1] at hF
    refine q_go C tk_X2_popInto [(2, 1)] [true] (pc1 := 76) (σ1 := σ) (lv1 := [(0, .ref h), (1, .ref r)]) (st1 := []) rfl ⟨c1, trivial⟩ ?_
    exact q_vret C hr (q_dc (z := (76, .return_, 1, 0, 0)) tk_X2_popInto 40 rfl) hF rfl (Nat.le_of_ble_eq_true rfl) (Nat.le_of_ble_eq_true rfl)
def F_X8_raise (f : Int32) (σ : q_M) : Option String := (if f = 11 then (some "java/lang/IndexOutOfBoundsException") else (if f = 12 then (some "java/lang/IllegalArgumentException") else (if f = 13 then (some "java/lang/IllegalStateException") else (if f = 14 then (some "java/lang/UnsupportedOperationException") else none))))
set_option maxRecDepth 100000 in
theorem k_X8_raise {α β : Nat → Nat} {D : va_G} {κ : Nat → ClassId} (f : Int32) (σ : q_M) : q_C α β D κ yX8_raise cX8_raise 1 (Option.none : Option Jvm.ClassFile.FieldType) 6 90 1 6 [q_e f] σ (q_oxv (F_X8_raise f σ)) σ := by
  refine q_enter (own := RX8) (F := F_X8) (G := G_X8) (by decide +kernel) rfl Fok_X8 Gok_X8 (Nat.le_of_ble_eq_true rfl) (fun p l e s m args below meth c A hfl C hr hT => ?_)
  generalize hF : F_X8_raise f σ = rr
  unfold F_X8_raise at hF
  refine q_go C tk_X8_raise [(0, 2)] [] (pc1 := 4) (σ1 := σ) (lv1 := [(0, q_e f)]) (st1 := [q_e 11, q_e f]) rfl trivial ?_
  by_cases c1 : f = 11
  · rw [if_pos c1] at hF
    refine q_go C tk_X8_raise [(2, 1)] [false] (pc1 := 7) (σ1 := σ) (lv1 := [(0, q_e f)]) (st1 := []) rfl ⟨(congrArg Int32.toUInt32 c1), trivial⟩ ?_
    exact q_throwW C hT hfl xk_IndexOutOfBoundsException (is := 345) (List.mem_of_getElem? (l := q_msg) (i := 0) rfl) (q_dc (z := (7, .new 293, 3, 0, 0)) tk_X8_raise 3 rfl) (q_dc (z := (10, .dup, 1, 0, 0)) tk_X8_raise 4 rfl) (q_dc (z := (11, .ldc_w 345, 3, 0, 0)) tk_X8_raise 5 rfl) (q_dc (z := (14, .invokespecial 297, 3, 0, 0)) tk_X8_raise 6 rfl) (q_dc (z := (17, .athrow, 1, 0, 0)) tk_X8_raise 7 rfl) (Nat.le_of_ble_eq_true rfl) (Nat.le_of_ble_eq_true rfl) (Nat.le_of_ble_eq_true rfl) (Nat.le_of_ble_eq_true rfl) (Nat.le_of_ble_eq_true rfl) rfl (congrArg q_oxv hF.symm) (Nat.le_of_ble_eq_true rfl) (Nat.le_of_ble_eq_true rfl)
  · rw [if_neg c1] at hF
    refine q_go C tk_X8_raise [(2, 1), (8, 2)] [true] (pc1 := 22) (σ1 := σ) (lv1 := [(0, q_e f)]) (st1 := [q_e 12, q_e f]) rfl ⟨(fun q => c1 (q_u32 q)), trivial⟩ ?_
    by_cases c2 : f = 12
    · rw [if_pos c2] at hF
      refine q_go C tk_X8_raise [(10, 1)] [false] (pc1 := 25) (σ1 := σ) (lv1 := [(0, q_e f)]) (st1 := []) rfl ⟨(congrArg Int32.toUInt32 c2), trivial⟩ ?_
      exact q_throwW C hT hfl xk_IllegalArgumentException (is := 350) (List.mem_of_getElem? (l := q_msg) (i := 1) rfl) (q_dc (z := (25, .new 205, 3, 0, 0)) tk_X8_raise 11 rfl) (q_dc (z := (28, .dup, 1, 0, 0)) tk_X8_raise 12 rfl) (q_dc (z := (29, .ldc_w 350, 3, 0, 0)) tk_X8_raise 13 rfl) (q_dc (z := (32, .invokespecial 209, 3, 0, 0)) tk_X8_raise 14 rfl) (q_dc (z := (35, .athrow, 1, 0, 0)) tk_X8_raise 15 rfl) (Nat.le_of_ble_eq_true rfl) (Nat.le_of_ble_eq_true rfl) (Nat.le_of_ble_eq_true rfl) (Nat.le_of_ble_eq_true rfl) (Nat.le_of_ble_eq_true rfl) rfl (congrArg q_oxv hF.symm) (Nat.le_of_ble_eq_true rfl) (Nat.le_of_ble_eq_true rfl)
    · rw [if_neg c2] at hF
      refine q_go C tk_X8_raise [(10, 1), (16, 2)] [true] (pc1 := 40) (σ1 := σ) (lv1 := [(0, q_e f)]) (st1 := [q_e 13, q_e f]) rfl ⟨(fun q => c2 (q_u32 q)), trivial⟩ ?_
      by_cases c3 : f = 13
      · rw [if_pos c3] at hF
        refine q_go C tk_X8_raise [(18, 1)] [false] (pc1 := 43) (σ1 := σ) (lv1 := [(0, q_e f)]) (st1 := []) rfl ⟨(congrArg Int32.toUInt32 c3), trivial⟩ ?_
        exact q_throwW C hT hfl xk_IllegalStateException (is := 355) (List.mem_of_getElem? (l := q_msg) (i := 2) rfl) (q_dc (z := (43, .new 261, 3, 0, 0)) tk_X8_raise 19 rfl) (q_dc (z := (46, .dup, 1, 0, 0)) tk_X8_raise 20 rfl) (q_dc (z := (47, .ldc_w 355, 3, 0, 0)) tk_X8_raise 21 rfl) (q_dc (z := (50, .invokespecial 265, 3, 0, 0)) tk_X8_raise 22 rfl) (q_dc (z := (53, .athrow, 1, 0, 0)) tk_X8_raise 23 rfl) (Nat.le_of_ble_eq_true rfl) (Nat.le_of_ble_eq_true rfl) (Nat.le_of_ble_eq_true rfl) (Nat.le_of_ble_eq_true rfl) (Nat.le_of_ble_eq_true rfl) rfl (congrArg q_oxv hF.symm) (Nat.le_of_ble_eq_true rfl) (Nat.le_of_ble_eq_true rfl)
      · rw [if_neg c3] at hF
        refine q_go C tk_X8_raise [(18, 1), (24, 2)] [true] (pc1 := 58) (σ1 := σ) (lv1 := [(0, q_e f)]) (st1 := [q_e 14, q_e f]) rfl ⟨(fun q => c3 (q_u32 q)), trivial⟩ ?_
        by_cases c4 : f = 14
        · rw [if_pos c4] at hF
          refine q_go C tk_X8_raise [(26, 1)] [false] (pc1 := 61) (σ1 := σ) (lv1 := [(0, q_e f)]) (st1 := []) rfl ⟨(congrArg Int32.toUInt32 c4), trivial⟩ ?_
          exact q_throwW C hT hfl xk_UnsupportedOperationException (is := 360) (List.mem_of_getElem? (l := q_msg) (i := 3) rfl) (q_dc (z := (61, .new 266, 3, 0, 0)) tk_X8_raise 27 rfl) (q_dc (z := (64, .dup, 1, 0, 0)) tk_X8_raise 28 rfl) (q_dc (z := (65, .ldc_w 360, 3, 0, 0)) tk_X8_raise 29 rfl) (q_dc (z := (68, .invokespecial 270, 3, 0, 0)) tk_X8_raise 30 rfl) (q_dc (z := (71, .athrow, 1, 0, 0)) tk_X8_raise 31 rfl) (Nat.le_of_ble_eq_true rfl) (Nat.le_of_ble_eq_true rfl) (Nat.le_of_ble_eq_true rfl) (Nat.le_of_ble_eq_true rfl) (Nat.le_of_ble_eq_true rfl) rfl (congrArg q_oxv hF.symm) (Nat.le_of_ble_eq_true rfl) (Nat.le_of_ble_eq_true rfl)
        · rw [if_neg c4] at hF
          refine q_go C tk_X8_raise [(26, 1)] [true] (pc1 := 72) (σ1 := σ) (lv1 := [(0, q_e f)]) (st1 := []) rfl ⟨(fun q => c4 (q_u32 q)), trivial⟩ ?_
          exact q_vret C hr (q_dc (z := (72, .return_, 1, 0, 0)) tk_X8_raise 32 rfl) rfl (congrArg q_oxv hF.symm) (Nat.le_of_ble_eq_true rfl) (Nat.le_of_ble_eq_true rfl)
