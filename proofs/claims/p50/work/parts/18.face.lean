/-! The class: 18.face. -/
def F_X2_push (r : Nat) (σ : q_M) : q_M := (q_L (q_up σ 221 1 ((σ 221 1) + 1)) (fun σ1 : q_M => (if ((σ 221 1) + 1) < 0 then (q_L (q_up σ1 221 1 0) (fun σ4 : q_M => (q_L (F_X4_copyFrom (60 + 20 * (0 : Int32).toNatClampNeg) r σ4) (fun σ6 : q_M => (q_up σ6 221 2 (q_min ((σ6 221 2) + 1) 8)))))) else (if (σ1 221 1) < 8 then (q_L (F_X4_copyFrom (60 + 20 * ((σ1 221 1)).toNatClampNeg) r σ1) (fun σ9 : q_M => (q_up σ9 221 2 (q_min ((σ9 221 2) + 1) 8)))) else (q_L (q_up σ1 221 1 0) (fun σ11 : q_M => (q_L (F_X4_copyFrom (60 + 20 * (0 : Int32).toNatClampNeg) r σ11) (fun σ13 : q_M => (q_up σ13 221 2 (q_min ((σ13 221 2) + 1) 8))))))))))
def P_X2_push (r : Nat) (σ : q_M) : Prop := (∀ σ1 : q_M, (q_up σ 221 1 ((σ 221 1) + 1)) = σ1 → ((((σ 221 1) + 1) < 0 → (vp_in 0 8 ∧ (∀ σ4 : q_M, (q_up σ1 221 1 0) = σ4 → ((P_X4_copyFrom (60 + 20 * (0 : Int32).toNatClampNeg) r σ4) ∧ True)))) ∧ (¬ ((σ 221 1) + 1) < 0 → (((σ1 221 1) < 8 → (vp_in (σ1 221 1) 8 ∧ ((P_X4_copyFrom (60 + 20 * ((σ1 221 1)).toNatClampNeg) r σ1) ∧ True))) ∧ (¬ (σ1 221 1) < 8 → (vp_in 0 8 ∧ (∀ σ11 : q_M, (q_up σ1 221 1 0) = σ11 → ((P_X4_copyFrom (60 + 20 * (0 : Int32).toNatClampNeg) r σ11) ∧ True))))))))
set_option maxRecDepth 100000 in
theorem k_X2_push {α β : Nat → Nat} {D : va_G} {κ : Nat → ClassId} (r : Nat) (σ : q_M) (h_r : q_kd r = 6) (hP : P_X2_push r σ) : q_C α β D κ yX2_push cX2_push 2 (Option.none : Option Jvm.ClassFile.FieldType) 4 86 0 0 [.ref 221, .ref r] σ q_ov (F_X2_push r σ) := by
  refine q_enter (own := RX2) (F := F_X2) (G := G_X2) (by decide +kernel) rfl Fok_X2 Gok_X2 (Nat.le_of_ble_eq_true rfl) (fun p l e s m args below meth c A hfl C hr hT => ?_)
  generalize hF : F_X2_push r σ = rr
  unfold F_X2_push at hF
  refine q_go C tk_X2_push [(0, 8)] [] (pc1 := 14) (σ1 := (q_up σ 221 1 ((σ 221 1) + 1))) (lv1 := [(0, .ref 221), (1, .ref r)]) (st1 := [.int ((σ 221 1) + 1)]) rfl ⟨rfl, rfl, rfl, trivial⟩ ?_
  generalize e2 : (q_up σ 221 1 ((σ 221 1) + 1)) = σ1
  replace hF := q_let e2 hF
  by_cases c3 : ((σ 221 1) + 1) < 0
  · rw [if_pos c3] at hF
    refine q_go C tk_X2_push [(8, 1), (15, 9)] [true] (pc1 := 44) (σ1 := (q_up σ1 221 1 0)) (lv1 := [(0, .ref 221), (1, .ref r)]) (st1 := [.ref r, .ref (60 + 20 * (0 : Int32).toNatClampNeg)]) rfl ⟨c3, rfl, rfl, rfl, rfl, ((hP σ1 e2).1 c3).1, trivial⟩ ?_
    generalize e5 : (q_up σ1 221 1 0) = σ4
    replace hF := q_let e5 hF
    refine q_callV C hfl mw_X4_copyFrom mi_X4_copyFrom me_X4_copyFrom lk_X2_22 (k_X4_copyFrom (60 + 20 * (0 : Int32).toNatClampNeg) r σ4 (q_kd_ro ((hP σ1 e2).1 c3).1) h_r (((hP σ1 e2).1 c3).2 σ4 e5).1) (rest := []) rfl (q_kd_ro ((hP σ1 e2).1 c3).1) rfl (by decide) (by decide) rfl (q_dc (z := (44, .invokevirtual 22, 3, 0, 0)) tk_X2_push 24 rfl) (Nat.le_of_ble_eq_true rfl) ⟨Nat.le_of_ble_eq_true rfl, Nat.le_of_ble_eq_true rfl⟩ ⟨Nat.le_of_ble_eq_true rfl, Nat.le_of_ble_eq_true rfl⟩ ?_
    refine q_nrm 47 [] 0 0 rfl rfl rfl rfl ?_
    generalize e7 : (F_X4_copyFrom (60 + 20 * (0 : Int32).toNatClampNeg) r σ4) = σ6
    replace hF := q_let e7 hF
    refine q_go C tk_X2_push [(25, 8)] [] (pc1 := 59) (σ1 := σ6) (lv1 := [(0, .ref 221), (1, .ref r)]) (st1 := [.int 8, .int ((σ6 221 2) + 1), .ref 221]) rfl ⟨rfl, rfl, rfl, trivial⟩ ?_
    refine q_mmin C lk_X2_29 (q_dc (z := (59, .invokestatic 29, 3, 0, 0)) tk_X2_push 33 rfl) (Nat.le_of_ble_eq_true rfl) ⟨Nat.le_of_ble_eq_true rfl, Nat.le_of_ble_eq_true rfl⟩ ⟨Nat.le_of_ble_eq_true rfl, Nat.le_of_ble_eq_true rfl⟩ ?_
    refine q_nrm 62 [.int (q_min ((σ6 221 2) + 1) 8), .ref 221] 0 0 rfl rfl rfl rfl ?_
    refine q_go C tk_X2_push [(34, 1)] [] (pc1 := 65) (σ1 := (q_up σ6 221 2 (q_min ((σ6 221 2) + 1) 8))) (lv1 := [(0, .ref 221), (1, .ref r)]) (st1 := []) rfl ⟨rfl, trivial⟩ ?_
    exact q_vret C hr (q_dc (z := (65, .return_, 1, 0, 0)) tk_X2_push 35 rfl) hF rfl (Nat.le_of_ble_eq_true rfl) (Nat.le_of_ble_eq_true rfl)
  · rw [if_neg c3] at hF
    refine q_go C tk_X2_push [(8, 6)] [false] (pc1 := 26) (σ1 := σ1) (lv1 := [(0, .ref 221), (1, .ref r)]) (st1 := [.int 8, .int (σ1 221 1)]) rfl ⟨c3, rfl, rfl, rfl, trivial⟩ ?_
    by_cases c8 : (σ1 221 1) < 8
    · rw [if_pos c8] at hF
      refine q_go C tk_X2_push [(14, 1), (18, 6)] [true] (pc1 := 44) (σ1 := σ1) (lv1 := [(0, .ref 221), (1, .ref r)]) (st1 := [.ref r, .ref (60 + 20 * ((σ1 221 1)).toNatClampNeg)]) rfl ⟨c8, rfl, rfl, rfl, (((hP σ1 e2).2 c3).1 c8).1, trivial⟩ ?_
      refine q_callV C hfl mw_X4_copyFrom mi_X4_copyFrom me_X4_copyFrom lk_X2_22 (k_X4_copyFrom (60 + 20 * ((σ1 221 1)).toNatClampNeg) r σ1 (q_kd_ro (((hP σ1 e2).2 c3).1 c8).1) h_r (((hP σ1 e2).2 c3).1 c8).2.1) (rest := []) rfl (q_kd_ro (((hP σ1 e2).2 c3).1 c8).1) rfl (by decide) (by decide) rfl (q_dc (z := (44, .invokevirtual 22, 3, 0, 0)) tk_X2_push 24 rfl) (Nat.le_of_ble_eq_true rfl) ⟨Nat.le_of_ble_eq_true rfl, Nat.le_of_ble_eq_true rfl⟩ ⟨Nat.le_of_ble_eq_true rfl, Nat.le_of_ble_eq_true rfl⟩ ?_
      refine q_nrm 47 [] 0 0 rfl rfl rfl rfl ?_
      generalize e10 : (F_X4_copyFrom (60 + 20 * ((σ1 221 1)).toNatClampNeg) r σ1) = σ9
      replace hF := q_let e10 hF
      refine q_go C tk_X2_push [(25, 8)] [] (pc1 := 59) (σ1 := σ9) (lv1 := [(0, .ref 221), (1, .ref r)]) (st1 := [.int 8, .int ((σ9 221 2) + 1), .ref 221]) rfl ⟨rfl, rfl, rfl, trivial⟩ ?_
      refine q_mmin C lk_X2_29 (q_dc (z := (59, .invokestatic 29, 3, 0, 0)) tk_X2_push 33 rfl) (Nat.le_of_ble_eq_true rfl) ⟨Nat.le_of_ble_eq_true rfl, Nat.le_of_ble_eq_true rfl⟩ ⟨Nat.le_of_ble_eq_true rfl, Nat.le_of_ble_eq_true rfl⟩ ?_
      refine q_nrm 62 [.int (q_min ((σ9 221 2) + 1) 8), .ref 221] 0 0 rfl rfl rfl rfl ?_
      refine q_go C tk_X2_push [(34, 1)] [] (pc1 := 65) (σ1 := (q_up σ9 221 2 (q_min ((σ9 221 2) + 1) 8))) (lv1 := [(0, .ref 221), (1, .ref r)]) (st1 := []) rfl ⟨rfl, trivial⟩ ?_
      exact q_vret C hr (q_dc (z := (65, .return_, 1, 0, 0)) tk_X2_push 35 rfl) hF rfl (Nat.le_of_ble_eq_true rfl) (Nat.le_of_ble_eq_true rfl)
    · rw [if_neg c8] at hF
      refine q_go C tk_X2_push [(14, 10)] [false] (pc1 := 44) (σ1 := (q_up σ1 221 1 0)) (lv1 := [(0, .ref 221), (1, .ref r)]) (st1 := [.ref r, .ref (60 + 20 * (0 : Int32).toNatClampNeg)]) rfl ⟨c8, rfl, rfl, rfl, rfl, (((hP σ1 e2).2 c3).2 c8).1, trivial⟩ ?_
      generalize e12 : (q_up σ1 221 1 0) = σ11
      replace hF := q_let e12 hF
      refine q_callV C hfl mw_X4_copyFrom mi_X4_copyFrom me_X4_copyFrom lk_X2_22 (k_X4_copyFrom (60 + 20 * (0 : Int32).toNatClampNeg) r σ11 (q_kd_ro (((hP σ1 e2).2 c3).2 c8).1) h_r ((((hP σ1 e2).2 c3).2 c8).2 σ11 e12).1) (rest := []) rfl (q_kd_ro (((hP σ1 e2).2 c3).2 c8).1) rfl (by decide) (by decide) rfl (q_dc (z := (44, .invokevirtual 22, 3, 0, 0)) tk_X2_push 24 rfl) (Nat.le_of_ble_eq_true rfl) ⟨Nat.le_of_ble_eq_true rfl, Nat.le_of_ble_eq_true rfl⟩ ⟨Nat.le_of_ble_eq_true rfl, Nat.le_of_ble_eq_true rfl⟩ ?_
      refine q_nrm 47 [] 0 0 rfl rfl rfl rfl ?_
      generalize e14 : (F_X4_copyFrom (60 + 20 * (0 : Int32).toNatClampNeg) r σ11) = σ13
      replace hF := q_let e14 hF
      refine q_go C tk_X2_push [(25, 8)] [] (pc1 := 59) (σ1 := σ13) (lv1 := [(0, .ref 221), (1, .ref r)]) (st1 := [.int 8, .int ((σ13 221 2) + 1), .ref 221]) rfl ⟨rfl, rfl, rfl, trivial⟩ ?_
      refine q_mmin C lk_X2_29 (q_dc (z := (59, .invokestatic 29, 3, 0, 0)) tk_X2_push 33 rfl) (Nat.le_of_ble_eq_true rfl) ⟨Nat.le_of_ble_eq_true rfl, Nat.le_of_ble_eq_true rfl⟩ ⟨Nat.le_of_ble_eq_true rfl, Nat.le_of_ble_eq_true rfl⟩ ?_
      refine q_nrm 62 [.int (q_min ((σ13 221 2) + 1) 8), .ref 221] 0 0 rfl rfl rfl rfl ?_
      refine q_go C tk_X2_push [(34, 1)] [] (pc1 := 65) (σ1 := (q_up σ13 221 2 (q_min ((σ13 221 2) + 1) 8))) (lv1 := [(0, .ref 221), (1, .ref r)]) (st1 := []) rfl ⟨rfl, trivial⟩ ?_
      exact q_vret C hr (q_dc (z := (65, .return_, 1, 0, 0)) tk_X2_push 35 rfl) hF rfl (Nat.le_of_ble_eq_true rfl) (Nat.le_of_ble_eq_true rfl)
def F_X2_popInto (r : Nat) (σ : q_M) : q_M := (if 0 < (σ 221 2) then (if (σ 221 1) < 0 then σ else (if (σ 221 1) < 8 then (q_L (F_X4_copyFrom r (60 + 20 * ((σ 221 1)).toNatClampNeg) σ) (fun σ4 : q_M => (q_L (if 0 < (σ4 221 1) then ((σ4 221 1) - 1) else (8 - 1)) (fun x7 : Int32 => (q_L (q_up σ4 221 1 x7) (fun σ9 : q_M => (q_L (q_up σ9 221 2 ((σ9 221 2) - 1)) (fun σ11 : q_M => σ11)))))))) else σ)) else σ)
def P_X2_popInto (r : Nat) (σ : q_M) : Prop := ((0 < (σ 221 2) → (((σ 221 1) < 0 → True) ∧ (¬ (σ 221 1) < 0 → (((σ 221 1) < 8 → (vp_in (σ 221 1) 8 ∧ ((P_X4_copyFrom r (60 + 20 * ((σ 221 1)).toNatClampNeg) σ) ∧ True))) ∧ (¬ (σ 221 1) < 8 → True))))) ∧ (¬ 0 < (σ 221 2) → True))
set_option maxRecDepth 100000 in
theorem k_X2_popInto {α β : Nat → Nat} {D : va_G} {κ : Nat → ClassId} (r : Nat) (σ : q_M) (h_r : q_kd r = 6) (hP : P_X2_popInto r σ) : q_C α β D κ yX2_popInto cX2_popInto 2 (Option.none : Option Jvm.ClassFile.FieldType) 4 86 0 0 [.ref 221, .ref r] σ q_ov (F_X2_popInto r σ) := by
  refine q_enter (own := RX2) (F := F_X2) (G := G_X2) (by decide +kernel) rfl Fok_X2 Gok_X2 (Nat.le_of_ble_eq_true rfl) (fun p l e s m args below meth c A hfl C hr hT => ?_)
  generalize hF : F_X2_popInto r σ = rr
  unfold F_X2_popInto at hF
  refine q_go C tk_X2_popInto [(0, 2)] [] (pc1 := 4) (σ1 := σ) (lv1 := [(0, .ref 221), (1, .ref r)]) (st1 := [.int (σ 221 2)]) rfl ⟨rfl, trivial⟩ ?_
  by_cases c1 : 0 < (σ 221 2)
  · rw [if_pos c1] at hF
    refine q_go C tk_X2_popInto [(2, 3)] [false] (pc1 := 11) (σ1 := σ) (lv1 := [(0, .ref 221), (1, .ref r)]) (st1 := [.int (σ 221 1)]) rfl ⟨c1, rfl, trivial⟩ ?_
    by_cases c2 : (σ 221 1) < 0
    · rw [if_pos c2] at hF
      refine q_go C tk_X2_popInto [(5, 1)] [true] (pc1 := 76) (σ1 := σ) (lv1 := [(0, .ref 221), (1, .ref r)]) (st1 := []) rfl ⟨c2, trivial⟩ ?_
      exact q_vret C hr (q_dc (z := (76, .return_, 1, 0, 0)) tk_X2_popInto 40 rfl) hF rfl (Nat.le_of_ble_eq_true rfl) (Nat.le_of_ble_eq_true rfl)
    · rw [if_neg c2] at hF
      refine q_go C tk_X2_popInto [(5, 6)] [false] (pc1 := 23) (σ1 := σ) (lv1 := [(0, .ref 221), (1, .ref r)]) (st1 := [.int 8, .int (σ 221 1)]) rfl ⟨c2, rfl, rfl, rfl, trivial⟩ ?_
      by_cases c3 : (σ 221 1) < 8
      · rw [if_pos c3] at hF
        refine q_go C tk_X2_popInto [(11, 7)] [false] (pc1 := 36) (σ1 := σ) (lv1 := [(0, .ref 221), (1, .ref r)]) (st1 := [.ref (60 + 20 * ((σ 221 1)).toNatClampNeg), .ref r]) rfl ⟨c3, rfl, rfl, rfl, (((hP.1 c1).2 c2).1 c3).1, trivial⟩ ?_
        refine q_callV C hfl mw_X4_copyFrom mi_X4_copyFrom me_X4_copyFrom lk_X2_22 (k_X4_copyFrom r (60 + 20 * ((σ 221 1)).toNatClampNeg) σ h_r (q_kd_ro (((hP.1 c1).2 c2).1 c3).1) (((hP.1 c1).2 c2).1 c3).2.1) (rest := []) rfl h_r rfl (by decide) (by decide) rfl (q_dc (z := (36, .invokevirtual 22, 3, 0, 0)) tk_X2_popInto 18 rfl) (Nat.le_of_ble_eq_true rfl) ⟨Nat.le_of_ble_eq_true rfl, Nat.le_of_ble_eq_true rfl⟩ ⟨Nat.le_of_ble_eq_true rfl, Nat.le_of_ble_eq_true rfl⟩ ?_
        refine q_nrm 39 [] 0 0 rfl rfl rfl rfl ?_
        generalize e5 : (F_X4_copyFrom r (60 + 20 * ((σ 221 1)).toNatClampNeg) σ) = σ4
        replace hF := q_let e5 hF
        refine q_go C tk_X2_popInto [(19, 3)] [] (pc1 := 44) (σ1 := σ4) (lv1 := [(0, .ref 221), (1, .ref r)]) (st1 := [.int (σ4 221 1), .ref 221]) rfl ⟨rfl, trivial⟩ ?_
        refine q_mrg (v := (if 0 < (σ4 221 1) then ((σ4 221 1) - 1) else (8 - 1))) (M := 63) (σ1 := σ4) (lv1 := [(0, .ref 221), (1, .ref r)]) (st1 := [.ref 221]) (fun x7 e8 => ?_) (fun K => ?_)
        · replace hF := q_let e8 hF
          refine q_go C tk_X2_popInto [(33, 1)] [] (pc1 := 66) (σ1 := (q_up σ4 221 1 x7)) (lv1 := [(0, .ref 221), (1, .ref r)]) (st1 := []) rfl ⟨rfl, trivial⟩ ?_
          generalize e10 : (q_up σ4 221 1 x7) = σ9
          replace hF := q_let e10 hF
          refine q_go C tk_X2_popInto [(34, 6)] [] (pc1 := 76) (σ1 := (q_up σ9 221 2 ((σ9 221 2) - 1))) (lv1 := [(0, .ref 221), (1, .ref r)]) (st1 := []) rfl ⟨rfl, rfl, trivial⟩ ?_
          generalize e12 : (q_up σ9 221 2 ((σ9 221 2) - 1)) = σ11
          replace hF := q_let e12 hF
          exact q_vret C hr (q_dc (z := (76, .return_, 1, 0, 0)) tk_X2_popInto 40 rfl) hF rfl (Nat.le_of_ble_eq_true rfl) (Nat.le_of_ble_eq_true rfl)
        · clear hF
          by_cases c6 : 0 < (σ4 221 1)
          · skip
            refine q_go C tk_X2_popInto [(22, 6)] [false] (pc1 := 63) (σ1 := σ4) (lv1 := [(0, .ref 221), (1, .ref r)]) (st1 := [.int ((σ4 221 1) - 1), .ref 221]) rfl ⟨c6, rfl, trivial⟩ ?_
            rw [if_pos c6] at K; exact K
          · skip
            refine q_go C tk_X2_popInto [(22, 1), (28, 5)] [true] (pc1 := 63) (σ1 := σ4) (lv1 := [(0, .ref 221), (1, .ref r)]) (st1 := [.int (8 - 1), .ref 221]) rfl ⟨c6, rfl, rfl, trivial⟩ ?_
            rw [if_neg c6] at K; exact K
      · rw [if_neg c3] at hF
        refine q_go C tk_X2_popInto [(11, 1)] [true] (pc1 := 76) (σ1 := σ) (lv1 := [(0, .ref 221), (1, .ref r)]) (st1 := []) rfl ⟨c3, trivial⟩ ?_
        exact q_vret C hr (q_dc (z := (76, .return_, 1, 0, 0)) tk_X2_popInto 40 rfl) hF rfl (Nat.le_of_ble_eq_true rfl) (Nat.le_of_ble_eq_true rfl)
  · rw [if_neg c1] at hF
    refine q_go C tk_X2_popInto [(2, 1)] [true] (pc1 := 76) (σ1 := σ) (lv1 := [(0, .ref 221), (1, .ref r)]) (st1 := []) rfl ⟨c1, trivial⟩ ?_
    exact q_vret C hr (q_dc (z := (76, .return_, 1, 0, 0)) tk_X2_popInto 40 rfl) hF rfl (Nat.le_of_ble_eq_true rfl) (Nat.le_of_ble_eq_true rfl)
def F_X8_raise (f : Int32) (σ : q_M) : Option String := (if f = 11 then (some "java/lang/IndexOutOfBoundsException") else (if f = 12 then (some "java/lang/IllegalArgumentException") else (if f = 13 then (some "java/lang/IllegalStateException") else (if f = 14 then (some "java/lang/UnsupportedOperationException") else none))))
set_option maxRecDepth 100000 in
theorem k_X8_raise {α β : Nat → Nat} {D : va_G} {κ : Nat → ClassId} (f : Int32) (σ : q_M) : q_C α β D κ yX8_raise cX8_raise 1 (Option.none : Option Jvm.ClassFile.FieldType) 6 90 1 6 [q_e f] σ (q_oxv (F_X8_raise f σ)) σ := by
  refine q_enter (own := RX8) (F := F_X8) (G := G_X8) (by decide +kernel) rfl Fok_X8 Gok_X8 (Nat.le_of_ble_eq_true rfl) (fun p l e s m args below meth c A hfl C hr hT => ?_)
  generalize hF : F_X8_raise f σ = rr
  unfold F_X8_raise at hF
  refine q_go C tk_X8_raise [(0, 2)] [] (pc1 := 4) (σ1 := σ) (lv1 := [(0, q_e f)]) (st1 := [q_e 11, q_e f]) rfl trivial ?_
  by_cases c1 : f = 11
  · rw [if_pos c1] at hF
    refine q_go C tk_X8_raise [(2, 1)] [false] (pc1 := 7) (σ1 := σ) (lv1 := [(0, q_e f)]) (st1 := []) rfl ⟨(congrArg Int32.toUInt32 c1), trivial⟩ ?_
    exact q_throwW C hT hfl xk_IndexOutOfBoundsException (is := 345) (List.mem_of_getElem? (l := q_msg) (i := 0) rfl) (q_dc (z := (7, .new 293, 3, 0, 0)) tk_X8_raise 3 rfl) (q_dc (z := (10, .dup, 1, 0, 0)) tk_X8_raise 4 rfl) (q_dc (z := (11, .ldc_w 345, 3, 0, 0)) tk_X8_raise 5 rfl) (q_dc (z := (14, .invokespecial 297, 3, 0, 0)) tk_X8_raise 6 rfl) (q_dc (z := (17, .athrow, 1, 0, 0)) tk_X8_raise 7 rfl) (Nat.le_of_ble_eq_true rfl) (Nat.le_of_ble_eq_true rfl) (Nat.le_of_ble_eq_true rfl) (Nat.le_of_ble_eq_true rfl) (Nat.le_of_ble_eq_true rfl) rfl (congrArg q_oxv hF.symm) (Nat.le_of_ble_eq_true rfl) (Nat.le_of_ble_eq_true rfl)
  · rw [if_neg c1] at hF
    refine q_go C tk_X8_raise [(2, 1), (8, 2)] [true] (pc1 := 22) (σ1 := σ) (lv1 := [(0, q_e f)]) (st1 := [q_e 12, q_e f]) rfl ⟨(fun q => c1 (q_u32 q)), trivial⟩ ?_
    by_cases c2 : f = 12
    · rw [if_pos c2] at hF
      refine q_go C tk_X8_raise [(10, 1)] [false] (pc1 := 25) (σ1 := σ) (lv1 := [(0, q_e f)]) (st1 := []) rfl ⟨(congrArg Int32.toUInt32 c2), trivial⟩ ?_
      exact q_throwW C hT hfl xk_IllegalArgumentException (is := 350) (List.mem_of_getElem? (l := q_msg) (i := 1) rfl) (q_dc (z := (25, .new 205, 3, 0, 0)) tk_X8_raise 11 rfl) (q_dc (z := (28, .dup, 1, 0, 0)) tk_X8_raise 12 rfl) (q_dc (z := (29, .ldc_w 350, 3, 0, 0)) tk_X8_raise 13 rfl) (q_dc (z := (32, .invokespecial 209, 3, 0, 0)) tk_X8_raise 14 rfl) (q_dc (z := (35, .athrow, 1, 0, 0)) tk_X8_raise 15 rfl) (Nat.le_of_ble_eq_true rfl) (Nat.le_of_ble_eq_true rfl) (Nat.le_of_ble_eq_true rfl) (Nat.le_of_ble_eq_true rfl) (Nat.le_of_ble_eq_true rfl) rfl (congrArg q_oxv hF.symm) (Nat.le_of_ble_eq_true rfl) (Nat.le_of_ble_eq_true rfl)
    · rw [if_neg c2] at hF
      refine q_go C tk_X8_raise [(10, 1), (16, 2)] [true] (pc1 := 40) (σ1 := σ) (lv1 := [(0, q_e f)]) (st1 := [q_e 13, q_e f]) rfl ⟨(fun q => c2 (q_u32 q)), trivial⟩ ?_
      by_cases c3 : f = 13
      · rw [if_pos c3] at hF
        refine q_go C tk_X8_raise [(18, 1)] [false] (pc1 := 43) (σ1 := σ) (lv1 := [(0, q_e f)]) (st1 := []) rfl ⟨(congrArg Int32.toUInt32 c3), trivial⟩ ?_
        exact q_throwW C hT hfl xk_IllegalStateException (is := 355) (List.mem_of_getElem? (l := q_msg) (i := 2) rfl) (q_dc (z := (43, .new 261, 3, 0, 0)) tk_X8_raise 19 rfl) (q_dc (z := (46, .dup, 1, 0, 0)) tk_X8_raise 20 rfl) (q_dc (z := (47, .ldc_w 355, 3, 0, 0)) tk_X8_raise 21 rfl) (q_dc (z := (50, .invokespecial 265, 3, 0, 0)) tk_X8_raise 22 rfl) (q_dc (z := (53, .athrow, 1, 0, 0)) tk_X8_raise 23 rfl) (Nat.le_of_ble_eq_true rfl) (Nat.le_of_ble_eq_true rfl) (Nat.le_of_ble_eq_true rfl) (Nat.le_of_ble_eq_true rfl) (Nat.le_of_ble_eq_true rfl) rfl (congrArg q_oxv hF.symm) (Nat.le_of_ble_eq_true rfl) (Nat.le_of_ble_eq_true rfl)
      · rw [if_neg c3] at hF
        refine q_go C tk_X8_raise [(18, 1), (24, 2)] [true] (pc1 := 58) (σ1 := σ) (lv1 := [(0, q_e f)]) (st1 := [q_e 14, q_e f]) rfl ⟨(fun q => c3 (q_u32 q)), trivial⟩ ?_
        by_cases c4 : f = 14
        · rw [if_pos c4] at hF
          refine q_go C tk_X8_raise [(26, 1)] [false] (pc1 := 61) (σ1 := σ) (lv1 := [(0, q_e f)]) (st1 := []) rfl ⟨(congrArg Int32.toUInt32 c4), trivial⟩ ?_
          exact q_throwW C hT hfl xk_UnsupportedOperationException (is := 360) (List.mem_of_getElem? (l := q_msg) (i := 3) rfl) (q_dc (z := (61, .new 266, 3, 0, 0)) tk_X8_raise 27 rfl) (q_dc (z := (64, .dup, 1, 0, 0)) tk_X8_raise 28 rfl) (q_dc (z := (65, .ldc_w 360, 3, 0, 0)) tk_X8_raise 29 rfl) (q_dc (z := (68, .invokespecial 270, 3, 0, 0)) tk_X8_raise 30 rfl) (q_dc (z := (71, .athrow, 1, 0, 0)) tk_X8_raise 31 rfl) (Nat.le_of_ble_eq_true rfl) (Nat.le_of_ble_eq_true rfl) (Nat.le_of_ble_eq_true rfl) (Nat.le_of_ble_eq_true rfl) (Nat.le_of_ble_eq_true rfl) rfl (congrArg q_oxv hF.symm) (Nat.le_of_ble_eq_true rfl) (Nat.le_of_ble_eq_true rfl)
        · rw [if_neg c4] at hF
          refine q_go C tk_X8_raise [(26, 1)] [true] (pc1 := 72) (σ1 := σ) (lv1 := [(0, q_e f)]) (st1 := []) rfl ⟨(fun q => c4 (q_u32 q)), trivial⟩ ?_
          exact q_vret C hr (q_dc (z := (72, .return_, 1, 0, 0)) tk_X8_raise 32 rfl) rfl (congrArg q_oxv hF.symm) (Nat.le_of_ble_eq_true rfl) (Nat.le_of_ble_eq_true rfl)
def F_X8_teamWith (n : Int32) (σ : q_M) : Nat ⊕ String := (match (F_X4_find 0 n σ) with | some v1 => (.inl v1) | none => (.inr "java/lang/IndexOutOfBoundsException"))
set_option maxRecDepth 100000 in
theorem k_X8_teamWith {α β : Nat → Nat} {D : va_G} {κ : Nat → ClassId} (n : Int32) (σ : q_M) : q_C α β D κ yX8_teamWith cX8_teamWith 3 (Option.some (Jvm.ClassFile.FieldType.object "QuillRelay$Team")) 6 90 1 6 [.ref 220, .int n] σ (q_oxr (F_X8_teamWith n σ)) σ := by
  refine q_enter (own := RX8) (F := F_X8) (G := G_X8) (by decide +kernel) rfl Fok_X8 Gok_X8 (Nat.le_of_ble_eq_true rfl) (fun p l e s m args below meth c A hfl C hr hT => ?_)
  generalize hF : F_X8_teamWith n σ = rr
  unfold F_X8_teamWith at hF
  refine q_go C tk_X8_teamWith [(0, 3)] [] (pc1 := 5) (σ1 := σ) (lv1 := [(0, .ref 220), (1, .int n)]) (st1 := [.int n, .ref 0]) rfl ⟨rfl, trivial⟩ ?_
  have hc3 := (k_X4_find0 (α := α) (β := β) (D := D) (κ := κ) 0 n σ rfl)
  cases hx2 : (F_X4_find 0 n σ) with
  | some v1 =>
    rw [hx2] at hc3 hF
    dsimp only at hF
    refine q_callV C hfl mw_X4_find mi_X4_find me_X4_find lk_X8_362 hc3 (rest := []) rfl rfl rfl (by decide) (by decide) rfl (q_dc (z := (5, .invokevirtual 362, 3, 0, 0)) tk_X8_teamWith 3 rfl) (Nat.le_of_ble_eq_true rfl) ⟨Nat.le_of_ble_eq_true rfl, Nat.le_of_ble_eq_true rfl⟩ ⟨Nat.le_of_ble_eq_true rfl, Nat.le_of_ble_eq_true rfl⟩ ?_
    refine q_nrm 8 [.ref v1] 0 0 rfl rfl rfl rfl ?_
    refine q_go C tk_X8_teamWith [(4, 3), (12, 1)] [] (pc1 := 25) (σ1 := σ) (lv1 := [(2, .ref v1), (0, .ref 220), (1, .int n)]) (st1 := [.ref v1]) rfl trivial ?_
    exact q_aret C hr (q_dc (z := (25, .areturn, 1, 0, 0)) tk_X8_teamWith 13 rfl) q_rref rfl (congrArg q_oxr hF.symm) (Nat.le_of_ble_eq_true rfl) (Nat.le_of_ble_eq_true rfl)
  | none =>
    rw [hx2] at hc3 hF
    dsimp only at hF
    refine q_callV C hfl mw_X4_find mi_X4_find me_X4_find lk_X8_362 hc3 (rest := []) rfl rfl rfl (by decide) (by decide) rfl (q_dc (z := (5, .invokevirtual 362, 3, 0, 0)) tk_X8_teamWith 3 rfl) (Nat.le_of_ble_eq_true rfl) ⟨Nat.le_of_ble_eq_true rfl, Nat.le_of_ble_eq_true rfl⟩ ⟨Nat.le_of_ble_eq_true rfl, Nat.le_of_ble_eq_true rfl⟩ ?_
    refine q_nrm 8 [.null] 0 0 rfl rfl rfl rfl ?_
    refine q_go C tk_X8_teamWith [(4, 3)] [] (pc1 := 13) (σ1 := σ) (lv1 := [(2, .null), (0, .ref 220), (1, .int n)]) (st1 := []) rfl trivial ?_
    exact q_throwW C hT hfl xk_IndexOutOfBoundsException (is := 365) (List.mem_of_getElem? (l := q_msg) (i := 4) rfl) (q_dc (z := (13, .new 293, 3, 0, 0)) tk_X8_teamWith 7 rfl) (q_dc (z := (16, .dup, 1, 0, 0)) tk_X8_teamWith 8 rfl) (q_dc (z := (17, .ldc_w 365, 3, 0, 0)) tk_X8_teamWith 9 rfl) (q_dc (z := (20, .invokespecial 297, 3, 0, 0)) tk_X8_teamWith 10 rfl) (q_dc (z := (23, .athrow, 1, 0, 0)) tk_X8_teamWith 11 rfl) (Nat.le_of_ble_eq_true rfl) (Nat.le_of_ble_eq_true rfl) (Nat.le_of_ble_eq_true rfl) (Nat.le_of_ble_eq_true rfl) (Nat.le_of_ble_eq_true rfl) rfl (congrArg q_oxr hF.symm) (Nat.le_of_ble_eq_true rfl) (Nat.le_of_ble_eq_true rfl)
theorem f_X8_teamWith_kd {n : Int32} {σ : q_M} {t : Nat} (hx : F_X8_teamWith n σ = .inl t) : q_kd t = 7 := by
  unfold F_X8_teamWith at hx
  cases h : F_X4_find 0 n σ with
  | none => rw [h] at hx; cases hx
  | some k => rw [h] at hx; cases hx; exact f_X4_find_kd rfl h
def F_X8_teamWithLeg (n : Int32) (g : Int32) (σ : q_M) : Nat ⊕ String := (match (F_X8_teamWith n σ) with | .inl v1 => (if (F_X8_isLeg g σ) = 0 then (.inr "java/lang/IndexOutOfBoundsException") else (.inl v1)) | .inr E => (.inr E))
set_option maxRecDepth 100000 in
theorem k_X8_teamWithLeg {α β : Nat → Nat} {D : va_G} {κ : Nat → ClassId} (n : Int32) (g : Int32) (σ : q_M) : q_C α β D κ yX8_teamWithLeg cX8_teamWithLeg 4 (Option.some (Jvm.ClassFile.FieldType.object "QuillRelay$Team")) 7 112 2 12 [.ref 220, .int n, .int g] σ (q_oxr (F_X8_teamWithLeg n g σ)) σ := by
  refine q_enter (own := RX8) (F := F_X8) (G := G_X8) (by decide +kernel) rfl Fok_X8 Gok_X8 (Nat.le_of_ble_eq_true rfl) (fun p l e s m args below meth c A hfl C hr hT => ?_)
  generalize hF : F_X8_teamWithLeg n g σ = rr
  unfold F_X8_teamWithLeg at hF
  refine q_go C tk_X8_teamWithLeg [(0, 2)] [] (pc1 := 2) (σ1 := σ) (lv1 := [(0, .ref 220), (1, .int n), (2, .int g)]) (st1 := [.int n, .ref 220]) rfl trivial ?_
  have hc4 := (k_X8_teamWith (α := α) (β := β) (D := D) (κ := κ) n σ)
  cases hx2 : (F_X8_teamWith n σ) with
  | inl v1 =>
    rw [hx2] at hc4 hF
    dsimp only at hF
    refine q_callV C hfl mw_X8_teamWith mi_X8_teamWith me_X8_teamWith lk_X8_80 hc4 (rest := []) rfl rfl rfl (by decide) (by decide) rfl (q_dc (z := (2, .invokevirtual 80, 3, 0, 0)) tk_X8_teamWithLeg 2 rfl) (Nat.le_of_ble_eq_true rfl) ⟨Nat.le_of_ble_eq_true rfl, Nat.le_of_ble_eq_true rfl⟩ ⟨Nat.le_of_ble_eq_true rfl, Nat.le_of_ble_eq_true rfl⟩ ?_
    refine q_nrm 5 [.ref v1] 1 6 rfl rfl rfl rfl ?_
    refine q_go C tk_X8_teamWithLeg [(3, 2)] [] (pc1 := 7) (σ1 := σ) (lv1 := [(3, .ref v1), (0, .ref 220), (1, .int n), (2, .int g)]) (st1 := [.int g]) rfl trivial ?_
    refine q_callS C hfl mw_X8_isLeg ms_X8_isLeg lk_X8_367 (k_X8_isLeg g σ) (rest := []) rfl rfl (q_dc (z := (7, .invokestatic 367, 3, 0, 0)) tk_X8_teamWithLeg 5 rfl) (Nat.le_of_ble_eq_true rfl) ⟨Nat.le_of_ble_eq_true rfl, Nat.le_of_ble_eq_true rfl⟩ ⟨Nat.le_of_ble_eq_true rfl, Nat.le_of_ble_eq_true rfl⟩ ?_
    refine q_nrm 10 [.int (F_X8_isLeg g σ)] 1 6 rfl rfl rfl rfl ?_
    by_cases c3 : (F_X8_isLeg g σ) = 0
    · rw [if_pos c3] at hF
      refine q_go C tk_X8_teamWithLeg [(6, 1)] [false] (pc1 := 13) (σ1 := σ) (lv1 := [(3, .ref v1), (0, .ref 220), (1, .int n), (2, .int g)]) (st1 := []) rfl ⟨c3, trivial⟩ ?_
      exact q_throwW C hT hfl xk_IndexOutOfBoundsException (is := 370) (List.mem_of_getElem? (l := q_msg) (i := 6) rfl) (q_dc (z := (13, .new 293, 3, 0, 0)) tk_X8_teamWithLeg 7 rfl) (q_dc (z := (16, .dup, 1, 0, 0)) tk_X8_teamWithLeg 8 rfl) (q_dc (z := (17, .ldc_w 370, 3, 0, 0)) tk_X8_teamWithLeg 9 rfl) (q_dc (z := (20, .invokespecial 297, 3, 0, 0)) tk_X8_teamWithLeg 10 rfl) (q_dc (z := (23, .athrow, 1, 0, 0)) tk_X8_teamWithLeg 11 rfl) (Nat.le_of_ble_eq_true rfl) (Nat.le_of_ble_eq_true rfl) (Nat.le_of_ble_eq_true rfl) (Nat.le_of_ble_eq_true rfl) (Nat.le_of_ble_eq_true rfl) rfl (congrArg q_oxr hF.symm) (Nat.le_of_ble_eq_true rfl) (Nat.le_of_ble_eq_true rfl)
    · rw [if_neg c3] at hF
      refine q_go C tk_X8_teamWithLeg [(6, 1), (12, 1)] [true] (pc1 := 25) (σ1 := σ) (lv1 := [(3, .ref v1), (0, .ref 220), (1, .int n), (2, .int g)]) (st1 := [.ref v1]) rfl ⟨c3, trivial⟩ ?_
      exact q_aret C hr (q_dc (z := (25, .areturn, 1, 0, 0)) tk_X8_teamWithLeg 13 rfl) q_rref rfl (congrArg q_oxr hF.symm) (Nat.le_of_ble_eq_true rfl) (Nat.le_of_ble_eq_true rfl)
  | inr E =>
    rw [hx2] at hc4 hF
    dsimp only at hF
    refine q_callVx C hfl mw_X8_teamWith mi_X8_teamWith me_X8_teamWith lk_X8_80 hc4 (rest := []) rfl rfl rfl (by decide) (by decide) rfl (q_dc (z := (2, .invokevirtual 80, 3, 0, 0)) tk_X8_teamWithLeg 2 rfl) (Nat.le_of_ble_eq_true rfl) ⟨Nat.le_of_ble_eq_true rfl, Nat.le_of_ble_eq_true rfl⟩ ⟨Nat.le_of_ble_eq_true rfl, Nat.le_of_ble_eq_true rfl⟩ ?_
    exact q_xout C hT rfl (congrArg q_oxr hF.symm) (Nat.le_of_ble_eq_true rfl) (Nat.le_of_ble_eq_true rfl)
theorem f_X8_teamWithLeg_kd {n g : Int32} {σ : q_M} {t : Nat} (hx : F_X8_teamWithLeg n g σ = .inl t) : q_kd t = 7 := by
  unfold F_X8_teamWithLeg at hx
  cases h : F_X8_teamWith n σ with
  | inr E => rw [h] at hx; cases hx
  | inl k =>
    rw [h] at hx
    dsimp only at hx
    split at hx
    · cases hx
    · cases hx; exact f_X8_teamWith_kd h
def F_X8_finishedTeamWith (n : Int32) (σ : q_M) : Nat ⊕ String := (match (F_X8_teamWith n σ) with | .inl v1 => (if (σ v1 3) = 3 then (.inl v1) else (.inr "java/util/NoSuchElementException")) | .inr E => (.inr E))
set_option maxRecDepth 100000 in
theorem k_X8_finishedTeamWith {α β : Nat → Nat} {D : va_G} {κ : Nat → ClassId} (n : Int32) (σ : q_M) : q_C α β D κ yX8_finishedTeamWith cX8_finishedTeamWith 3 (Option.some (Jvm.ClassFile.FieldType.object "QuillRelay$Team")) 7 112 2 12 [.ref 220, .int n] σ (q_oxr (F_X8_finishedTeamWith n σ)) σ := by
  refine q_enter (own := RX8) (F := F_X8) (G := G_X8) (by decide +kernel) rfl Fok_X8 Gok_X8 (Nat.le_of_ble_eq_true rfl) (fun p l e s m args below meth c A hfl C hr hT => ?_)
  generalize hF : F_X8_finishedTeamWith n σ = rr
  unfold F_X8_finishedTeamWith at hF
  refine q_go C tk_X8_finishedTeamWith [(0, 2)] [] (pc1 := 2) (σ1 := σ) (lv1 := [(0, .ref 220), (1, .int n)]) (st1 := [.int n, .ref 220]) rfl trivial ?_
  have hc4 := (k_X8_teamWith (α := α) (β := β) (D := D) (κ := κ) n σ)
  cases hx2 : (F_X8_teamWith n σ) with
  | inl v1 =>
    rw [hx2] at hc4 hF
    dsimp only at hF
    refine q_callV C hfl mw_X8_teamWith mi_X8_teamWith me_X8_teamWith lk_X8_80 hc4 (rest := []) rfl rfl rfl (by decide) (by decide) rfl (q_dc (z := (2, .invokevirtual 80, 3, 0, 0)) tk_X8_finishedTeamWith 2 rfl) (Nat.le_of_ble_eq_true rfl) ⟨Nat.le_of_ble_eq_true rfl, Nat.le_of_ble_eq_true rfl⟩ ⟨Nat.le_of_ble_eq_true rfl, Nat.le_of_ble_eq_true rfl⟩ ?_
    refine q_nrm 5 [.ref v1] 1 6 rfl rfl rfl rfl ?_
    refine q_go C tk_X8_finishedTeamWith [(3, 4)] [] (pc1 := 13) (σ1 := σ) (lv1 := [(2, .ref v1), (0, .ref 220), (1, .int n)]) (st1 := [q_e 3, q_e (σ v1 3)]) rfl ⟨(f_X8_teamWith_kd  hx2), trivial⟩ ?_
    by_cases c3 : (σ v1 3) = 3
    · rw [if_pos c3] at hF
      refine q_go C tk_X8_finishedTeamWith [(7, 1), (13, 1)] [true] (pc1 := 28) (σ1 := σ) (lv1 := [(2, .ref v1), (0, .ref 220), (1, .int n)]) (st1 := [.ref v1]) rfl ⟨(congrArg Int32.toUInt32 c3), trivial⟩ ?_
      exact q_aret C hr (q_dc (z := (28, .areturn, 1, 0, 0)) tk_X8_finishedTeamWith 14 rfl) q_rref rfl (congrArg q_oxr hF.symm) (Nat.le_of_ble_eq_true rfl) (Nat.le_of_ble_eq_true rfl)
    · rw [if_neg c3] at hF
      refine q_go C tk_X8_finishedTeamWith [(7, 1)] [false] (pc1 := 16) (σ1 := σ) (lv1 := [(2, .ref v1), (0, .ref 220), (1, .int n)]) (st1 := []) rfl ⟨(fun q => c3 (q_u32 q)), trivial⟩ ?_
      exact q_throwNW C hT hfl (is := 375) (List.mem_of_getElem? (l := q_msg) (i := 9) rfl) (q_dc (z := (16, .new 169, 3, 0, 0)) tk_X8_finishedTeamWith 8 rfl) (q_dc (z := (19, .dup, 1, 0, 0)) tk_X8_finishedTeamWith 9 rfl) (q_dc (z := (20, .ldc_w 375, 3, 0, 0)) tk_X8_finishedTeamWith 10 rfl) (q_dc (z := (23, .invokespecial 173, 3, 0, 0)) tk_X8_finishedTeamWith 11 rfl) (q_dc (z := (26, .athrow, 1, 0, 0)) tk_X8_finishedTeamWith 12 rfl) (Nat.le_of_ble_eq_true rfl) (Nat.le_of_ble_eq_true rfl) (Nat.le_of_ble_eq_true rfl) (Nat.le_of_ble_eq_true rfl) (Nat.le_of_ble_eq_true rfl) rfl (congrArg q_oxr hF.symm) (Nat.le_of_ble_eq_true rfl) (Nat.le_of_ble_eq_true rfl)
  | inr E =>
    rw [hx2] at hc4 hF
    dsimp only at hF
    refine q_callVx C hfl mw_X8_teamWith mi_X8_teamWith me_X8_teamWith lk_X8_80 hc4 (rest := []) rfl rfl rfl (by decide) (by decide) rfl (q_dc (z := (2, .invokevirtual 80, 3, 0, 0)) tk_X8_finishedTeamWith 2 rfl) (Nat.le_of_ble_eq_true rfl) ⟨Nat.le_of_ble_eq_true rfl, Nat.le_of_ble_eq_true rfl⟩ ⟨Nat.le_of_ble_eq_true rfl, Nat.le_of_ble_eq_true rfl⟩ ?_
    exact q_xout C hT rfl (congrArg q_oxr hF.symm) (Nat.le_of_ble_eq_true rfl) (Nat.le_of_ble_eq_true rfl)
theorem f_X8_finishedTeamWith_kd {n : Int32} {σ : q_M} {t : Nat} (hx : F_X8_finishedTeamWith n σ = .inl t) : q_kd t = 7 := by
  unfold F_X8_finishedTeamWith at hx
  cases h : F_X8_teamWith n σ with
  | inr E => rw [h] at hx; cases hx
  | inl k =>
    rw [h] at hx
    dsimp only at hx
    split at hx
    · cases hx; exact f_X8_teamWith_kd h
    · cases hx
def F_X8_speedForReach (n : Int32) (g : Int32) (v : Int32) (σ : q_M) : Int32 ⊕ String := (match (F_X8_teamWithLeg n g σ) with | .inl v1 => (if v < 0 then (.inr "java/lang/IllegalArgumentException") else (if 999 < v then (.inr "java/lang/IllegalArgumentException") else (.inl (F_X6_speedOn v1 g σ)))) | .inr E => (.inr E))
def P_X8_speedForReach (n : Int32) (g : Int32) (v : Int32) (σ : q_M) : Prop := (∀ r, (F_X8_teamWithLeg n g σ) = r → match r with | .inl v1 => ((v < 0 → True) ∧ (¬ v < 0 → ((999 < v → True) ∧ (¬ 999 < v → ((P_X6_speedOn v1 g σ) ∧ True))))) | .inr E => True)
set_option maxRecDepth 100000 in
theorem k_X8_speedForReach {α β : Nat → Nat} {D : va_G} {κ : Nat → ClassId} (n : Int32) (g : Int32) (v : Int32) (σ : q_M) (hP : P_X8_speedForReach n g v σ) : q_C α β D κ yX8_speedForReach cX8_speedForReach 5 (Option.some Jvm.ClassFile.FieldType.int) 8 135 3 18 [.ref 220, .int n, .int g, .int v] σ (q_oxi (F_X8_speedForReach n g v σ)) σ := by
  refine q_enter (own := RX8) (F := F_X8) (G := G_X8) (by decide +kernel) rfl Fok_X8 Gok_X8 (Nat.le_of_ble_eq_true rfl) (fun p l e s m args below meth c A hfl C hr hT => ?_)
  generalize hF : F_X8_speedForReach n g v σ = rr
  unfold F_X8_speedForReach at hF
  refine q_go C tk_X8_speedForReach [(0, 3)] [] (pc1 := 3) (σ1 := σ) (lv1 := [(0, .ref 220), (1, .int n), (2, .int g), (3, .int v)]) (st1 := [.int g, .int n, .ref 220]) rfl trivial ?_
  have hc5 := (k_X8_teamWithLeg (α := α) (β := β) (D := D) (κ := κ) n g σ)
  have hp6 := hP _ rfl
  cases hx2 : (F_X8_teamWithLeg n g σ) with
  | inl v1 =>
    rw [hx2] at hc5 hF
    dsimp only at hF
    rw [hx2] at hp6
    refine q_callV C hfl mw_X8_teamWithLeg mi_X8_teamWithLeg me_X8_teamWithLeg lk_X8_176 hc5 (rest := []) rfl rfl rfl (by decide) (by decide) rfl (q_dc (z := (3, .invokevirtual 176, 3, 0, 0)) tk_X8_speedForReach 3 rfl) (Nat.le_of_ble_eq_true rfl) ⟨Nat.le_of_ble_eq_true rfl, Nat.le_of_ble_eq_true rfl⟩ ⟨Nat.le_of_ble_eq_true rfl, Nat.le_of_ble_eq_true rfl⟩ ?_
    refine q_nrm 6 [.ref v1] 2 12 rfl rfl rfl rfl ?_
    refine q_go C tk_X8_speedForReach [(4, 2)] [] (pc1 := 9) (σ1 := σ) (lv1 := [(4, .ref v1), (0, .ref 220), (1, .int n), (2, .int g), (3, .int v)]) (st1 := [.int v]) rfl trivial ?_
    by_cases c3 : v < 0
    · rw [if_pos c3] at hF
      refine q_go C tk_X8_speedForReach [(6, 1)] [true] (pc1 := 19) (σ1 := σ) (lv1 := [(4, .ref v1), (0, .ref 220), (1, .int n), (2, .int g), (3, .int v)]) (st1 := []) rfl ⟨c3, trivial⟩ ?_
      exact q_throwW C hT hfl xk_IllegalArgumentException (is := 377) (List.mem_of_getElem? (l := q_msg) (i := 12) rfl) (q_dc (z := (19, .new 205, 3, 0, 0)) tk_X8_speedForReach 10 rfl) (q_dc (z := (22, .dup, 1, 0, 0)) tk_X8_speedForReach 11 rfl) (q_dc (z := (23, .ldc_w 377, 3, 0, 0)) tk_X8_speedForReach 12 rfl) (q_dc (z := (26, .invokespecial 209, 3, 0, 0)) tk_X8_speedForReach 13 rfl) (q_dc (z := (29, .athrow, 1, 0, 0)) tk_X8_speedForReach 14 rfl) (Nat.le_of_ble_eq_true rfl) (Nat.le_of_ble_eq_true rfl) (Nat.le_of_ble_eq_true rfl) (Nat.le_of_ble_eq_true rfl) (Nat.le_of_ble_eq_true rfl) rfl (congrArg q_oxi hF.symm) (Nat.le_of_ble_eq_true rfl) (Nat.le_of_ble_eq_true rfl)
    · rw [if_neg c3] at hF
      refine q_go C tk_X8_speedForReach [(6, 3)] [false] (pc1 := 16) (σ1 := σ) (lv1 := [(4, .ref v1), (0, .ref 220), (1, .int n), (2, .int g), (3, .int v)]) (st1 := [.int 999, .int v]) rfl ⟨c3, trivial⟩ ?_
      by_cases c4 : 999 < v
      · rw [if_pos c4] at hF
        refine q_go C tk_X8_speedForReach [(9, 1)] [false] (pc1 := 19) (σ1 := σ) (lv1 := [(4, .ref v1), (0, .ref 220), (1, .int n), (2, .int g), (3, .int v)]) (st1 := []) rfl ⟨c4, trivial⟩ ?_
        exact q_throwW C hT hfl xk_IllegalArgumentException (is := 377) (List.mem_of_getElem? (l := q_msg) (i := 12) rfl) (q_dc (z := (19, .new 205, 3, 0, 0)) tk_X8_speedForReach 10 rfl) (q_dc (z := (22, .dup, 1, 0, 0)) tk_X8_speedForReach 11 rfl) (q_dc (z := (23, .ldc_w 377, 3, 0, 0)) tk_X8_speedForReach 12 rfl) (q_dc (z := (26, .invokespecial 209, 3, 0, 0)) tk_X8_speedForReach 13 rfl) (q_dc (z := (29, .athrow, 1, 0, 0)) tk_X8_speedForReach 14 rfl) (Nat.le_of_ble_eq_true rfl) (Nat.le_of_ble_eq_true rfl) (Nat.le_of_ble_eq_true rfl) (Nat.le_of_ble_eq_true rfl) (Nat.le_of_ble_eq_true rfl) rfl (congrArg q_oxi hF.symm) (Nat.le_of_ble_eq_true rfl) (Nat.le_of_ble_eq_true rfl)
      · rw [if_neg c4] at hF
        refine q_go C tk_X8_speedForReach [(9, 1), (15, 2)] [true] (pc1 := 33) (σ1 := σ) (lv1 := [(4, .ref v1), (0, .ref 220), (1, .int n), (2, .int g), (3, .int v)]) (st1 := [.int g, .ref v1]) rfl ⟨c4, trivial⟩ ?_
        refine q_callV C hfl mw_X6_speedOn mi_X6_speedOn me_X6_speedOn lk_X8_180 (k_X6_speedOn v1 g σ (f_X8_teamWithLeg_kd  hx2) ((hp6.2 c3).2 c4).1) (rest := []) rfl (f_X8_teamWithLeg_kd  hx2) rfl (by decide) (by decide) rfl (q_dc (z := (33, .invokevirtual 180, 3, 0, 0)) tk_X8_speedForReach 17 rfl) (Nat.le_of_ble_eq_true rfl) ⟨Nat.le_of_ble_eq_true rfl, Nat.le_of_ble_eq_true rfl⟩ ⟨Nat.le_of_ble_eq_true rfl, Nat.le_of_ble_eq_true rfl⟩ ?_
        refine q_nrm 36 [.int (F_X6_speedOn v1 g σ)] 2 12 rfl rfl rfl rfl ?_
        exact q_iret C hr (q_dc (z := (36, .ireturn, 1, 0, 0)) tk_X8_speedForReach 18 rfl) rfl (congrArg q_oxi hF.symm) (Nat.le_of_ble_eq_true rfl) (Nat.le_of_ble_eq_true rfl)
  | inr E =>
    rw [hx2] at hc5 hF
    dsimp only at hF
    rw [hx2] at hp6
    refine q_callVx C hfl mw_X8_teamWithLeg mi_X8_teamWithLeg me_X8_teamWithLeg lk_X8_176 hc5 (rest := []) rfl rfl rfl (by decide) (by decide) rfl (q_dc (z := (3, .invokevirtual 176, 3, 0, 0)) tk_X8_speedForReach 3 rfl) (Nat.le_of_ble_eq_true rfl) ⟨Nat.le_of_ble_eq_true rfl, Nat.le_of_ble_eq_true rfl⟩ ⟨Nat.le_of_ble_eq_true rfl, Nat.le_of_ble_eq_true rfl⟩ ?_
    exact q_xout C hT rfl (congrArg q_oxi hF.symm) (Nat.le_of_ble_eq_true rfl) (Nat.le_of_ble_eq_true rfl)
def F_X8_faultOfPassing (n : Int32) (σ : q_M) : (Int32) × q_M := (match (F_X4_find 0 n σ) with | some v1 => (if (σ v1 3) = 2 then (q_L (F_X6_reasonToRefuse v1 (σ 0 3) σ) (fun x4 : Int32 => (if x4 = 0 then (10, σ) else (14, (q_up (q_up σ 220 7 x4) 220 8 n))))) else (13, σ)) | none => (11, σ))
set_option maxRecDepth 100000 in
theorem k_X8_faultOfPassing {α β : Nat → Nat} {D : va_G} {κ : Nat → ClassId} (n : Int32) (σ : q_M) : q_C α β D κ yX8_faultOfPassing cX8_faultOfPassing 4 (Option.some (Jvm.ClassFile.FieldType.object "QuillRelay$Fault")) 2 42 0 0 [.ref 220, .int n] σ (q_oe (F_X8_faultOfPassing n σ).1) (F_X8_faultOfPassing n σ).2 := by
  refine q_enter (own := RX8) (F := F_X8) (G := G_X8) (by decide +kernel) rfl Fok_X8 Gok_X8 (Nat.le_of_ble_eq_true rfl) (fun p l e s m args below meth c A hfl C hr hT => ?_)
  generalize hF : F_X8_faultOfPassing n σ = rr
  unfold F_X8_faultOfPassing at hF
  refine q_go C tk_X8_faultOfPassing [(0, 3)] [] (pc1 := 5) (σ1 := σ) (lv1 := [(0, .ref 220), (1, .int n)]) (st1 := [.int n, .ref 0]) rfl ⟨rfl, trivial⟩ ?_
  have hc7 := (k_X4_find0 (α := α) (β := β) (D := D) (κ := κ) 0 n σ rfl)
  cases hx2 : (F_X4_find 0 n σ) with
  | some v1 =>
    rw [hx2] at hc7 hF
    dsimp only at hF
    refine q_callV C hfl mw_X4_find mi_X4_find me_X4_find lk_X8_362 hc7 (rest := []) rfl rfl rfl (by decide) (by decide) rfl (q_dc (z := (5, .invokevirtual 362, 3, 0, 0)) tk_X8_faultOfPassing 3 rfl) (Nat.le_of_ble_eq_true rfl) ⟨Nat.le_of_ble_eq_true rfl, Nat.le_of_ble_eq_true rfl⟩ ⟨Nat.le_of_ble_eq_true rfl, Nat.le_of_ble_eq_true rfl⟩ ?_
    refine q_nrm 8 [.ref v1] 0 0 rfl rfl rfl rfl ?_
    refine q_go C tk_X8_faultOfPassing [(4, 3), (9, 3)] [] (pc1 := 24) (σ1 := σ) (lv1 := [(2, .ref v1), (0, .ref 220), (1, .int n)]) (st1 := [q_e 2, q_e (σ v1 3)]) rfl ⟨(f_X4_find_kd rfl hx2), trivial⟩ ?_
    by_cases c3 : (σ v1 3) = 2
    · rw [if_pos c3] at hF
      refine q_go C tk_X8_faultOfPassing [(12, 1), (15, 4)] [true] (pc1 := 39) (σ1 := σ) (lv1 := [(2, .ref v1), (0, .ref 220), (1, .int n)]) (st1 := [.int (σ 0 3), .ref v1]) rfl ⟨(congrArg Int32.toUInt32 c3), rfl, rfl, trivial⟩ ?_
      refine q_callV C hfl mw_X6_reasonToRefuse mi_X6_reasonToRefuse me_X6_reasonToRefuse lk_X8_379 (k_X6_reasonToRefuse v1 (σ 0 3) σ (f_X4_find_kd rfl hx2)) (rest := []) rfl (f_X4_find_kd rfl hx2) rfl (by decide) (by decide) rfl (q_dc (z := (39, .invokevirtual 379, 3, 0, 0)) tk_X8_faultOfPassing 19 rfl) (Nat.le_of_ble_eq_true rfl) ⟨Nat.le_of_ble_eq_true rfl, Nat.le_of_ble_eq_true rfl⟩ ⟨Nat.le_of_ble_eq_true rfl, Nat.le_of_ble_eq_true rfl⟩ ?_
      refine q_nrm 42 [.int (F_X6_reasonToRefuse v1 (σ 0 3) σ)] 0 0 rfl rfl rfl rfl ?_
      generalize e5 : (F_X6_reasonToRefuse v1 (σ 0 3) σ) = x4
      replace hF := q_let e5 hF
      refine q_go C tk_X8_faultOfPassing [(20, 2)] [] (pc1 := 44) (σ1 := σ) (lv1 := [(3, .int x4), (2, .ref v1), (0, .ref 220), (1, .int n)]) (st1 := [.int x4]) rfl trivial ?_
      by_cases c6 : x4 = 0
      · rw [if_pos c6] at hF
        refine q_go C tk_X8_faultOfPassing [(22, 2)] [false] (pc1 := 50) (σ1 := σ) (lv1 := [(3, .int x4), (2, .ref v1), (0, .ref 220), (1, .int n)]) (st1 := [q_e 10]) rfl ⟨c6, trivial⟩ ?_
        exact q_aret C hr (q_dc (z := (50, .areturn, 1, 0, 0)) tk_X8_faultOfPassing 24 rfl) q_renm (congrArg Prod.snd hF) (congrArg (fun z => q_oe z.1) hF.symm) (Nat.le_of_ble_eq_true rfl) (Nat.le_of_ble_eq_true rfl)
      · rw [if_neg c6] at hF
        refine q_go C tk_X8_faultOfPassing [(22, 1), (25, 7)] [true] (pc1 := 64) (σ1 := (q_up (q_up σ 220 7 x4) 220 8 n)) (lv1 := [(3, .int x4), (2, .ref v1), (0, .ref 220), (1, .int n)]) (st1 := [q_e 14]) rfl ⟨c6, rfl, rfl, trivial⟩ ?_
        exact q_aret C hr (q_dc (z := (64, .areturn, 1, 0, 0)) tk_X8_faultOfPassing 32 rfl) q_renm (congrArg Prod.snd hF) (congrArg (fun z => q_oe z.1) hF.symm) (Nat.le_of_ble_eq_true rfl) (Nat.le_of_ble_eq_true rfl)
    · rw [if_neg c3] at hF
      refine q_go C tk_X8_faultOfPassing [(12, 2)] [false] (pc1 := 30) (σ1 := σ) (lv1 := [(2, .ref v1), (0, .ref 220), (1, .int n)]) (st1 := [q_e 13]) rfl ⟨(fun q => c3 (q_u32 q)), trivial⟩ ?_
      exact q_aret C hr (q_dc (z := (30, .areturn, 1, 0, 0)) tk_X8_faultOfPassing 14 rfl) q_renm (congrArg Prod.snd hF) (congrArg (fun z => q_oe z.1) hF.symm) (Nat.le_of_ble_eq_true rfl) (Nat.le_of_ble_eq_true rfl)
  | none =>
    rw [hx2] at hc7 hF
    dsimp only at hF
    refine q_callV C hfl mw_X4_find mi_X4_find me_X4_find lk_X8_362 hc7 (rest := []) rfl rfl rfl (by decide) (by decide) rfl (q_dc (z := (5, .invokevirtual 362, 3, 0, 0)) tk_X8_faultOfPassing 3 rfl) (Nat.le_of_ble_eq_true rfl) ⟨Nat.le_of_ble_eq_true rfl, Nat.le_of_ble_eq_true rfl⟩ ⟨Nat.le_of_ble_eq_true rfl, Nat.le_of_ble_eq_true rfl⟩ ?_
    refine q_nrm 8 [.null] 0 0 rfl rfl rfl rfl ?_
    refine q_go C tk_X8_faultOfPassing [(4, 4)] [] (pc1 := 16) (σ1 := σ) (lv1 := [(2, .null), (0, .ref 220), (1, .int n)]) (st1 := [q_e 11]) rfl trivial ?_
    exact q_aret C hr (q_dc (z := (16, .areturn, 1, 0, 0)) tk_X8_faultOfPassing 8 rfl) q_renm (congrArg Prod.snd hF) (congrArg (fun z => q_oe z.1) hF.symm) (Nat.le_of_ble_eq_true rfl) (Nat.le_of_ble_eq_true rfl)
def F_X8_addTeam (σ : q_M) : (Int32 ⊕ String) × q_M := (match (F_X8_raise (F_X4_faultOfEntering 0 σ) σ) with | none => (q_L (F_X2_push 0 σ) (fun σ3 : q_M => (q_L (F_X4_enterTeam 0 σ3).2 (fun σ5 : q_M => ((.inl (F_X4_enterTeam 0 σ3).1), σ5))))) | some E => ((.inr E), σ))
def P_X8_addTeam (σ : q_M) : Prop := ((P_X4_faultOfEntering 0 σ) ∧ (∀ r, (F_X8_raise (F_X4_faultOfEntering 0 σ) σ) = r → match r with | none => ((P_X2_push 0 σ) ∧ (∀ σ3 : q_M, (F_X2_push 0 σ) = σ3 → ((P_X4_enterTeam 0 σ3) ∧ True))) | some E => True))
set_option maxRecDepth 100000 in
theorem k_X8_addTeam {α β : Nat → Nat} {D : va_G} {κ : Nat → ClassId} (σ : q_M) (hP : P_X8_addTeam σ) : q_C α β D κ yX8_addTeam cX8_addTeam 1 (Option.some Jvm.ClassFile.FieldType.int) 7 110 1 6 [.ref 220] σ (q_oxi (F_X8_addTeam σ).1) (F_X8_addTeam σ).2 := by
  refine q_enter (own := RX8) (F := F_X8) (G := G_X8) (by decide +kernel) rfl Fok_X8 Gok_X8 (Nat.le_of_ble_eq_true rfl) (fun p l e s m args below meth c A hfl C hr hT => ?_)
  generalize hF : F_X8_addTeam σ = rr
  unfold F_X8_addTeam at hF
  refine q_go C tk_X8_addTeam [(0, 2)] [] (pc1 := 4) (σ1 := σ) (lv1 := [(0, .ref 220)]) (st1 := [.ref 0]) rfl ⟨rfl, trivial⟩ ?_
  refine q_callV C hfl mw_X4_faultOfEntering mi_X4_faultOfEntering me_X4_faultOfEntering lk_X8_60 (k_X4_faultOfEntering 0 σ rfl hP.1) (rest := []) rfl rfl rfl (by decide) (by decide) rfl (q_dc (z := (4, .invokevirtual 60, 3, 0, 0)) tk_X8_addTeam 2 rfl) (Nat.le_of_ble_eq_true rfl) ⟨Nat.le_of_ble_eq_true rfl, Nat.le_of_ble_eq_true rfl⟩ ⟨Nat.le_of_ble_eq_true rfl, Nat.le_of_ble_eq_true rfl⟩ ?_
  refine q_nrm 7 [q_e (F_X4_faultOfEntering 0 σ)] 0 0 rfl rfl rfl rfl ?_
  have hc7 := (k_X8_raise (α := α) (β := β) (D := D) (κ := κ) (F_X4_faultOfEntering 0 σ) σ)
  have hp8 := hP.2 _ rfl
  cases hx2 : (F_X8_raise (F_X4_faultOfEntering 0 σ) σ) with
  | none =>
    rw [hx2] at hc7 hF
    dsimp only at hF
    rw [hx2] at hp8
    refine q_callS C hfl mw_X8_raise ms_X8_raise lk_X8_64 hc7 (rest := []) rfl rfl (q_dc (z := (7, .invokestatic 64, 3, 0, 0)) tk_X8_addTeam 3 rfl) (Nat.le_of_ble_eq_true rfl) ⟨Nat.le_of_ble_eq_true rfl, Nat.le_of_ble_eq_true rfl⟩ ⟨Nat.le_of_ble_eq_true rfl, Nat.le_of_ble_eq_true rfl⟩ ?_
    refine q_nrm 10 [] 1 6 rfl rfl rfl rfl ?_
    refine q_go C tk_X8_addTeam [(4, 4)] [] (pc1 := 18) (σ1 := σ) (lv1 := [(0, .ref 220)]) (st1 := [.ref 0, .ref 221]) rfl ⟨rfl, rfl, trivial⟩ ?_
    refine q_callV C hfl mw_X2_push mi_X2_push me_X2_push lk_X8_68 (k_X2_push 0 σ rfl hp8.1) (rest := []) rfl rfl rfl (by decide) (by decide) rfl (q_dc (z := (18, .invokevirtual 68, 3, 0, 0)) tk_X8_addTeam 8 rfl) (Nat.le_of_ble_eq_true rfl) ⟨Nat.le_of_ble_eq_true rfl, Nat.le_of_ble_eq_true rfl⟩ ⟨Nat.le_of_ble_eq_true rfl, Nat.le_of_ble_eq_true rfl⟩ ?_
    refine q_nrm 21 [] 1 6 rfl rfl rfl rfl ?_
    generalize e4 : (F_X2_push 0 σ) = σ3
    replace hF := q_let e4 hF
    refine q_go C tk_X8_addTeam [(9, 2)] [] (pc1 := 25) (σ1 := σ3) (lv1 := [(0, .ref 220)]) (st1 := [.ref 0]) rfl ⟨rfl, trivial⟩ ?_
    refine q_callV C hfl mw_X4_enterTeam mi_X4_enterTeam me_X4_enterTeam lk_X8_72 (k_X4_enterTeam 0 σ3 rfl (hp8.2 σ3 e4).1) (rest := []) rfl rfl rfl (by decide) (by decide) rfl (q_dc (z := (25, .invokevirtual 72, 3, 0, 0)) tk_X8_addTeam 11 rfl) (Nat.le_of_ble_eq_true rfl) ⟨Nat.le_of_ble_eq_true rfl, Nat.le_of_ble_eq_true rfl⟩ ⟨Nat.le_of_ble_eq_true rfl, Nat.le_of_ble_eq_true rfl⟩ ?_
    refine q_nrm 28 [.int (F_X4_enterTeam 0 σ3).1] 1 6 rfl rfl rfl rfl ?_
    generalize e6 : (F_X4_enterTeam 0 σ3).2 = σ5
    replace hF := q_let e6 hF
    exact q_iret C hr (q_dc (z := (28, .ireturn, 1, 0, 0)) tk_X8_addTeam 12 rfl) (congrArg Prod.snd hF) (congrArg (fun z => q_oxi z.1) hF.symm) (Nat.le_of_ble_eq_true rfl) (Nat.le_of_ble_eq_true rfl)
  | some E =>
    rw [hx2] at hc7 hF
    dsimp only at hF
    rw [hx2] at hp8
    refine q_callSx C hfl mw_X8_raise ms_X8_raise lk_X8_64 hc7 (rest := []) rfl rfl (q_dc (z := (7, .invokestatic 64, 3, 0, 0)) tk_X8_addTeam 3 rfl) (Nat.le_of_ble_eq_true rfl) ⟨Nat.le_of_ble_eq_true rfl, Nat.le_of_ble_eq_true rfl⟩ ⟨Nat.le_of_ble_eq_true rfl, Nat.le_of_ble_eq_true rfl⟩ ?_
    exact q_xout C hT (congrArg Prod.snd hF) (congrArg (fun z => q_oxi z.1) hF.symm) (Nat.le_of_ble_eq_true rfl) (Nat.le_of_ble_eq_true rfl)
def F_X8_setSpeed (n : Int32) (g : Int32) (v : Int32) (σ : q_M) : (Int32 ⊕ String) × q_M := (match (F_X8_raise (F_X4_faultOfSpeed 0 n g v σ) σ) with | none => (q_L (F_X2_push 0 σ) (fun σ3 : q_M => (match (F_X8_teamWith n σ3) with | .inl v5 => (q_L (F_X6_changeSpeed v5 g v σ3).2 (fun σ7 : q_M => ((.inl (F_X6_changeSpeed v5 g v σ3).1), σ7))) | .inr E => ((.inr E), σ3)))) | some E => ((.inr E), σ))
def P_X8_setSpeed (n : Int32) (g : Int32) (v : Int32) (σ : q_M) : Prop := (∀ r, (F_X8_raise (F_X4_faultOfSpeed 0 n g v σ) σ) = r → match r with | none => ((P_X2_push 0 σ) ∧ (∀ σ3 : q_M, (F_X2_push 0 σ) = σ3 → (∀ r, (F_X8_teamWith n σ3) = r → match r with | .inl v5 => ((P_X6_changeSpeed v5 g v σ3) ∧ True) | .inr E => True))) | some E => True)
set_option maxRecDepth 100000 in
theorem k_X8_setSpeed {α β : Nat → Nat} {D : va_G} {κ : Nat → ClassId} (n : Int32) (g : Int32) (v : Int32) (σ : q_M) (hP : P_X8_setSpeed n g v σ) : q_C α β D κ yX8_setSpeed cX8_setSpeed 4 (Option.some Jvm.ClassFile.FieldType.int) 7 112 2 12 [.ref 220, .int n, .int g, .int v] σ (q_oxi (F_X8_setSpeed n g v σ).1) (F_X8_setSpeed n g v σ).2 := by
  refine q_enter (own := RX8) (F := F_X8) (G := G_X8) (by decide +kernel) rfl Fok_X8 Gok_X8 (Nat.le_of_ble_eq_true rfl) (fun p l e s m args below meth c A hfl C hr hT => ?_)
  generalize hF : F_X8_setSpeed n g v σ = rr
  unfold F_X8_setSpeed at hF
  refine q_go C tk_X8_setSpeed [(0, 5)] [] (pc1 := 7) (σ1 := σ) (lv1 := [(0, .ref 220), (1, .int n), (2, .int g), (3, .int v)]) (st1 := [.int v, .int g, .int n, .ref 0]) rfl ⟨rfl, trivial⟩ ?_
  refine q_callV C hfl mw_X4_faultOfSpeed mi_X4_faultOfSpeed me_X4_faultOfSpeed lk_X8_76 (k_X4_faultOfSpeed 0 n g v σ rfl) (rest := []) rfl rfl rfl (by decide) (by decide) rfl (q_dc (z := (7, .invokevirtual 76, 3, 0, 0)) tk_X8_setSpeed 5 rfl) (Nat.le_of_ble_eq_true rfl) ⟨Nat.le_of_ble_eq_true rfl, Nat.le_of_ble_eq_true rfl⟩ ⟨Nat.le_of_ble_eq_true rfl, Nat.le_of_ble_eq_true rfl⟩ ?_
  refine q_nrm 10 [q_e (F_X4_faultOfSpeed 0 n g v σ)] 0 0 rfl rfl rfl rfl ?_
  have hc9 := (k_X8_raise (α := α) (β := β) (D := D) (κ := κ) (F_X4_faultOfSpeed 0 n g v σ) σ)
  have hp10 := hP _ rfl
  cases hx2 : (F_X8_raise (F_X4_faultOfSpeed 0 n g v σ) σ) with
  | none =>
    rw [hx2] at hc9 hF
    dsimp only at hF
    rw [hx2] at hp10
    refine q_callS C hfl mw_X8_raise ms_X8_raise lk_X8_64 hc9 (rest := []) rfl rfl (q_dc (z := (10, .invokestatic 64, 3, 0, 0)) tk_X8_setSpeed 6 rfl) (Nat.le_of_ble_eq_true rfl) ⟨Nat.le_of_ble_eq_true rfl, Nat.le_of_ble_eq_true rfl⟩ ⟨Nat.le_of_ble_eq_true rfl, Nat.le_of_ble_eq_true rfl⟩ ?_
    refine q_nrm 13 [] 1 6 rfl rfl rfl rfl ?_
    refine q_go C tk_X8_setSpeed [(7, 4)] [] (pc1 := 21) (σ1 := σ) (lv1 := [(0, .ref 220), (1, .int n), (2, .int g), (3, .int v)]) (st1 := [.ref 0, .ref 221]) rfl ⟨rfl, rfl, trivial⟩ ?_
    refine q_callV C hfl mw_X2_push mi_X2_push me_X2_push lk_X8_68 (k_X2_push 0 σ rfl hp10.1) (rest := []) rfl rfl rfl (by decide) (by decide) rfl (q_dc (z := (21, .invokevirtual 68, 3, 0, 0)) tk_X8_setSpeed 11 rfl) (Nat.le_of_ble_eq_true rfl) ⟨Nat.le_of_ble_eq_true rfl, Nat.le_of_ble_eq_true rfl⟩ ⟨Nat.le_of_ble_eq_true rfl, Nat.le_of_ble_eq_true rfl⟩ ?_
    refine q_nrm 24 [] 1 6 rfl rfl rfl rfl ?_
    generalize e4 : (F_X2_push 0 σ) = σ3
    replace hF := q_let e4 hF
    refine q_go C tk_X8_setSpeed [(12, 2)] [] (pc1 := 26) (σ1 := σ3) (lv1 := [(0, .ref 220), (1, .int n), (2, .int g), (3, .int v)]) (st1 := [.int n, .ref 220]) rfl trivial ?_
    have hc11 := (k_X8_teamWith (α := α) (β := β) (D := D) (κ := κ) n σ3)
    have hp12 := (hp10.2 σ3 e4) _ rfl
    cases hx6 : (F_X8_teamWith n σ3) with
    | inl v5 =>
      rw [hx6] at hc11 hF
      dsimp only at hF
      rw [hx6] at hp12
      refine q_callV C hfl mw_X8_teamWith mi_X8_teamWith me_X8_teamWith lk_X8_80 hc11 (rest := []) rfl rfl rfl (by decide) (by decide) rfl (q_dc (z := (26, .invokevirtual 80, 3, 0, 0)) tk_X8_setSpeed 14 rfl) (Nat.le_of_ble_eq_true rfl) ⟨Nat.le_of_ble_eq_true rfl, Nat.le_of_ble_eq_true rfl⟩ ⟨Nat.le_of_ble_eq_true rfl, Nat.le_of_ble_eq_true rfl⟩ ?_
      refine q_nrm 29 [.ref v5] 2 12 rfl rfl rfl rfl ?_
      refine q_go C tk_X8_setSpeed [(15, 2)] [] (pc1 := 31) (σ1 := σ3) (lv1 := [(0, .ref 220), (1, .int n), (2, .int g), (3, .int v)]) (st1 := [.int v, .int g, .ref v5]) rfl trivial ?_
      refine q_callV C hfl mw_X6_changeSpeed mi_X6_changeSpeed me_X6_changeSpeed lk_X8_84 (k_X6_changeSpeed v5 g v σ3 (f_X8_teamWith_kd  hx6) hp12.1) (rest := []) rfl (f_X8_teamWith_kd  hx6) rfl (by decide) (by decide) rfl (q_dc (z := (31, .invokevirtual 84, 3, 0, 0)) tk_X8_setSpeed 17 rfl) (Nat.le_of_ble_eq_true rfl) ⟨Nat.le_of_ble_eq_true rfl, Nat.le_of_ble_eq_true rfl⟩ ⟨Nat.le_of_ble_eq_true rfl, Nat.le_of_ble_eq_true rfl⟩ ?_
      refine q_nrm 34 [.int (F_X6_changeSpeed v5 g v σ3).1] 2 12 rfl rfl rfl rfl ?_
      generalize e8 : (F_X6_changeSpeed v5 g v σ3).2 = σ7
      replace hF := q_let e8 hF
      exact q_iret C hr (q_dc (z := (34, .ireturn, 1, 0, 0)) tk_X8_setSpeed 18 rfl) (congrArg Prod.snd hF) (congrArg (fun z => q_oxi z.1) hF.symm) (Nat.le_of_ble_eq_true rfl) (Nat.le_of_ble_eq_true rfl)
    | inr E =>
      rw [hx6] at hc11 hF
      dsimp only at hF
      rw [hx6] at hp12
      refine q_callVx C hfl mw_X8_teamWith mi_X8_teamWith me_X8_teamWith lk_X8_80 hc11 (rest := []) rfl rfl rfl (by decide) (by decide) rfl (q_dc (z := (26, .invokevirtual 80, 3, 0, 0)) tk_X8_setSpeed 14 rfl) (Nat.le_of_ble_eq_true rfl) ⟨Nat.le_of_ble_eq_true rfl, Nat.le_of_ble_eq_true rfl⟩ ⟨Nat.le_of_ble_eq_true rfl, Nat.le_of_ble_eq_true rfl⟩ ?_
      exact q_xout C hT (congrArg Prod.snd hF) (congrArg (fun z => q_oxi z.1) hF.symm) (Nat.le_of_ble_eq_true rfl) (Nat.le_of_ble_eq_true rfl)
  | some E =>
    rw [hx2] at hc9 hF
    dsimp only at hF
    rw [hx2] at hp10
    refine q_callSx C hfl mw_X8_raise ms_X8_raise lk_X8_64 hc9 (rest := []) rfl rfl (q_dc (z := (10, .invokestatic 64, 3, 0, 0)) tk_X8_setSpeed 6 rfl) (Nat.le_of_ble_eq_true rfl) ⟨Nat.le_of_ble_eq_true rfl, Nat.le_of_ble_eq_true rfl⟩ ⟨Nat.le_of_ble_eq_true rfl, Nat.le_of_ble_eq_true rfl⟩ ?_
    exact q_xout C hT (congrArg Prod.snd hF) (congrArg (fun z => q_oxi z.1) hF.symm) (Nat.le_of_ble_eq_true rfl) (Nat.le_of_ble_eq_true rfl)
def F_X8_setLength (v : Int32) (σ : q_M) : (Int32 ⊕ String) × q_M := (match (F_X8_raise (F_X4_faultOfLength 0 v σ) σ) with | none => (q_L (F_X2_push 0 σ) (fun σ3 : q_M => ((.inl (σ3 0 3)), (q_up σ3 0 3 v)))) | some E => ((.inr E), σ))
def P_X8_setLength (v : Int32) (σ : q_M) : Prop := (∀ r, (F_X8_raise (F_X4_faultOfLength 0 v σ) σ) = r → match r with | none => ((P_X2_push 0 σ) ∧ True) | some E => True)
set_option maxRecDepth 100000 in
theorem k_X8_setLength {α β : Nat → Nat} {D : va_G} {κ : Nat → ClassId} (v : Int32) (σ : q_M) (hP : P_X8_setLength v σ) : q_C α β D κ yX8_setLength cX8_setLength 3 (Option.some Jvm.ClassFile.FieldType.int) 7 110 1 6 [.ref 220, .int v] σ (q_oxi (F_X8_setLength v σ).1) (F_X8_setLength v σ).2 := by
  refine q_enter (own := RX8) (F := F_X8) (G := G_X8) (by decide +kernel) rfl Fok_X8 Gok_X8 (Nat.le_of_ble_eq_true rfl) (fun p l e s m args below meth c A hfl C hr hT => ?_)
  generalize hF : F_X8_setLength v σ = rr
  unfold F_X8_setLength at hF
  refine q_go C tk_X8_setLength [(0, 3)] [] (pc1 := 5) (σ1 := σ) (lv1 := [(0, .ref 220), (1, .int v)]) (st1 := [.int v, .ref 0]) rfl ⟨rfl, trivial⟩ ?_
  refine q_callV C hfl mw_X4_faultOfLength mi_X4_faultOfLength me_X4_faultOfLength lk_X8_90 (k_X4_faultOfLength 0 v σ rfl) (rest := []) rfl rfl rfl (by decide) (by decide) rfl (q_dc (z := (5, .invokevirtual 90, 3, 0, 0)) tk_X8_setLength 3 rfl) (Nat.le_of_ble_eq_true rfl) ⟨Nat.le_of_ble_eq_true rfl, Nat.le_of_ble_eq_true rfl⟩ ⟨Nat.le_of_ble_eq_true rfl, Nat.le_of_ble_eq_true rfl⟩ ?_
  refine q_nrm 8 [q_e (F_X4_faultOfLength 0 v σ)] 0 0 rfl rfl rfl rfl ?_
  have hc5 := (k_X8_raise (α := α) (β := β) (D := D) (κ := κ) (F_X4_faultOfLength 0 v σ) σ)
  have hp6 := hP _ rfl
  cases hx2 : (F_X8_raise (F_X4_faultOfLength 0 v σ) σ) with
  | none =>
    rw [hx2] at hc5 hF
    dsimp only at hF
    rw [hx2] at hp6
    refine q_callS C hfl mw_X8_raise ms_X8_raise lk_X8_64 hc5 (rest := []) rfl rfl (q_dc (z := (8, .invokestatic 64, 3, 0, 0)) tk_X8_setLength 4 rfl) (Nat.le_of_ble_eq_true rfl) ⟨Nat.le_of_ble_eq_true rfl, Nat.le_of_ble_eq_true rfl⟩ ⟨Nat.le_of_ble_eq_true rfl, Nat.le_of_ble_eq_true rfl⟩ ?_
    refine q_nrm 11 [] 1 6 rfl rfl rfl rfl ?_
    refine q_go C tk_X8_setLength [(5, 4)] [] (pc1 := 19) (σ1 := σ) (lv1 := [(0, .ref 220), (1, .int v)]) (st1 := [.ref 0, .ref 221]) rfl ⟨rfl, rfl, trivial⟩ ?_
    refine q_callV C hfl mw_X2_push mi_X2_push me_X2_push lk_X8_68 (k_X2_push 0 σ rfl hp6.1) (rest := []) rfl rfl rfl (by decide) (by decide) rfl (q_dc (z := (19, .invokevirtual 68, 3, 0, 0)) tk_X8_setLength 9 rfl) (Nat.le_of_ble_eq_true rfl) ⟨Nat.le_of_ble_eq_true rfl, Nat.le_of_ble_eq_true rfl⟩ ⟨Nat.le_of_ble_eq_true rfl, Nat.le_of_ble_eq_true rfl⟩ ?_
    refine q_nrm 22 [] 1 6 rfl rfl rfl rfl ?_
    generalize e4 : (F_X2_push 0 σ) = σ3
    replace hF := q_let e4 hF
    refine q_go C tk_X8_setLength [(10, 9)] [] (pc1 := 39) (σ1 := (q_up σ3 0 3 v)) (lv1 := [(2, .int (σ3 0 3)), (0, .ref 220), (1, .int v)]) (st1 := [.int (σ3 0 3)]) rfl ⟨rfl, rfl, rfl, rfl, trivial⟩ ?_
    exact q_iret C hr (q_dc (z := (39, .ireturn, 1, 0, 0)) tk_X8_setLength 19 rfl) (congrArg Prod.snd hF) (congrArg (fun z => q_oxi z.1) hF.symm) (Nat.le_of_ble_eq_true rfl) (Nat.le_of_ble_eq_true rfl)
  | some E =>
    rw [hx2] at hc5 hF
    dsimp only at hF
    rw [hx2] at hp6
    refine q_callSx C hfl mw_X8_raise ms_X8_raise lk_X8_64 hc5 (rest := []) rfl rfl (q_dc (z := (8, .invokestatic 64, 3, 0, 0)) tk_X8_setLength 4 rfl) (Nat.le_of_ble_eq_true rfl) ⟨Nat.le_of_ble_eq_true rfl, Nat.le_of_ble_eq_true rfl⟩ ⟨Nat.le_of_ble_eq_true rfl, Nat.le_of_ble_eq_true rfl⟩ ?_
    exact q_xout C hT (congrArg Prod.snd hF) (congrArg (fun z => q_oxi z.1) hF.symm) (Nat.le_of_ble_eq_true rfl) (Nat.le_of_ble_eq_true rfl)
def F_X8_drawLanes (v : Int32) (σ : q_M) : (Int32 ⊕ String) × q_M := (match (F_X8_raise (F_X4_faultOfDrawing 0 v σ) σ) with | none => (q_L (F_X2_push 0 σ) (fun σ3 : q_M => (q_L (F_X4_shuffleLanes 0 v σ3) (fun σ5 : q_M => (match (F_X8_teamWith 0 σ5) with | .inl v7 => ((.inl (σ5 v7 4)), σ5) | .inr E => ((.inr E), σ5)))))) | some E => ((.inr E), σ))
def P_X8_drawLanes (v : Int32) (σ : q_M) : Prop := ((P_X4_faultOfDrawing 0 v σ) ∧ (∀ r, (F_X8_raise (F_X4_faultOfDrawing 0 v σ) σ) = r → match r with | none => ((P_X2_push 0 σ) ∧ (∀ σ3 : q_M, (F_X2_push 0 σ) = σ3 → ((P_X4_shuffleLanes 0 v σ3) ∧ True))) | some E => True))
set_option maxRecDepth 100000 in
theorem k_X8_drawLanes {α β : Nat → Nat} {D : va_G} {κ : Nat → ClassId} (v : Int32) (σ : q_M) (hP : P_X8_drawLanes v σ) : q_C α β D κ yX8_drawLanes cX8_drawLanes 2 (Option.some Jvm.ClassFile.FieldType.int) 7 112 2 12 [.ref 220, .int v] σ (q_oxi (F_X8_drawLanes v σ).1) (F_X8_drawLanes v σ).2 := by
  refine q_enter (own := RX8) (F := F_X8) (G := G_X8) (by decide +kernel) rfl Fok_X8 Gok_X8 (Nat.le_of_ble_eq_true rfl) (fun p l e s m args below meth c A hfl C hr hT => ?_)
  generalize hF : F_X8_drawLanes v σ = rr
  unfold F_X8_drawLanes at hF
  refine q_go C tk_X8_drawLanes [(0, 3)] [] (pc1 := 5) (σ1 := σ) (lv1 := [(0, .ref 220), (1, .int v)]) (st1 := [.int v, .ref 0]) rfl ⟨rfl, trivial⟩ ?_
  refine q_callV C hfl mw_X4_faultOfDrawing mi_X4_faultOfDrawing me_X4_faultOfDrawing lk_X8_97 (k_X4_faultOfDrawing 0 v σ rfl hP.1) (rest := []) rfl rfl rfl (by decide) (by decide) rfl (q_dc (z := (5, .invokevirtual 97, 3, 0, 0)) tk_X8_drawLanes 3 rfl) (Nat.le_of_ble_eq_true rfl) ⟨Nat.le_of_ble_eq_true rfl, Nat.le_of_ble_eq_true rfl⟩ ⟨Nat.le_of_ble_eq_true rfl, Nat.le_of_ble_eq_true rfl⟩ ?_
  refine q_nrm 8 [q_e (F_X4_faultOfDrawing 0 v σ)] 0 0 rfl rfl rfl rfl ?_
  have hc9 := (k_X8_raise (α := α) (β := β) (D := D) (κ := κ) (F_X4_faultOfDrawing 0 v σ) σ)
  have hp10 := hP.2 _ rfl
  cases hx2 : (F_X8_raise (F_X4_faultOfDrawing 0 v σ) σ) with
  | none =>
    rw [hx2] at hc9 hF
    dsimp only at hF
    rw [hx2] at hp10
    refine q_callS C hfl mw_X8_raise ms_X8_raise lk_X8_64 hc9 (rest := []) rfl rfl (q_dc (z := (8, .invokestatic 64, 3, 0, 0)) tk_X8_drawLanes 4 rfl) (Nat.le_of_ble_eq_true rfl) ⟨Nat.le_of_ble_eq_true rfl, Nat.le_of_ble_eq_true rfl⟩ ⟨Nat.le_of_ble_eq_true rfl, Nat.le_of_ble_eq_true rfl⟩ ?_
    refine q_nrm 11 [] 1 6 rfl rfl rfl rfl ?_
    refine q_go C tk_X8_drawLanes [(5, 4)] [] (pc1 := 19) (σ1 := σ) (lv1 := [(0, .ref 220), (1, .int v)]) (st1 := [.ref 0, .ref 221]) rfl ⟨rfl, rfl, trivial⟩ ?_
    refine q_callV C hfl mw_X2_push mi_X2_push me_X2_push lk_X8_68 (k_X2_push 0 σ rfl hp10.1) (rest := []) rfl rfl rfl (by decide) (by decide) rfl (q_dc (z := (19, .invokevirtual 68, 3, 0, 0)) tk_X8_drawLanes 9 rfl) (Nat.le_of_ble_eq_true rfl) ⟨Nat.le_of_ble_eq_true rfl, Nat.le_of_ble_eq_true rfl⟩ ⟨Nat.le_of_ble_eq_true rfl, Nat.le_of_ble_eq_true rfl⟩ ?_
    refine q_nrm 22 [] 1 6 rfl rfl rfl rfl ?_
    generalize e4 : (F_X2_push 0 σ) = σ3
    replace hF := q_let e4 hF
    refine q_go C tk_X8_drawLanes [(10, 3)] [] (pc1 := 27) (σ1 := σ3) (lv1 := [(0, .ref 220), (1, .int v)]) (st1 := [.int v, .ref 0]) rfl ⟨rfl, trivial⟩ ?_
    refine q_callV C hfl mw_X4_shuffleLanes mi_X4_shuffleLanes me_X4_shuffleLanes lk_X8_100 (k_X4_shuffleLanes 0 v σ3 rfl (hp10.2 σ3 e4).1) (rest := []) rfl rfl rfl (by decide) (by decide) rfl (q_dc (z := (27, .invokevirtual 100, 3, 0, 0)) tk_X8_drawLanes 13 rfl) (Nat.le_of_ble_eq_true rfl) ⟨Nat.le_of_ble_eq_true rfl, Nat.le_of_ble_eq_true rfl⟩ ⟨Nat.le_of_ble_eq_true rfl, Nat.le_of_ble_eq_true rfl⟩ ?_
    refine q_nrm 30 [] 1 6 rfl rfl rfl rfl ?_
    generalize e6 : (F_X4_shuffleLanes 0 v σ3) = σ5
    replace hF := q_let e6 hF
    refine q_go C tk_X8_drawLanes [(14, 2)] [] (pc1 := 32) (σ1 := σ5) (lv1 := [(0, .ref 220), (1, .int v)]) (st1 := [.int 0, .ref 220]) rfl trivial ?_
    have hc11 := (k_X8_teamWith (α := α) (β := β) (D := D) (κ := κ) 0 σ5)
    cases hx8 : (F_X8_teamWith 0 σ5) with
    | inl v7 =>
      rw [hx8] at hc11 hF
      dsimp only at hF
      refine q_callV C hfl mw_X8_teamWith mi_X8_teamWith me_X8_teamWith lk_X8_80 hc11 (rest := []) rfl rfl rfl (by decide) (by decide) rfl (q_dc (z := (32, .invokevirtual 80, 3, 0, 0)) tk_X8_drawLanes 16 rfl) (Nat.le_of_ble_eq_true rfl) ⟨Nat.le_of_ble_eq_true rfl, Nat.le_of_ble_eq_true rfl⟩ ⟨Nat.le_of_ble_eq_true rfl, Nat.le_of_ble_eq_true rfl⟩ ?_
      refine q_nrm 35 [.ref v7] 2 12 rfl rfl rfl rfl ?_
      refine q_go C tk_X8_drawLanes [(17, 1)] [] (pc1 := 38) (σ1 := σ5) (lv1 := [(0, .ref 220), (1, .int v)]) (st1 := [.int (σ5 v7 4)]) rfl ⟨(f_X8_teamWith_kd  hx8), trivial⟩ ?_
      exact q_iret C hr (q_dc (z := (38, .ireturn, 1, 0, 0)) tk_X8_drawLanes 18 rfl) (congrArg Prod.snd hF) (congrArg (fun z => q_oxi z.1) hF.symm) (Nat.le_of_ble_eq_true rfl) (Nat.le_of_ble_eq_true rfl)
    | inr E =>
      rw [hx8] at hc11 hF
      dsimp only at hF
      refine q_callVx C hfl mw_X8_teamWith mi_X8_teamWith me_X8_teamWith lk_X8_80 hc11 (rest := []) rfl rfl rfl (by decide) (by decide) rfl (q_dc (z := (32, .invokevirtual 80, 3, 0, 0)) tk_X8_drawLanes 16 rfl) (Nat.le_of_ble_eq_true rfl) ⟨Nat.le_of_ble_eq_true rfl, Nat.le_of_ble_eq_true rfl⟩ ⟨Nat.le_of_ble_eq_true rfl, Nat.le_of_ble_eq_true rfl⟩ ?_
      exact q_xout C hT (congrArg Prod.snd hF) (congrArg (fun z => q_oxi z.1) hF.symm) (Nat.le_of_ble_eq_true rfl) (Nat.le_of_ble_eq_true rfl)
  | some E =>
    rw [hx2] at hc9 hF
    dsimp only at hF
    rw [hx2] at hp10
    refine q_callSx C hfl mw_X8_raise ms_X8_raise lk_X8_64 hc9 (rest := []) rfl rfl (q_dc (z := (8, .invokestatic 64, 3, 0, 0)) tk_X8_drawLanes 4 rfl) (Nat.le_of_ble_eq_true rfl) ⟨Nat.le_of_ble_eq_true rfl, Nat.le_of_ble_eq_true rfl⟩ ⟨Nat.le_of_ble_eq_true rfl, Nat.le_of_ble_eq_true rfl⟩ ?_
    exact q_xout C hT (congrArg Prod.snd hF) (congrArg (fun z => q_oxi z.1) hF.symm) (Nat.le_of_ble_eq_true rfl) (Nat.le_of_ble_eq_true rfl)
def F_X8_start (σ : q_M) : (Int32 ⊕ String) × q_M := (match (F_X8_raise (F_X4_faultOfStarting 0 σ) σ) with | none => (q_L (F_X2_push 0 σ) (fun σ3 : q_M => (q_L (F_X4_begin 0 σ3) (fun σ5 : q_M => ((.inl (F_X4_countEntered 0 σ5)), σ5))))) | some E => ((.inr E), σ))
def P_X8_start (σ : q_M) : Prop := ((P_X4_faultOfStarting 0 σ) ∧ (∀ r, (F_X8_raise (F_X4_faultOfStarting 0 σ) σ) = r → match r with | none => ((P_X2_push 0 σ) ∧ (∀ σ3 : q_M, (F_X2_push 0 σ) = σ3 → ((P_X4_begin 0 σ3) ∧ (∀ σ5 : q_M, (F_X4_begin 0 σ3) = σ5 → ((P_X4_countEntered 0 σ5) ∧ True))))) | some E => True))
set_option maxRecDepth 100000 in
theorem k_X8_start {α β : Nat → Nat} {D : va_G} {κ : Nat → ClassId} (σ : q_M) (hP : P_X8_start σ) : q_C α β D κ yX8_start cX8_start 1 (Option.some Jvm.ClassFile.FieldType.int) 7 110 1 6 [.ref 220] σ (q_oxi (F_X8_start σ).1) (F_X8_start σ).2 := by
  refine q_enter (own := RX8) (F := F_X8) (G := G_X8) (by decide +kernel) rfl Fok_X8 Gok_X8 (Nat.le_of_ble_eq_true rfl) (fun p l e s m args below meth c A hfl C hr hT => ?_)
  generalize hF : F_X8_start σ = rr
  unfold F_X8_start at hF
  refine q_go C tk_X8_start [(0, 2)] [] (pc1 := 4) (σ1 := σ) (lv1 := [(0, .ref 220)]) (st1 := [.ref 0]) rfl ⟨rfl, trivial⟩ ?_
  refine q_callV C hfl mw_X4_faultOfStarting mi_X4_faultOfStarting me_X4_faultOfStarting lk_X8_107 (k_X4_faultOfStarting 0 σ rfl hP.1) (rest := []) rfl rfl rfl (by decide) (by decide) rfl (q_dc (z := (4, .invokevirtual 107, 3, 0, 0)) tk_X8_start 2 rfl) (Nat.le_of_ble_eq_true rfl) ⟨Nat.le_of_ble_eq_true rfl, Nat.le_of_ble_eq_true rfl⟩ ⟨Nat.le_of_ble_eq_true rfl, Nat.le_of_ble_eq_true rfl⟩ ?_
  refine q_nrm 7 [q_e (F_X4_faultOfStarting 0 σ)] 0 0 rfl rfl rfl rfl ?_
  have hc7 := (k_X8_raise (α := α) (β := β) (D := D) (κ := κ) (F_X4_faultOfStarting 0 σ) σ)
  have hp8 := hP.2 _ rfl
  cases hx2 : (F_X8_raise (F_X4_faultOfStarting 0 σ) σ) with
  | none =>
    rw [hx2] at hc7 hF
    dsimp only at hF
    rw [hx2] at hp8
    refine q_callS C hfl mw_X8_raise ms_X8_raise lk_X8_64 hc7 (rest := []) rfl rfl (q_dc (z := (7, .invokestatic 64, 3, 0, 0)) tk_X8_start 3 rfl) (Nat.le_of_ble_eq_true rfl) ⟨Nat.le_of_ble_eq_true rfl, Nat.le_of_ble_eq_true rfl⟩ ⟨Nat.le_of_ble_eq_true rfl, Nat.le_of_ble_eq_true rfl⟩ ?_
    refine q_nrm 10 [] 1 6 rfl rfl rfl rfl ?_
    refine q_go C tk_X8_start [(4, 4)] [] (pc1 := 18) (σ1 := σ) (lv1 := [(0, .ref 220)]) (st1 := [.ref 0, .ref 221]) rfl ⟨rfl, rfl, trivial⟩ ?_
    refine q_callV C hfl mw_X2_push mi_X2_push me_X2_push lk_X8_68 (k_X2_push 0 σ rfl hp8.1) (rest := []) rfl rfl rfl (by decide) (by decide) rfl (q_dc (z := (18, .invokevirtual 68, 3, 0, 0)) tk_X8_start 8 rfl) (Nat.le_of_ble_eq_true rfl) ⟨Nat.le_of_ble_eq_true rfl, Nat.le_of_ble_eq_true rfl⟩ ⟨Nat.le_of_ble_eq_true rfl, Nat.le_of_ble_eq_true rfl⟩ ?_
    refine q_nrm 21 [] 1 6 rfl rfl rfl rfl ?_
    generalize e4 : (F_X2_push 0 σ) = σ3
    replace hF := q_let e4 hF
    refine q_go C tk_X8_start [(9, 2)] [] (pc1 := 25) (σ1 := σ3) (lv1 := [(0, .ref 220)]) (st1 := [.ref 0]) rfl ⟨rfl, trivial⟩ ?_
    refine q_callV C hfl mw_X4_begin mi_X4_begin me_X4_begin lk_X8_110 (k_X4_begin 0 σ3 rfl (hp8.2 σ3 e4).1) (rest := []) rfl rfl rfl (by decide) (by decide) rfl (q_dc (z := (25, .invokevirtual 110, 3, 0, 0)) tk_X8_start 11 rfl) (Nat.le_of_ble_eq_true rfl) ⟨Nat.le_of_ble_eq_true rfl, Nat.le_of_ble_eq_true rfl⟩ ⟨Nat.le_of_ble_eq_true rfl, Nat.le_of_ble_eq_true rfl⟩ ?_
    refine q_nrm 28 [] 1 6 rfl rfl rfl rfl ?_
    generalize e6 : (F_X4_begin 0 σ3) = σ5
    replace hF := q_let e6 hF
    refine q_go C tk_X8_start [(12, 2)] [] (pc1 := 32) (σ1 := σ5) (lv1 := [(0, .ref 220)]) (st1 := [.ref 0]) rfl ⟨rfl, trivial⟩ ?_
    refine q_callV C hfl mw_X4_countEntered mi_X4_countEntered me_X4_countEntered lk_X8_113 (k_X4_countEntered 0 σ5 rfl ((hp8.2 σ3 e4).2 σ5 e6).1) (rest := []) rfl rfl rfl (by decide) (by decide) rfl (q_dc (z := (32, .invokevirtual 113, 3, 0, 0)) tk_X8_start 14 rfl) (Nat.le_of_ble_eq_true rfl) ⟨Nat.le_of_ble_eq_true rfl, Nat.le_of_ble_eq_true rfl⟩ ⟨Nat.le_of_ble_eq_true rfl, Nat.le_of_ble_eq_true rfl⟩ ?_
    refine q_nrm 35 [.int (F_X4_countEntered 0 σ5)] 1 6 rfl rfl rfl rfl ?_
    exact q_iret C hr (q_dc (z := (35, .ireturn, 1, 0, 0)) tk_X8_start 15 rfl) (congrArg Prod.snd hF) (congrArg (fun z => q_oxi z.1) hF.symm) (Nat.le_of_ble_eq_true rfl) (Nat.le_of_ble_eq_true rfl)
  | some E =>
    rw [hx2] at hc7 hF
    dsimp only at hF
    rw [hx2] at hp8
    refine q_callSx C hfl mw_X8_raise ms_X8_raise lk_X8_64 hc7 (rest := []) rfl rfl (q_dc (z := (7, .invokestatic 64, 3, 0, 0)) tk_X8_start 3 rfl) (Nat.le_of_ble_eq_true rfl) ⟨Nat.le_of_ble_eq_true rfl, Nat.le_of_ble_eq_true rfl⟩ ⟨Nat.le_of_ble_eq_true rfl, Nat.le_of_ble_eq_true rfl⟩ ?_
    exact q_xout C hT (congrArg Prod.snd hF) (congrArg (fun z => q_oxi z.1) hF.symm) (Nat.le_of_ble_eq_true rfl) (Nat.le_of_ble_eq_true rfl)
def F_X8_run (v : Int32) (σ : q_M) : (Int32 ⊕ String) × q_M := (match (F_X8_raise (F_X4_faultOfRunning 0 v σ) σ) with | none => (q_L (F_X2_push 0 σ) (fun σ3 : q_M => (q_L (F_X4_letSecondsPass 0 v σ3).2 (fun σ5 : q_M => ((.inl (F_X4_letSecondsPass 0 v σ3).1), σ5))))) | some E => ((.inr E), σ))
def P_X8_run (v : Int32) (σ : q_M) : Prop := (∀ r, (F_X8_raise (F_X4_faultOfRunning 0 v σ) σ) = r → match r with | none => ((P_X2_push 0 σ) ∧ (∀ σ3 : q_M, (F_X2_push 0 σ) = σ3 → ((P_X4_letSecondsPass 0 v σ3) ∧ True))) | some E => True)
set_option maxRecDepth 100000 in
theorem k_X8_run {α β : Nat → Nat} {D : va_G} {κ : Nat → ClassId} (v : Int32) (σ : q_M) (hP : P_X8_run v σ) : q_C α β D κ yX8_run cX8_run 2 (Option.some Jvm.ClassFile.FieldType.int) 8 153 1 6 [.ref 220, .int v] σ (q_oxi (F_X8_run v σ).1) (F_X8_run v σ).2 := by
  refine q_enter (own := RX8) (F := F_X8) (G := G_X8) (by decide +kernel) rfl Fok_X8 Gok_X8 (Nat.le_of_ble_eq_true rfl) (fun p l e s m args below meth c A hfl C hr hT => ?_)
  generalize hF : F_X8_run v σ = rr
  unfold F_X8_run at hF
  refine q_go C tk_X8_run [(0, 3)] [] (pc1 := 5) (σ1 := σ) (lv1 := [(0, .ref 220), (1, .int v)]) (st1 := [.int v, .ref 0]) rfl ⟨rfl, trivial⟩ ?_
  refine q_callV C hfl mw_X4_faultOfRunning mi_X4_faultOfRunning me_X4_faultOfRunning lk_X8_116 (k_X4_faultOfRunning 0 v σ rfl) (rest := []) rfl rfl rfl (by decide) (by decide) rfl (q_dc (z := (5, .invokevirtual 116, 3, 0, 0)) tk_X8_run 3 rfl) (Nat.le_of_ble_eq_true rfl) ⟨Nat.le_of_ble_eq_true rfl, Nat.le_of_ble_eq_true rfl⟩ ⟨Nat.le_of_ble_eq_true rfl, Nat.le_of_ble_eq_true rfl⟩ ?_
  refine q_nrm 8 [q_e (F_X4_faultOfRunning 0 v σ)] 0 0 rfl rfl rfl rfl ?_
  have hc7 := (k_X8_raise (α := α) (β := β) (D := D) (κ := κ) (F_X4_faultOfRunning 0 v σ) σ)
  have hp8 := hP _ rfl
  cases hx2 : (F_X8_raise (F_X4_faultOfRunning 0 v σ) σ) with
  | none =>
    rw [hx2] at hc7 hF
    dsimp only at hF
    rw [hx2] at hp8
    refine q_callS C hfl mw_X8_raise ms_X8_raise lk_X8_64 hc7 (rest := []) rfl rfl (q_dc (z := (8, .invokestatic 64, 3, 0, 0)) tk_X8_run 4 rfl) (Nat.le_of_ble_eq_true rfl) ⟨Nat.le_of_ble_eq_true rfl, Nat.le_of_ble_eq_true rfl⟩ ⟨Nat.le_of_ble_eq_true rfl, Nat.le_of_ble_eq_true rfl⟩ ?_
    refine q_nrm 11 [] 1 6 rfl rfl rfl rfl ?_
    refine q_go C tk_X8_run [(5, 4)] [] (pc1 := 19) (σ1 := σ) (lv1 := [(0, .ref 220), (1, .int v)]) (st1 := [.ref 0, .ref 221]) rfl ⟨rfl, rfl, trivial⟩ ?_
    refine q_callV C hfl mw_X2_push mi_X2_push me_X2_push lk_X8_68 (k_X2_push 0 σ rfl hp8.1) (rest := []) rfl rfl rfl (by decide) (by decide) rfl (q_dc (z := (19, .invokevirtual 68, 3, 0, 0)) tk_X8_run 9 rfl) (Nat.le_of_ble_eq_true rfl) ⟨Nat.le_of_ble_eq_true rfl, Nat.le_of_ble_eq_true rfl⟩ ⟨Nat.le_of_ble_eq_true rfl, Nat.le_of_ble_eq_true rfl⟩ ?_
    refine q_nrm 22 [] 1 6 rfl rfl rfl rfl ?_
    generalize e4 : (F_X2_push 0 σ) = σ3
    replace hF := q_let e4 hF
    refine q_go C tk_X8_run [(10, 3)] [] (pc1 := 27) (σ1 := σ3) (lv1 := [(0, .ref 220), (1, .int v)]) (st1 := [.int v, .ref 0]) rfl ⟨rfl, trivial⟩ ?_
    refine q_callV C hfl mw_X4_letSecondsPass mi_X4_letSecondsPass me_X4_letSecondsPass lk_X8_119 (k_X4_letSecondsPass 0 v σ3 rfl (hp8.2 σ3 e4).1) (rest := []) rfl rfl rfl (by decide) (by decide) rfl (q_dc (z := (27, .invokevirtual 119, 3, 0, 0)) tk_X8_run 13 rfl) (Nat.le_of_ble_eq_true rfl) ⟨Nat.le_of_ble_eq_true rfl, Nat.le_of_ble_eq_true rfl⟩ ⟨Nat.le_of_ble_eq_true rfl, Nat.le_of_ble_eq_true rfl⟩ ?_
    refine q_nrm 30 [.int (F_X4_letSecondsPass 0 v σ3).1] 1 6 rfl rfl rfl rfl ?_
    generalize e6 : (F_X4_letSecondsPass 0 v σ3).2 = σ5
    replace hF := q_let e6 hF
    exact q_iret C hr (q_dc (z := (30, .ireturn, 1, 0, 0)) tk_X8_run 14 rfl) (congrArg Prod.snd hF) (congrArg (fun z => q_oxi z.1) hF.symm) (Nat.le_of_ble_eq_true rfl) (Nat.le_of_ble_eq_true rfl)
  | some E =>
    rw [hx2] at hc7 hF
    dsimp only at hF
    rw [hx2] at hp8
    refine q_callSx C hfl mw_X8_raise ms_X8_raise lk_X8_64 hc7 (rest := []) rfl rfl (q_dc (z := (8, .invokestatic 64, 3, 0, 0)) tk_X8_run 4 rfl) (Nat.le_of_ble_eq_true rfl) ⟨Nat.le_of_ble_eq_true rfl, Nat.le_of_ble_eq_true rfl⟩ ⟨Nat.le_of_ble_eq_true rfl, Nat.le_of_ble_eq_true rfl⟩ ?_
    exact q_xout C hT (congrArg Prod.snd hF) (congrArg (fun z => q_oxi z.1) hF.symm) (Nat.le_of_ble_eq_true rfl) (Nat.le_of_ble_eq_true rfl)
def F_X8_pass (n : Int32) (σ : q_M) : (Int32 ⊕ String) × q_M := (q_L (F_X8_faultOfPassing n σ).2 (fun σ1 : q_M => (match (F_X8_raise (F_X8_faultOfPassing n σ).1 σ1) with | none => (q_L (F_X2_push 0 σ1) (fun σ5 : q_M => (match (F_X8_teamWith n σ5) with | .inl v7 => (q_L (F_X4_handOver 0 v7 σ5).2 (fun σ9 : q_M => ((.inl (F_X4_handOver 0 v7 σ5).1), σ9))) | .inr E => ((.inr E), σ5)))) | some E => ((.inr E), σ1))))
def P_X8_pass (n : Int32) (σ : q_M) : Prop := (∀ σ1 : q_M, (F_X8_faultOfPassing n σ).2 = σ1 → (∀ r, (F_X8_raise (F_X8_faultOfPassing n σ).1 σ1) = r → match r with | none => ((P_X2_push 0 σ1) ∧ (∀ σ5 : q_M, (F_X2_push 0 σ1) = σ5 → (∀ r, (F_X8_teamWith n σ5) = r → match r with | .inl v7 => ((P_X4_handOver 0 v7 σ5) ∧ True) | .inr E => True))) | some E => True))
set_option maxRecDepth 100000 in
theorem k_X8_pass {α β : Nat → Nat} {D : va_G} {κ : Nat → ClassId} (n : Int32) (σ : q_M) (hP : P_X8_pass n σ) : q_C α β D κ yX8_pass cX8_pass 2 (Option.some Jvm.ClassFile.FieldType.int) 7 112 2 12 [.ref 220, .int n] σ (q_oxi (F_X8_pass n σ).1) (F_X8_pass n σ).2 := by
  refine q_enter (own := RX8) (F := F_X8) (G := G_X8) (by decide +kernel) rfl Fok_X8 Gok_X8 (Nat.le_of_ble_eq_true rfl) (fun p l e s m args below meth c A hfl C hr hT => ?_)
  generalize hF : F_X8_pass n σ = rr
  unfold F_X8_pass at hF
  refine q_go C tk_X8_pass [(0, 2)] [] (pc1 := 2) (σ1 := σ) (lv1 := [(0, .ref 220), (1, .int n)]) (st1 := [.int n, .ref 220]) rfl trivial ?_
  refine q_callV C hfl mw_X8_faultOfPassing mi_X8_faultOfPassing me_X8_faultOfPassing lk_X8_123 (k_X8_faultOfPassing n σ) (rest := []) rfl rfl rfl (by decide) (by decide) rfl (q_dc (z := (2, .invokevirtual 123, 3, 0, 0)) tk_X8_pass 2 rfl) (Nat.le_of_ble_eq_true rfl) ⟨Nat.le_of_ble_eq_true rfl, Nat.le_of_ble_eq_true rfl⟩ ⟨Nat.le_of_ble_eq_true rfl, Nat.le_of_ble_eq_true rfl⟩ ?_
  refine q_nrm 5 [q_e (F_X8_faultOfPassing n σ).1] 0 0 rfl rfl rfl rfl ?_
  generalize e2 : (F_X8_faultOfPassing n σ).2 = σ1
  replace hF := q_let e2 hF
  have hc11 := (k_X8_raise (α := α) (β := β) (D := D) (κ := κ) (F_X8_faultOfPassing n σ).1 σ1)
  have hp12 := (hP σ1 e2) _ rfl
  cases hx4 : (F_X8_raise (F_X8_faultOfPassing n σ).1 σ1) with
  | none =>
    rw [hx4] at hc11 hF
    dsimp only at hF
    rw [hx4] at hp12
    refine q_callS C hfl mw_X8_raise ms_X8_raise lk_X8_64 hc11 (rest := []) rfl rfl (q_dc (z := (5, .invokestatic 64, 3, 0, 0)) tk_X8_pass 3 rfl) (Nat.le_of_ble_eq_true rfl) ⟨Nat.le_of_ble_eq_true rfl, Nat.le_of_ble_eq_true rfl⟩ ⟨Nat.le_of_ble_eq_true rfl, Nat.le_of_ble_eq_true rfl⟩ ?_
    refine q_nrm 8 [] 1 6 rfl rfl rfl rfl ?_
    refine q_go C tk_X8_pass [(4, 4)] [] (pc1 := 16) (σ1 := σ1) (lv1 := [(0, .ref 220), (1, .int n)]) (st1 := [.ref 0, .ref 221]) rfl ⟨rfl, rfl, trivial⟩ ?_
    refine q_callV C hfl mw_X2_push mi_X2_push me_X2_push lk_X8_68 (k_X2_push 0 σ1 rfl hp12.1) (rest := []) rfl rfl rfl (by decide) (by decide) rfl (q_dc (z := (16, .invokevirtual 68, 3, 0, 0)) tk_X8_pass 8 rfl) (Nat.le_of_ble_eq_true rfl) ⟨Nat.le_of_ble_eq_true rfl, Nat.le_of_ble_eq_true rfl⟩ ⟨Nat.le_of_ble_eq_true rfl, Nat.le_of_ble_eq_true rfl⟩ ?_
    refine q_nrm 19 [] 1 6 rfl rfl rfl rfl ?_
    generalize e6 : (F_X2_push 0 σ1) = σ5
    replace hF := q_let e6 hF
    refine q_go C tk_X8_pass [(9, 4)] [] (pc1 := 25) (σ1 := σ5) (lv1 := [(0, .ref 220), (1, .int n)]) (st1 := [.int n, .ref 220, .ref 0]) rfl ⟨rfl, trivial⟩ ?_
    have hc13 := (k_X8_teamWith (α := α) (β := β) (D := D) (κ := κ) n σ5)
    have hp14 := (hp12.2 σ5 e6) _ rfl
    cases hx8 : (F_X8_teamWith n σ5) with
    | inl v7 =>
      rw [hx8] at hc13 hF
      dsimp only at hF
      rw [hx8] at hp14
      refine q_callV C hfl mw_X8_teamWith mi_X8_teamWith me_X8_teamWith lk_X8_80 hc13 (rest := [.ref 0]) rfl rfl rfl (by decide) (by decide) rfl (q_dc (z := (25, .invokevirtual 80, 3, 0, 0)) tk_X8_pass 13 rfl) (Nat.le_of_ble_eq_true rfl) ⟨Nat.le_of_ble_eq_true rfl, Nat.le_of_ble_eq_true rfl⟩ ⟨Nat.le_of_ble_eq_true rfl, Nat.le_of_ble_eq_true rfl⟩ ?_
      refine q_nrm 28 [.ref v7, .ref 0] 2 12 rfl rfl rfl rfl ?_
      refine q_callV C hfl mw_X4_handOver mi_X4_handOver me_X4_handOver lk_X8_126 (k_X4_handOver 0 v7 σ5 rfl (f_X8_teamWith_kd  hx8) hp14.1) (rest := []) rfl rfl rfl (by decide) (by decide) rfl (q_dc (z := (28, .invokevirtual 126, 3, 0, 0)) tk_X8_pass 14 rfl) (Nat.le_of_ble_eq_true rfl) ⟨Nat.le_of_ble_eq_true rfl, Nat.le_of_ble_eq_true rfl⟩ ⟨Nat.le_of_ble_eq_true rfl, Nat.le_of_ble_eq_true rfl⟩ ?_
      refine q_nrm 31 [.int (F_X4_handOver 0 v7 σ5).1] 2 12 rfl rfl rfl rfl ?_
      generalize e10 : (F_X4_handOver 0 v7 σ5).2 = σ9
      replace hF := q_let e10 hF
      exact q_iret C hr (q_dc (z := (31, .ireturn, 1, 0, 0)) tk_X8_pass 15 rfl) (congrArg Prod.snd hF) (congrArg (fun z => q_oxi z.1) hF.symm) (Nat.le_of_ble_eq_true rfl) (Nat.le_of_ble_eq_true rfl)
    | inr E =>
      rw [hx8] at hc13 hF
      dsimp only at hF
      rw [hx8] at hp14
      refine q_callVx C hfl mw_X8_teamWith mi_X8_teamWith me_X8_teamWith lk_X8_80 hc13 (rest := [.ref 0]) rfl rfl rfl (by decide) (by decide) rfl (q_dc (z := (25, .invokevirtual 80, 3, 0, 0)) tk_X8_pass 13 rfl) (Nat.le_of_ble_eq_true rfl) ⟨Nat.le_of_ble_eq_true rfl, Nat.le_of_ble_eq_true rfl⟩ ⟨Nat.le_of_ble_eq_true rfl, Nat.le_of_ble_eq_true rfl⟩ ?_
      exact q_xout C hT (congrArg Prod.snd hF) (congrArg (fun z => q_oxi z.1) hF.symm) (Nat.le_of_ble_eq_true rfl) (Nat.le_of_ble_eq_true rfl)
  | some E =>
    rw [hx4] at hc11 hF
    dsimp only at hF
    rw [hx4] at hp12
    refine q_callSx C hfl mw_X8_raise ms_X8_raise lk_X8_64 hc11 (rest := []) rfl rfl (q_dc (z := (5, .invokestatic 64, 3, 0, 0)) tk_X8_pass 3 rfl) (Nat.le_of_ble_eq_true rfl) ⟨Nat.le_of_ble_eq_true rfl, Nat.le_of_ble_eq_true rfl⟩ ⟨Nat.le_of_ble_eq_true rfl, Nat.le_of_ble_eq_true rfl⟩ ?_
    exact q_xout C hT (congrArg Prod.snd hF) (congrArg (fun z => q_oxi z.1) hF.symm) (Nat.le_of_ble_eq_true rfl) (Nat.le_of_ble_eq_true rfl)
def F_X8_drop (n : Int32) (v : Int32) (σ : q_M) : (Int32 ⊕ String) × q_M := (match (F_X8_raise (F_X4_faultOfDropping 0 n v σ) σ) with | none => (q_L (F_X2_push 0 σ) (fun σ3 : q_M => (match (F_X8_teamWith n σ3) with | .inl v5 => (q_L (F_X4_dropQuill 0 v5 v σ3).2 (fun σ7 : q_M => ((.inl (F_X4_dropQuill 0 v5 v σ3).1), σ7))) | .inr E => ((.inr E), σ3)))) | some E => ((.inr E), σ))
def P_X8_drop (n : Int32) (v : Int32) (σ : q_M) : Prop := (∀ r, (F_X8_raise (F_X4_faultOfDropping 0 n v σ) σ) = r → match r with | none => ((P_X2_push 0 σ) ∧ True) | some E => True)
set_option maxRecDepth 100000 in
theorem k_X8_drop {α β : Nat → Nat} {D : va_G} {κ : Nat → ClassId} (n : Int32) (v : Int32) (σ : q_M) (hP : P_X8_drop n v σ) : q_C α β D κ yX8_drop cX8_drop 3 (Option.some Jvm.ClassFile.FieldType.int) 7 112 2 12 [.ref 220, .int n, .int v] σ (q_oxi (F_X8_drop n v σ).1) (F_X8_drop n v σ).2 := by
  refine q_enter (own := RX8) (F := F_X8) (G := G_X8) (by decide +kernel) rfl Fok_X8 Gok_X8 (Nat.le_of_ble_eq_true rfl) (fun p l e s m args below meth c A hfl C hr hT => ?_)
  generalize hF : F_X8_drop n v σ = rr
  unfold F_X8_drop at hF
  refine q_go C tk_X8_drop [(0, 4)] [] (pc1 := 6) (σ1 := σ) (lv1 := [(0, .ref 220), (1, .int n), (2, .int v)]) (st1 := [.int v, .int n, .ref 0]) rfl ⟨rfl, trivial⟩ ?_
  refine q_callV C hfl mw_X4_faultOfDropping mi_X4_faultOfDropping me_X4_faultOfDropping lk_X8_130 (k_X4_faultOfDropping 0 n v σ rfl) (rest := []) rfl rfl rfl (by decide) (by decide) rfl (q_dc (z := (6, .invokevirtual 130, 3, 0, 0)) tk_X8_drop 4 rfl) (Nat.le_of_ble_eq_true rfl) ⟨Nat.le_of_ble_eq_true rfl, Nat.le_of_ble_eq_true rfl⟩ ⟨Nat.le_of_ble_eq_true rfl, Nat.le_of_ble_eq_true rfl⟩ ?_
  refine q_nrm 9 [q_e (F_X4_faultOfDropping 0 n v σ)] 0 0 rfl rfl rfl rfl ?_
  have hc9 := (k_X8_raise (α := α) (β := β) (D := D) (κ := κ) (F_X4_faultOfDropping 0 n v σ) σ)
  have hp10 := hP _ rfl
  cases hx2 : (F_X8_raise (F_X4_faultOfDropping 0 n v σ) σ) with
  | none =>
    rw [hx2] at hc9 hF
    dsimp only at hF
    rw [hx2] at hp10
    refine q_callS C hfl mw_X8_raise ms_X8_raise lk_X8_64 hc9 (rest := []) rfl rfl (q_dc (z := (9, .invokestatic 64, 3, 0, 0)) tk_X8_drop 5 rfl) (Nat.le_of_ble_eq_true rfl) ⟨Nat.le_of_ble_eq_true rfl, Nat.le_of_ble_eq_true rfl⟩ ⟨Nat.le_of_ble_eq_true rfl, Nat.le_of_ble_eq_true rfl⟩ ?_
    refine q_nrm 12 [] 1 6 rfl rfl rfl rfl ?_
    refine q_go C tk_X8_drop [(6, 4)] [] (pc1 := 20) (σ1 := σ) (lv1 := [(0, .ref 220), (1, .int n), (2, .int v)]) (st1 := [.ref 0, .ref 221]) rfl ⟨rfl, rfl, trivial⟩ ?_
    refine q_callV C hfl mw_X2_push mi_X2_push me_X2_push lk_X8_68 (k_X2_push 0 σ rfl hp10.1) (rest := []) rfl rfl rfl (by decide) (by decide) rfl (q_dc (z := (20, .invokevirtual 68, 3, 0, 0)) tk_X8_drop 10 rfl) (Nat.le_of_ble_eq_true rfl) ⟨Nat.le_of_ble_eq_true rfl, Nat.le_of_ble_eq_true rfl⟩ ⟨Nat.le_of_ble_eq_true rfl, Nat.le_of_ble_eq_true rfl⟩ ?_
    refine q_nrm 23 [] 1 6 rfl rfl rfl rfl ?_
    generalize e4 : (F_X2_push 0 σ) = σ3
    replace hF := q_let e4 hF
    refine q_go C tk_X8_drop [(11, 4)] [] (pc1 := 29) (σ1 := σ3) (lv1 := [(0, .ref 220), (1, .int n), (2, .int v)]) (st1 := [.int n, .ref 220, .ref 0]) rfl ⟨rfl, trivial⟩ ?_
    have hc11 := (k_X8_teamWith (α := α) (β := β) (D := D) (κ := κ) n σ3)
    cases hx6 : (F_X8_teamWith n σ3) with
    | inl v5 =>
      rw [hx6] at hc11 hF
      dsimp only at hF
      refine q_callV C hfl mw_X8_teamWith mi_X8_teamWith me_X8_teamWith lk_X8_80 hc11 (rest := [.ref 0]) rfl rfl rfl (by decide) (by decide) rfl (q_dc (z := (29, .invokevirtual 80, 3, 0, 0)) tk_X8_drop 15 rfl) (Nat.le_of_ble_eq_true rfl) ⟨Nat.le_of_ble_eq_true rfl, Nat.le_of_ble_eq_true rfl⟩ ⟨Nat.le_of_ble_eq_true rfl, Nat.le_of_ble_eq_true rfl⟩ ?_
      refine q_nrm 32 [.ref v5, .ref 0] 2 12 rfl rfl rfl rfl ?_
      refine q_go C tk_X8_drop [(16, 1)] [] (pc1 := 33) (σ1 := σ3) (lv1 := [(0, .ref 220), (1, .int n), (2, .int v)]) (st1 := [.int v, .ref v5, .ref 0]) rfl trivial ?_
      refine q_callV C hfl mw_X4_dropQuill mi_X4_dropQuill me_X4_dropQuill lk_X8_134 (k_X4_dropQuill 0 v5 v σ3 rfl (f_X8_teamWith_kd  hx6)) (rest := []) rfl rfl rfl (by decide) (by decide) rfl (q_dc (z := (33, .invokevirtual 134, 3, 0, 0)) tk_X8_drop 17 rfl) (Nat.le_of_ble_eq_true rfl) ⟨Nat.le_of_ble_eq_true rfl, Nat.le_of_ble_eq_true rfl⟩ ⟨Nat.le_of_ble_eq_true rfl, Nat.le_of_ble_eq_true rfl⟩ ?_
      refine q_nrm 36 [.int (F_X4_dropQuill 0 v5 v σ3).1] 2 12 rfl rfl rfl rfl ?_
      generalize e8 : (F_X4_dropQuill 0 v5 v σ3).2 = σ7
      replace hF := q_let e8 hF
      exact q_iret C hr (q_dc (z := (36, .ireturn, 1, 0, 0)) tk_X8_drop 18 rfl) (congrArg Prod.snd hF) (congrArg (fun z => q_oxi z.1) hF.symm) (Nat.le_of_ble_eq_true rfl) (Nat.le_of_ble_eq_true rfl)
    | inr E =>
      rw [hx6] at hc11 hF
      dsimp only at hF
      refine q_callVx C hfl mw_X8_teamWith mi_X8_teamWith me_X8_teamWith lk_X8_80 hc11 (rest := [.ref 0]) rfl rfl rfl (by decide) (by decide) rfl (q_dc (z := (29, .invokevirtual 80, 3, 0, 0)) tk_X8_drop 15 rfl) (Nat.le_of_ble_eq_true rfl) ⟨Nat.le_of_ble_eq_true rfl, Nat.le_of_ble_eq_true rfl⟩ ⟨Nat.le_of_ble_eq_true rfl, Nat.le_of_ble_eq_true rfl⟩ ?_
      exact q_xout C hT (congrArg Prod.snd hF) (congrArg (fun z => q_oxi z.1) hF.symm) (Nat.le_of_ble_eq_true rfl) (Nat.le_of_ble_eq_true rfl)
  | some E =>
    rw [hx2] at hc9 hF
    dsimp only at hF
    rw [hx2] at hp10
    refine q_callSx C hfl mw_X8_raise ms_X8_raise lk_X8_64 hc9 (rest := []) rfl rfl (q_dc (z := (9, .invokestatic 64, 3, 0, 0)) tk_X8_drop 5 rfl) (Nat.le_of_ble_eq_true rfl) ⟨Nat.le_of_ble_eq_true rfl, Nat.le_of_ble_eq_true rfl⟩ ⟨Nat.le_of_ble_eq_true rfl, Nat.le_of_ble_eq_true rfl⟩ ?_
    exact q_xout C hT (congrArg Prod.snd hF) (congrArg (fun z => q_oxi z.1) hF.symm) (Nat.le_of_ble_eq_true rfl) (Nat.le_of_ble_eq_true rfl)
def F_X8_withdraw (n : Int32) (σ : q_M) : (Int32 ⊕ String) × q_M := (match (F_X8_raise (F_X4_faultOfWithdrawing 0 n σ) σ) with | none => (q_L (F_X2_push 0 σ) (fun σ3 : q_M => (match (F_X8_teamWith n σ3) with | .inl v5 => (q_L (q_up σ3 v5 3 4) (fun σ7 : q_M => ((.inl (F_X4_countRunning 0 σ7)), σ7))) | .inr E => ((.inr E), σ3)))) | some E => ((.inr E), σ))
def P_X8_withdraw (n : Int32) (σ : q_M) : Prop := (∀ r, (F_X8_raise (F_X4_faultOfWithdrawing 0 n σ) σ) = r → match r with | none => ((P_X2_push 0 σ) ∧ (∀ σ3 : q_M, (F_X2_push 0 σ) = σ3 → (∀ r, (F_X8_teamWith n σ3) = r → match r with | .inl v5 => (∀ σ7 : q_M, (q_up σ3 v5 3 4) = σ7 → ((P_X4_countRunning 0 σ7) ∧ True)) | .inr E => True))) | some E => True)
set_option maxRecDepth 100000 in
theorem k_X8_withdraw {α β : Nat → Nat} {D : va_G} {κ : Nat → ClassId} (n : Int32) (σ : q_M) (hP : P_X8_withdraw n σ) : q_C α β D κ yX8_withdraw cX8_withdraw 2 (Option.some Jvm.ClassFile.FieldType.int) 7 112 2 12 [.ref 220, .int n] σ (q_oxi (F_X8_withdraw n σ).1) (F_X8_withdraw n σ).2 := by
  refine q_enter (own := RX8) (F := F_X8) (G := G_X8) (by decide +kernel) rfl Fok_X8 Gok_X8 (Nat.le_of_ble_eq_true rfl) (fun p l e s m args below meth c A hfl C hr hT => ?_)
  generalize hF : F_X8_withdraw n σ = rr
  unfold F_X8_withdraw at hF
  refine q_go C tk_X8_withdraw [(0, 3)] [] (pc1 := 5) (σ1 := σ) (lv1 := [(0, .ref 220), (1, .int n)]) (st1 := [.int n, .ref 0]) rfl ⟨rfl, trivial⟩ ?_
  refine q_callV C hfl mw_X4_faultOfWithdrawing mi_X4_faultOfWithdrawing me_X4_faultOfWithdrawing lk_X8_138 (k_X4_faultOfWithdrawing 0 n σ rfl) (rest := []) rfl rfl rfl (by decide) (by decide) rfl (q_dc (z := (5, .invokevirtual 138, 3, 0, 0)) tk_X8_withdraw 3 rfl) (Nat.le_of_ble_eq_true rfl) ⟨Nat.le_of_ble_eq_true rfl, Nat.le_of_ble_eq_true rfl⟩ ⟨Nat.le_of_ble_eq_true rfl, Nat.le_of_ble_eq_true rfl⟩ ?_
  refine q_nrm 8 [q_e (F_X4_faultOfWithdrawing 0 n σ)] 0 0 rfl rfl rfl rfl ?_
  have hc9 := (k_X8_raise (α := α) (β := β) (D := D) (κ := κ) (F_X4_faultOfWithdrawing 0 n σ) σ)
  have hp10 := hP _ rfl
  cases hx2 : (F_X8_raise (F_X4_faultOfWithdrawing 0 n σ) σ) with
  | none =>
    rw [hx2] at hc9 hF
    dsimp only at hF
    rw [hx2] at hp10
    refine q_callS C hfl mw_X8_raise ms_X8_raise lk_X8_64 hc9 (rest := []) rfl rfl (q_dc (z := (8, .invokestatic 64, 3, 0, 0)) tk_X8_withdraw 4 rfl) (Nat.le_of_ble_eq_true rfl) ⟨Nat.le_of_ble_eq_true rfl, Nat.le_of_ble_eq_true rfl⟩ ⟨Nat.le_of_ble_eq_true rfl, Nat.le_of_ble_eq_true rfl⟩ ?_
    refine q_nrm 11 [] 1 6 rfl rfl rfl rfl ?_
    refine q_go C tk_X8_withdraw [(5, 4)] [] (pc1 := 19) (σ1 := σ) (lv1 := [(0, .ref 220), (1, .int n)]) (st1 := [.ref 0, .ref 221]) rfl ⟨rfl, rfl, trivial⟩ ?_
    refine q_callV C hfl mw_X2_push mi_X2_push me_X2_push lk_X8_68 (k_X2_push 0 σ rfl hp10.1) (rest := []) rfl rfl rfl (by decide) (by decide) rfl (q_dc (z := (19, .invokevirtual 68, 3, 0, 0)) tk_X8_withdraw 9 rfl) (Nat.le_of_ble_eq_true rfl) ⟨Nat.le_of_ble_eq_true rfl, Nat.le_of_ble_eq_true rfl⟩ ⟨Nat.le_of_ble_eq_true rfl, Nat.le_of_ble_eq_true rfl⟩ ?_
    refine q_nrm 22 [] 1 6 rfl rfl rfl rfl ?_
    generalize e4 : (F_X2_push 0 σ) = σ3
    replace hF := q_let e4 hF
    refine q_go C tk_X8_withdraw [(10, 2)] [] (pc1 := 24) (σ1 := σ3) (lv1 := [(0, .ref 220), (1, .int n)]) (st1 := [.int n, .ref 220]) rfl trivial ?_
    have hc11 := (k_X8_teamWith (α := α) (β := β) (D := D) (κ := κ) n σ3)
    have hp12 := (hp10.2 σ3 e4) _ rfl
    cases hx6 : (F_X8_teamWith n σ3) with
    | inl v5 =>
      rw [hx6] at hc11 hF
      dsimp only at hF
      rw [hx6] at hp12
      refine q_callV C hfl mw_X8_teamWith mi_X8_teamWith me_X8_teamWith lk_X8_80 hc11 (rest := []) rfl rfl rfl (by decide) (by decide) rfl (q_dc (z := (24, .invokevirtual 80, 3, 0, 0)) tk_X8_withdraw 12 rfl) (Nat.le_of_ble_eq_true rfl) ⟨Nat.le_of_ble_eq_true rfl, Nat.le_of_ble_eq_true rfl⟩ ⟨Nat.le_of_ble_eq_true rfl, Nat.le_of_ble_eq_true rfl⟩ ?_
      refine q_nrm 27 [.ref v5] 2 12 rfl rfl rfl rfl ?_
      refine q_go C tk_X8_withdraw [(13, 4)] [] (pc1 := 37) (σ1 := (q_up σ3 v5 3 4)) (lv1 := [(0, .ref 220), (1, .int n)]) (st1 := [.ref 0]) rfl ⟨(f_X8_teamWith_kd  hx6), rfl, trivial⟩ ?_
      generalize e8 : (q_up σ3 v5 3 4) = σ7
      replace hF := q_let e8 hF
      refine q_callV C hfl mw_X4_countRunning mi_X4_countRunning me_X4_countRunning lk_X8_150 (k_X4_countRunning 0 σ7 rfl (hp12 σ7 e8).1) (rest := []) rfl rfl rfl (by decide) (by decide) rfl (q_dc (z := (37, .invokevirtual 150, 3, 0, 0)) tk_X8_withdraw 17 rfl) (Nat.le_of_ble_eq_true rfl) ⟨Nat.le_of_ble_eq_true rfl, Nat.le_of_ble_eq_true rfl⟩ ⟨Nat.le_of_ble_eq_true rfl, Nat.le_of_ble_eq_true rfl⟩ ?_
      refine q_nrm 40 [.int (F_X4_countRunning 0 σ7)] 2 12 rfl rfl rfl rfl ?_
      exact q_iret C hr (q_dc (z := (40, .ireturn, 1, 0, 0)) tk_X8_withdraw 18 rfl) (congrArg Prod.snd hF) (congrArg (fun z => q_oxi z.1) hF.symm) (Nat.le_of_ble_eq_true rfl) (Nat.le_of_ble_eq_true rfl)
    | inr E =>
      rw [hx6] at hc11 hF
      dsimp only at hF
      rw [hx6] at hp12
      refine q_callVx C hfl mw_X8_teamWith mi_X8_teamWith me_X8_teamWith lk_X8_80 hc11 (rest := []) rfl rfl rfl (by decide) (by decide) rfl (q_dc (z := (24, .invokevirtual 80, 3, 0, 0)) tk_X8_withdraw 12 rfl) (Nat.le_of_ble_eq_true rfl) ⟨Nat.le_of_ble_eq_true rfl, Nat.le_of_ble_eq_true rfl⟩ ⟨Nat.le_of_ble_eq_true rfl, Nat.le_of_ble_eq_true rfl⟩ ?_
      exact q_xout C hT (congrArg Prod.snd hF) (congrArg (fun z => q_oxi z.1) hF.symm) (Nat.le_of_ble_eq_true rfl) (Nat.le_of_ble_eq_true rfl)
  | some E =>
    rw [hx2] at hc9 hF
    dsimp only at hF
    rw [hx2] at hp10
    refine q_callSx C hfl mw_X8_raise ms_X8_raise lk_X8_64 hc9 (rest := []) rfl rfl (q_dc (z := (8, .invokestatic 64, 3, 0, 0)) tk_X8_withdraw 4 rfl) (Nat.le_of_ble_eq_true rfl) ⟨Nat.le_of_ble_eq_true rfl, Nat.le_of_ble_eq_true rfl⟩ ⟨Nat.le_of_ble_eq_true rfl, Nat.le_of_ble_eq_true rfl⟩ ?_
    exact q_xout C hT (congrArg Prod.snd hF) (congrArg (fun z => q_oxi z.1) hF.symm) (Nat.le_of_ble_eq_true rfl) (Nat.le_of_ble_eq_true rfl)
def F_X8_protest (b : Int32) (a : Int32) (k : Int32) (σ : q_M) : (Int32 ⊕ String) × q_M := (match (F_X8_raise (F_X4_faultOfProtesting 0 b a k σ) σ) with | none => (q_L (F_X2_push 0 σ) (fun σ3 : q_M => (match (F_X8_teamWith b σ3) with | .inl v5 => (match (F_X8_teamWith a σ3) with | .inl v7 => (q_L (F_X4_judge 0 v5 v7 k σ3).2 (fun σ9 : q_M => ((.inl (F_X4_judge 0 v5 v7 k σ3).1), σ9))) | .inr E => ((.inr E), σ3)) | .inr E => ((.inr E), σ3)))) | some E => ((.inr E), σ))
def P_X8_protest (b : Int32) (a : Int32) (k : Int32) (σ : q_M) : Prop := (∀ r, (F_X8_raise (F_X4_faultOfProtesting 0 b a k σ) σ) = r → match r with | none => ((P_X2_push 0 σ) ∧ (∀ σ3 : q_M, (F_X2_push 0 σ) = σ3 → (∀ r, (F_X8_teamWith b σ3) = r → match r with | .inl v5 => (∀ r, (F_X8_teamWith a σ3) = r → match r with | .inl v7 => ((P_X4_judge 0 v5 v7 k σ3) ∧ True) | .inr E => True) | .inr E => True))) | some E => True)
set_option maxRecDepth 100000 in
theorem k_X8_protest {α β : Nat → Nat} {D : va_G} {κ : Nat → ClassId} (b : Int32) (a : Int32) (k : Int32) (σ : q_M) (hP : P_X8_protest b a k σ) : q_C α β D κ yX8_protest cX8_protest 4 (Option.some Jvm.ClassFile.FieldType.boolean) 7 112 3 18 [.ref 220, .int b, .int a, .int k] σ (q_oxi (F_X8_protest b a k σ).1) (F_X8_protest b a k σ).2 := by
  refine q_enter (own := RX8) (F := F_X8) (G := G_X8) (by decide +kernel) rfl Fok_X8 Gok_X8 (Nat.le_of_ble_eq_true rfl) (fun p l e s m args below meth c A hfl C hr hT => ?_)
  generalize hF : F_X8_protest b a k σ = rr
  unfold F_X8_protest at hF
  refine q_go C tk_X8_protest [(0, 5)] [] (pc1 := 7) (σ1 := σ) (lv1 := [(0, .ref 220), (1, .int b), (2, .int a), (3, .int k)]) (st1 := [.int k, .int a, .int b, .ref 0]) rfl ⟨rfl, trivial⟩ ?_
  refine q_callV C hfl mw_X4_faultOfProtesting mi_X4_faultOfProtesting me_X4_faultOfProtesting lk_X8_153 (k_X4_faultOfProtesting 0 b a k σ rfl) (rest := []) rfl rfl rfl (by decide) (by decide) rfl (q_dc (z := (7, .invokevirtual 153, 3, 0, 0)) tk_X8_protest 5 rfl) (Nat.le_of_ble_eq_true rfl) ⟨Nat.le_of_ble_eq_true rfl, Nat.le_of_ble_eq_true rfl⟩ ⟨Nat.le_of_ble_eq_true rfl, Nat.le_of_ble_eq_true rfl⟩ ?_
  refine q_nrm 10 [q_e (F_X4_faultOfProtesting 0 b a k σ)] 0 0 rfl rfl rfl rfl ?_
  have hc11 := (k_X8_raise (α := α) (β := β) (D := D) (κ := κ) (F_X4_faultOfProtesting 0 b a k σ) σ)
  have hp12 := hP _ rfl
  cases hx2 : (F_X8_raise (F_X4_faultOfProtesting 0 b a k σ) σ) with
  | none =>
    rw [hx2] at hc11 hF
    dsimp only at hF
    rw [hx2] at hp12
    refine q_callS C hfl mw_X8_raise ms_X8_raise lk_X8_64 hc11 (rest := []) rfl rfl (q_dc (z := (10, .invokestatic 64, 3, 0, 0)) tk_X8_protest 6 rfl) (Nat.le_of_ble_eq_true rfl) ⟨Nat.le_of_ble_eq_true rfl, Nat.le_of_ble_eq_true rfl⟩ ⟨Nat.le_of_ble_eq_true rfl, Nat.le_of_ble_eq_true rfl⟩ ?_
    refine q_nrm 13 [] 1 6 rfl rfl rfl rfl ?_
    refine q_go C tk_X8_protest [(7, 4)] [] (pc1 := 21) (σ1 := σ) (lv1 := [(0, .ref 220), (1, .int b), (2, .int a), (3, .int k)]) (st1 := [.ref 0, .ref 221]) rfl ⟨rfl, rfl, trivial⟩ ?_
    refine q_callV C hfl mw_X2_push mi_X2_push me_X2_push lk_X8_68 (k_X2_push 0 σ rfl hp12.1) (rest := []) rfl rfl rfl (by decide) (by decide) rfl (q_dc (z := (21, .invokevirtual 68, 3, 0, 0)) tk_X8_protest 11 rfl) (Nat.le_of_ble_eq_true rfl) ⟨Nat.le_of_ble_eq_true rfl, Nat.le_of_ble_eq_true rfl⟩ ⟨Nat.le_of_ble_eq_true rfl, Nat.le_of_ble_eq_true rfl⟩ ?_
    refine q_nrm 24 [] 1 6 rfl rfl rfl rfl ?_
    generalize e4 : (F_X2_push 0 σ) = σ3
    replace hF := q_let e4 hF
    refine q_go C tk_X8_protest [(12, 4)] [] (pc1 := 30) (σ1 := σ3) (lv1 := [(0, .ref 220), (1, .int b), (2, .int a), (3, .int k)]) (st1 := [.int b, .ref 220, .ref 0]) rfl ⟨rfl, trivial⟩ ?_
    have hc13 := (k_X8_teamWith (α := α) (β := β) (D := D) (κ := κ) b σ3)
    have hp14 := (hp12.2 σ3 e4) _ rfl
    cases hx6 : (F_X8_teamWith b σ3) with
    | inl v5 =>
      rw [hx6] at hc13 hF
      dsimp only at hF
      rw [hx6] at hp14
      refine q_callV C hfl mw_X8_teamWith mi_X8_teamWith me_X8_teamWith lk_X8_80 hc13 (rest := [.ref 0]) rfl rfl rfl (by decide) (by decide) rfl (q_dc (z := (30, .invokevirtual 80, 3, 0, 0)) tk_X8_protest 16 rfl) (Nat.le_of_ble_eq_true rfl) ⟨Nat.le_of_ble_eq_true rfl, Nat.le_of_ble_eq_true rfl⟩ ⟨Nat.le_of_ble_eq_true rfl, Nat.le_of_ble_eq_true rfl⟩ ?_
      refine q_nrm 33 [.ref v5, .ref 0] 2 12 rfl rfl rfl rfl ?_
      refine q_go C tk_X8_protest [(17, 2)] [] (pc1 := 35) (σ1 := σ3) (lv1 := [(0, .ref 220), (1, .int b), (2, .int a), (3, .int k)]) (st1 := [.int a, .ref 220, .ref v5, .ref 0]) rfl trivial ?_
      have hc15 := (k_X8_teamWith (α := α) (β := β) (D := D) (κ := κ) a σ3)
      have hp16 := hp14 _ rfl
      cases hx8 : (F_X8_teamWith a σ3) with
      | inl v7 =>
        rw [hx8] at hc15 hF
        dsimp only at hF
        rw [hx8] at hp16
        refine q_callV C hfl mw_X8_teamWith mi_X8_teamWith me_X8_teamWith lk_X8_80 hc15 (rest := [.ref v5, .ref 0]) rfl rfl rfl (by decide) (by decide) rfl (q_dc (z := (35, .invokevirtual 80, 3, 0, 0)) tk_X8_protest 19 rfl) (Nat.le_of_ble_eq_true rfl) ⟨Nat.le_of_ble_eq_true rfl, Nat.le_of_ble_eq_true rfl⟩ ⟨Nat.le_of_ble_eq_true rfl, Nat.le_of_ble_eq_true rfl⟩ ?_
        refine q_nrm 38 [.ref v7, .ref v5, .ref 0] 3 18 rfl rfl rfl rfl ?_
        refine q_go C tk_X8_protest [(20, 1)] [] (pc1 := 39) (σ1 := σ3) (lv1 := [(0, .ref 220), (1, .int b), (2, .int a), (3, .int k)]) (st1 := [.int k, .ref v7, .ref v5, .ref 0]) rfl trivial ?_
        refine q_callV C hfl mw_X4_judge mi_X4_judge me_X4_judge lk_X8_156 (k_X4_judge 0 v5 v7 k σ3 rfl (f_X8_teamWith_kd  hx6) (f_X8_teamWith_kd  hx8) hp16.1) (rest := []) rfl rfl rfl (by decide) (by decide) rfl (q_dc (z := (39, .invokevirtual 156, 3, 0, 0)) tk_X8_protest 21 rfl) (Nat.le_of_ble_eq_true rfl) ⟨Nat.le_of_ble_eq_true rfl, Nat.le_of_ble_eq_true rfl⟩ ⟨Nat.le_of_ble_eq_true rfl, Nat.le_of_ble_eq_true rfl⟩ ?_
        refine q_nrm 42 [.int (F_X4_judge 0 v5 v7 k σ3).1] 3 18 rfl rfl rfl rfl ?_
        generalize e10 : (F_X4_judge 0 v5 v7 k σ3).2 = σ9
        replace hF := q_let e10 hF
        exact q_zret C hr (q_dc (z := (42, .ireturn, 1, 0, 0)) tk_X8_protest 22 rfl) (q_zb (z_X4_judge)).1 (congrArg Prod.snd hF) (congrArg (fun z => q_oxi z.1) hF.symm) (Nat.le_of_ble_eq_true rfl) (Nat.le_of_ble_eq_true rfl)
      | inr E =>
        rw [hx8] at hc15 hF
        dsimp only at hF
        rw [hx8] at hp16
        refine q_callVx C hfl mw_X8_teamWith mi_X8_teamWith me_X8_teamWith lk_X8_80 hc15 (rest := [.ref v5, .ref 0]) rfl rfl rfl (by decide) (by decide) rfl (q_dc (z := (35, .invokevirtual 80, 3, 0, 0)) tk_X8_protest 19 rfl) (Nat.le_of_ble_eq_true rfl) ⟨Nat.le_of_ble_eq_true rfl, Nat.le_of_ble_eq_true rfl⟩ ⟨Nat.le_of_ble_eq_true rfl, Nat.le_of_ble_eq_true rfl⟩ ?_
        exact q_xout C hT (congrArg Prod.snd hF) (congrArg (fun z => q_oxi z.1) hF.symm) (Nat.le_of_ble_eq_true rfl) (Nat.le_of_ble_eq_true rfl)
    | inr E =>
      rw [hx6] at hc13 hF
      dsimp only at hF
      rw [hx6] at hp14
      refine q_callVx C hfl mw_X8_teamWith mi_X8_teamWith me_X8_teamWith lk_X8_80 hc13 (rest := [.ref 0]) rfl rfl rfl (by decide) (by decide) rfl (q_dc (z := (30, .invokevirtual 80, 3, 0, 0)) tk_X8_protest 16 rfl) (Nat.le_of_ble_eq_true rfl) ⟨Nat.le_of_ble_eq_true rfl, Nat.le_of_ble_eq_true rfl⟩ ⟨Nat.le_of_ble_eq_true rfl, Nat.le_of_ble_eq_true rfl⟩ ?_
      exact q_xout C hT (congrArg Prod.snd hF) (congrArg (fun z => q_oxi z.1) hF.symm) (Nat.le_of_ble_eq_true rfl) (Nat.le_of_ble_eq_true rfl)
  | some E =>
    rw [hx2] at hc11 hF
    dsimp only at hF
    rw [hx2] at hp12
    refine q_callSx C hfl mw_X8_raise ms_X8_raise lk_X8_64 hc11 (rest := []) rfl rfl (q_dc (z := (10, .invokestatic 64, 3, 0, 0)) tk_X8_protest 6 rfl) (Nat.le_of_ble_eq_true rfl) ⟨Nat.le_of_ble_eq_true rfl, Nat.le_of_ble_eq_true rfl⟩ ⟨Nat.le_of_ble_eq_true rfl, Nat.le_of_ble_eq_true rfl⟩ ?_
    exact q_xout C hT (congrArg Prod.snd hF) (congrArg (fun z => q_oxi z.1) hF.symm) (Nat.le_of_ble_eq_true rfl) (Nat.le_of_ble_eq_true rfl)
