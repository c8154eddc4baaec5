/-! The model: more. -/
def FL_X9_secondsPass_72 (v : Int32) (x7 : Int32) (v3 : Int32) : Nat → Int32 → q_M → q_M
  | 0, v4, τ => τ
  | nn + 1, v4, τ => (if v4 < (τ 230 3) then (if (F_X9_of v4 6 τ) = 1 then (q_L (F_X9_moves v4 τ) (fun σ14 : q_M => (FL_X9_secondsPass_72 v x7 v3 nn (v4 + 1) σ14))) else (FL_X9_secondsPass_72 v x7 v3 nn (v4 + 1) τ)) else τ)
def PL_X9_secondsPass_72 (v : Int32) (x7 : Int32) (v3 : Int32) : Nat → Int32 → q_M → Prop
  | 0, v4, τ => False
  | nn + 1, v4, τ => ((v4 < (τ 230 3) → ((P_X9_of v4 6 τ) ∧ (((F_X9_of v4 6 τ) = 1 → ((P_X9_moves v4 τ) ∧ (∀ σ14 : q_M, (F_X9_moves v4 τ) = σ14 → (PL_X9_secondsPass_72 v x7 v3 nn (v4 + 1) σ14)))) ∧ (¬ (F_X9_of v4 6 τ) = 1 → (PL_X9_secondsPass_72 v x7 v3 nn (v4 + 1) τ))))) ∧ (¬ v4 < (τ 230 3) → True))
set_option maxRecDepth 100000 in
theorem kl_X9_secondsPass_72 {α β : Nat → Nat} {D : va_G} {κ : Nat → ClassId} (v : Int32) (x7 : Int32) (v3 : Int32) {p : Program} {l : Launch} {e : Env} {s : State} {m : MethodId} {args : Array Value} {below : List Frame} {meth : Method} {c : Code} {A : Nat → Prop} (hfl : l.flags = flags0) (C : q_Cx α β D κ p s m args meth c cX9_secondsPass RX9 F_X9 G_X9 5 A) (hr : meth.sig.returnType = (Option.some Jvm.ClassFile.FieldType.int)) (hT : ∀ x ∈ c.exceptionTable.toList, False) {o : q_O} {σ9 : q_M} : ∀ (nn : Nat) (v4 : Int32) (τ : q_M), PL_X9_secondsPass_72 v x7 v3 nn v4 τ → (∀ τ1 : q_M, FL_X9_secondsPass_72 v x7 v3 nn v4 τ = τ1 → q_St α β D κ p l e ({ frames := 3, cells := 0, slots := 0, locals := 68 } : Room) s m args below meth c 5 A (vx_MQ below (q_Qc α β D κ A o σ9) (q_XC α β D κ A o σ9) args s 0 0 A) 0 0 τ1 [(0, .ref 229), (1, .int v), (2, .int x7), (3, .int v3)] 107 []) → q_St α β D κ p l e ({ frames := 3, cells := 0, slots := 0, locals := 68 } : Room) s m args below meth c 5 A (vx_MQ below (q_Qc α β D κ A o σ9) (q_XC α β D κ A o σ9) args s 0 0 A) 0 0 τ [(0, .ref 229), (1, .int v), (2, .int x7), (3, .int v3), (4, .int v4)] 72 [] := by
  intro nn
  induction nn with
  | zero => intro v4 τ hP; exact hP.elim
  | succ nn ih =>
    intro v4 τ hP hK
    generalize hF : FL_X9_secondsPass_72 v x7 v3 (nn + 1) v4 τ = rr at hK
    unfold FL_X9_secondsPass_72 at hF
    refine q_go C tk_X9_secondsPass [(43, 5)] [] (pc1 := 80) (σ1 := τ) (lv1 := [(0, .ref 229), (1, .int v), (2, .int x7), (3, .int v3), (4, .int v4)]) (st1 := [.int (τ 230 3), .int v4]) rfl ⟨rfl, rfl, (by unfold vp_in; decide +kernel), trivial⟩ ?_
    by_cases c12 : v4 < (τ 230 3)
    · rw [if_pos c12] at hF
      refine q_go C tk_X9_secondsPass [(48, 4)] [false] (pc1 := 88) (σ1 := τ) (lv1 := [(0, .ref 229), (1, .int v), (2, .int x7), (3, .int v3), (4, .int v4)]) (st1 := [.int 6, .int v4, .ref 229]) rfl ⟨c12, trivial⟩ ?_
      refine q_callV C hfl mw_X9_of mi_X9_of me_X9_of lk_X9_52 (k_X9_of v4 6 τ (hP.1 c12).1) (rest := []) rfl rfl rfl (by decide) (by decide) rfl (q_dc (z := (88, .invokevirtual 52, 3, 0, 0)) tk_X9_secondsPass 52 rfl) (Nat.le_of_ble_eq_true rfl) ⟨Nat.le_of_ble_eq_true rfl, Nat.le_of_ble_eq_true rfl⟩ ⟨Nat.le_of_ble_eq_true rfl, Nat.le_of_ble_eq_true rfl⟩ ?_
      refine q_nrm 91 [.int (F_X9_of v4 6 τ)] 0 0 rfl rfl rfl rfl ?_
      refine q_go C tk_X9_secondsPass [(53, 1)] [] (pc1 := 92) (σ1 := τ) (lv1 := [(0, .ref 229), (1, .int v), (2, .int x7), (3, .int v3), (4, .int v4)]) (st1 := [.int 1, .int (F_X9_of v4 6 τ)]) rfl trivial ?_
      by_cases c13 : (F_X9_of v4 6 τ) = 1
      · rw [if_pos c13] at hF
        refine q_go C tk_X9_secondsPass [(54, 3)] [false] (pc1 := 98) (σ1 := τ) (lv1 := [(0, .ref 229), (1, .int v), (2, .int x7), (3, .int v3), (4, .int v4)]) (st1 := [.int v4, .ref 229]) rfl ⟨c13, trivial⟩ ?_
        refine q_callV C hfl mw_X9_moves mi_X9_moves me_X9_moves lk_X9_112 (k_X9_moves v4 τ ((hP.1 c12).2.1 c13).1) (rest := []) rfl rfl rfl (by decide) (by decide) rfl (q_dc (z := (98, .invokevirtual 112, 3, 0, 0)) tk_X9_secondsPass 57 rfl) (Nat.le_of_ble_eq_true rfl) ⟨Nat.le_of_ble_eq_true rfl, Nat.le_of_ble_eq_true rfl⟩ ⟨Nat.le_of_ble_eq_true rfl, Nat.le_of_ble_eq_true rfl⟩ ?_
        refine q_nrm 101 [] 0 0 rfl rfl rfl rfl ?_
        generalize e15 : (F_X9_moves v4 τ) = σ14
        replace hF := q_let e15 hF
        refine q_go C tk_X9_secondsPass [(58, 2)] [] (pc1 := 72) (σ1 := σ14) (lv1 := [(4, .int (v4 + 1)), (0, .ref 229), (1, .int v), (2, .int x7), (3, .int v3)]) (st1 := []) rfl trivial ?_
        refine q_lvpick [1, 2, 3, 4, 0] (lv' := [(0, .ref 229), (1, .int v), (2, .int x7), (3, .int v3), (4, .int (v4 + 1))]) rfl ?_
        exact ih (v4 + 1) σ14 (((hP.1 c12).2.1 c13).2 σ14 e15) (by rw [hF]; exact hK)
      · rw [if_neg c13] at hF
        refine q_go C tk_X9_secondsPass [(54, 1), (58, 2)] [true] (pc1 := 72) (σ1 := τ) (lv1 := [(4, .int (v4 + 1)), (0, .ref 229), (1, .int v), (2, .int x7), (3, .int v3)]) (st1 := []) rfl ⟨c13, trivial⟩ ?_
        refine q_lvpick [1, 2, 3, 4, 0] (lv' := [(0, .ref 229), (1, .int v), (2, .int x7), (3, .int v3), (4, .int (v4 + 1))]) rfl ?_
        exact ih (v4 + 1) τ ((hP.1 c12).2.2 c13) (by rw [hF]; exact hK)
    · rw [if_neg c12] at hF
      refine q_go C tk_X9_secondsPass [(48, 1)] [true] (pc1 := 107) (σ1 := τ) (lv1 := [(0, .ref 229), (1, .int v), (2, .int x7), (3, .int v3), (4, .int v4)]) (st1 := []) rfl ⟨c12, trivial⟩ ?_
      refine q_lvpick [0, 1, 2, 3] (lv' := [(0, .ref 229), (1, .int v), (2, .int x7), (3, .int v3)]) rfl ?_
      exact hK _ hF.symm
def FL_X9_secondsPass_54 (v : Int32) (x7 : Int32) : Nat → Int32 → q_M → (Int32) × q_M
  | 0, v3, τ => (0, τ)
  | nn + 1, v3, τ => (if v3 < v then (q_L (FL_X9_secondsPass_72 v x7 v3 10 0 (q_up τ 230 2 ((τ 230 2) + 1))) (fun σ10 : q_M => (FL_X9_secondsPass_54 v x7 nn (v3 + 1) σ10))) else (((F_X9_inStatus 2 τ) - x7), τ))
def PL_X9_secondsPass_54 (v : Int32) (x7 : Int32) : Nat → Int32 → q_M → Prop
  | 0, v3, τ => False
  | nn + 1, v3, τ => ((v3 < v → ((PL_X9_secondsPass_72 v x7 v3 10 0 (q_up τ 230 2 ((τ 230 2) + 1))) ∧ (∀ σ10 : q_M, (FL_X9_secondsPass_72 v x7 v3 10 0 (q_up τ 230 2 ((τ 230 2) + 1))) = σ10 → (PL_X9_secondsPass_54 v x7 nn (v3 + 1) σ10)))) ∧ (¬ v3 < v → ((P_X9_inStatus 2 τ) ∧ True)))
set_option maxRecDepth 100000 in
theorem kl_X9_secondsPass_54 {α β : Nat → Nat} {D : va_G} {κ : Nat → ClassId} (v : Int32) (x7 : Int32) {p : Program} {l : Launch} {e : Env} {s : State} {m : MethodId} {args : Array Value} {below : List Frame} {meth : Method} {c : Code} {A : Nat → Prop} (hfl : l.flags = flags0) (C : q_Cx α β D κ p s m args meth c cX9_secondsPass RX9 F_X9 G_X9 5 A) (hr : meth.sig.returnType = (Option.some Jvm.ClassFile.FieldType.int)) (hT : ∀ x ∈ c.exceptionTable.toList, False) : ∀ (nn : Nat) (v3 : Int32) (τ : q_M) (rr : (Int32) × q_M), PL_X9_secondsPass_54 v x7 nn v3 τ → FL_X9_secondsPass_54 v x7 nn v3 τ = rr → q_St α β D κ p l e ({ frames := 3, cells := 0, slots := 0, locals := 68 } : Room) s m args below meth c 5 A (vx_MQ below (q_Qc α β D κ A (q_oi rr.1) rr.2) (q_XC α β D κ A (q_oi rr.1) rr.2) args s 0 0 A) 0 0 τ [(0, .ref 229), (1, .int v), (2, .int x7), (3, .int v3)] 54 [] := by
  intro nn
  induction nn with
  | zero => intro v3 τ rr hP; exact hP.elim
  | succ nn ih =>
    intro v3 τ rr hP hF
    unfold FL_X9_secondsPass_54 at hF
    refine q_go C tk_X9_secondsPass [(30, 2)] [] (pc1 := 56) (σ1 := τ) (lv1 := [(0, .ref 229), (1, .int v), (2, .int x7), (3, .int v3)]) (st1 := [.int v, .int v3]) rfl trivial ?_
    by_cases c9 : v3 < v
    · rw [if_pos c9] at hF
      refine q_go C tk_X9_secondsPass [(32, 11)] [false] (pc1 := 72) (σ1 := (q_up τ 230 2 ((τ 230 2) + 1))) (lv1 := [(4, .int 0), (0, .ref 229), (1, .int v), (2, .int x7), (3, .int v3)]) (st1 := []) rfl ⟨c9, rfl, rfl, (by unfold vp_in; decide +kernel), rfl, (by unfold vp_in; decide +kernel), trivial⟩ ?_
      refine q_lvpick [1, 2, 3, 4, 0] (lv' := [(0, .ref 229), (1, .int v), (2, .int x7), (3, .int v3), (4, .int 0)]) rfl ?_
      refine kl_X9_secondsPass_72 v x7 v3  hfl C hr hT 10 0 (q_up τ 230 2 ((τ 230 2) + 1)) (hP.1 c9).1 (fun σ10 e11 => ?_)
      replace hF := q_let e11 hF
      refine q_go C tk_X9_secondsPass [(60, 2)] [] (pc1 := 54) (σ1 := σ10) (lv1 := [(3, .int (v3 + 1)), (0, .ref 229), (1, .int v), (2, .int x7)]) (st1 := []) rfl trivial ?_
      refine q_lvpick [1, 2, 3, 0] (lv' := [(0, .ref 229), (1, .int v), (2, .int x7), (3, .int (v3 + 1))]) rfl ?_
      exact ih (v3 + 1) σ10 rr ((hP.1 c9).2 σ10 e11) hF
    · rw [if_neg c9] at hF
      refine q_go C tk_X9_secondsPass [(32, 1), (62, 2)] [true] (pc1 := 115) (σ1 := τ) (lv1 := [(0, .ref 229), (1, .int v), (2, .int x7), (3, .int v3)]) (st1 := [.int 2, .ref 229]) rfl ⟨c9, trivial⟩ ?_
      refine q_callV C hfl mw_X9_inStatus mi_X9_inStatus me_X9_inStatus lk_X9_109 (k_X9_inStatus 2 τ (hP.2 c9).1) (rest := []) rfl rfl rfl (by decide) (by decide) rfl (q_dc (z := (115, .invokevirtual 109, 3, 0, 0)) tk_X9_secondsPass 64 rfl) (Nat.le_of_ble_eq_true rfl) ⟨Nat.le_of_ble_eq_true rfl, Nat.le_of_ble_eq_true rfl⟩ ⟨Nat.le_of_ble_eq_true rfl, Nat.le_of_ble_eq_true rfl⟩ ?_
      refine q_nrm 118 [.int (F_X9_inStatus 2 τ)] 0 0 rfl rfl rfl rfl ?_
      refine q_go C tk_X9_secondsPass [(65, 2)] [] (pc1 := 120) (σ1 := τ) (lv1 := [(0, .ref 229), (1, .int v), (2, .int x7), (3, .int v3)]) (st1 := [.int ((F_X9_inStatus 2 τ) - x7)]) rfl trivial ?_
      exact q_iret C hr (q_dc (z := (120, .ireturn, 1, 0, 0)) tk_X9_secondsPass 67 rfl) (congrArg Prod.snd hF) (congrArg (fun z => q_oi z.1) hF.symm) (Nat.le_of_ble_eq_true rfl) (Nat.le_of_ble_eq_true rfl)
def F_X9_secondsPass (v : Int32) (σ : q_M) : (Int32) × q_M := (if (F_X9_isIn v 1 200 σ) = 0 then (0, (q_up σ 229 5 1)) else (q_L (q_up σ 229 5 0) (fun σ2 : q_M => (if (F_X9_isUnprepared σ2) = 0 then (0, (q_up σ2 229 5 2)) else (q_L (q_up σ2 229 5 0) (fun σ5 : q_M => (q_L (F_X9_inStatus 2 σ5) (fun x7 : Int32 => (FL_X9_secondsPass_54 v x7 201 0 σ5)))))))))
def P_X9_secondsPass (v : Int32) (σ : q_M) : Prop := (((F_X9_isIn v 1 200 σ) = 0 → True) ∧ (¬ (F_X9_isIn v 1 200 σ) = 0 → (∀ σ2 : q_M, (q_up σ 229 5 0) = σ2 → (((F_X9_isUnprepared σ2) = 0 → True) ∧ (¬ (F_X9_isUnprepared σ2) = 0 → (∀ σ5 : q_M, (q_up σ2 229 5 0) = σ5 → ((P_X9_inStatus 2 σ5) ∧ (∀ x7 : Int32, (F_X9_inStatus 2 σ5) = x7 → (PL_X9_secondsPass_54 v x7 201 0 σ5)))))))))
set_option maxRecDepth 100000 in
theorem k_X9_secondsPass {α β : Nat → Nat} {D : va_G} {κ : Nat → ClassId} (v : Int32) (σ : q_M) (hP : P_X9_secondsPass v σ) : q_C α β D κ yX9_secondsPass cX9_secondsPass 5 (Option.some Jvm.ClassFile.FieldType.int) 3 68 0 0 [.ref 229, .int v] σ (q_oi (F_X9_secondsPass v σ).1) (F_X9_secondsPass v σ).2 := by
  refine q_enter (own := RX9) (F := F_X9) (G := G_X9) (by decide +kernel) rfl Fok_X9 Gok_X9 (Nat.le_of_ble_eq_true rfl) (fun p l e s m args below meth c A hfl C hr hT => ?_)
  generalize hF : F_X9_secondsPass v σ = rr
  unfold F_X9_secondsPass at hF
  refine q_go C tk_X9_secondsPass [(0, 4)] [] (pc1 := 6) (σ1 := σ) (lv1 := [(0, .ref 229), (1, .int v)]) (st1 := [.int 200, .int 1, .int v, .ref 229]) rfl trivial ?_
  refine q_callS C hfl mw_X9_isIn ms_X9_isIn lk_X9_48 (k_X9_isIn v 1 200 σ) (rest := [.ref 229]) rfl rfl (q_dc (z := (6, .invokestatic 48, 3, 0, 0)) tk_X9_secondsPass 4 rfl) (Nat.le_of_ble_eq_true rfl) ⟨Nat.le_of_ble_eq_true rfl, Nat.le_of_ble_eq_true rfl⟩ ⟨Nat.le_of_ble_eq_true rfl, Nat.le_of_ble_eq_true rfl⟩ ?_
  refine q_nrm 9 [.int (F_X9_isIn v 1 200 σ), .ref 229] 0 0 rfl rfl rfl rfl ?_
  by_cases c1 : (F_X9_isIn v 1 200 σ) = 0
  · rw [if_pos c1] at hF
    refine q_go C tk_X9_secondsPass [(5, 3), (9, 1)] [false] (pc1 := 18) (σ1 := σ) (lv1 := [(0, .ref 229), (1, .int v)]) (st1 := [.int 1, .int 1, .ref 229]) rfl ⟨c1, trivial⟩ ?_
    refine q_callV C hfl mw_X9_isThrown mi_X9_isThrown me_X9_isThrown lk_X9_63 (k_X9_isThrownN 1 1 σ (by decide) (by decide)) (rest := []) rfl rfl rfl (by decide) (by decide) rfl (q_dc (z := (18, .invokevirtual 63, 3, 0, 0)) tk_X9_secondsPass 10 rfl) (Nat.le_of_ble_eq_true rfl) ⟨Nat.le_of_ble_eq_true rfl, Nat.le_of_ble_eq_true rfl⟩ ⟨Nat.le_of_ble_eq_true rfl, Nat.le_of_ble_eq_true rfl⟩ ?_
    refine q_nrm 21 [.int 1] 0 0 rfl rfl rfl rfl ?_
    refine q_go C tk_X9_secondsPass [(11, 1), (22, 1)] [true] (pc1 := 45) (σ1 := (q_up σ 229 5 1)) (lv1 := [(0, .ref 229), (1, .int v)]) (st1 := [.int 0]) rfl ⟨(by decide : ¬ (1 : Int32) = 0), trivial⟩ ?_
    exact q_iret C hr (q_dc (z := (45, .ireturn, 1, 0, 0)) tk_X9_secondsPass 23 rfl) (congrArg Prod.snd hF) (congrArg (fun z => q_oi z.1) hF.symm) (Nat.le_of_ble_eq_true rfl) (Nat.le_of_ble_eq_true rfl)
  · rw [if_neg c1] at hF
    refine q_go C tk_X9_secondsPass [(5, 1), (8, 2)] [true] (pc1 := 18) (σ1 := σ) (lv1 := [(0, .ref 229), (1, .int v)]) (st1 := [.int 1, .int 0, .ref 229]) rfl ⟨c1, trivial⟩ ?_
    refine q_callV C hfl mw_X9_isThrown mi_X9_isThrown me_X9_isThrown lk_X9_63 (k_X9_isThrownZ 0 1 σ (by decide)) (rest := []) rfl rfl rfl (by decide) (by decide) rfl (q_dc (z := (18, .invokevirtual 63, 3, 0, 0)) tk_X9_secondsPass 10 rfl) (Nat.le_of_ble_eq_true rfl) ⟨Nat.le_of_ble_eq_true rfl, Nat.le_of_ble_eq_true rfl⟩ ⟨Nat.le_of_ble_eq_true rfl, Nat.le_of_ble_eq_true rfl⟩ ?_
    refine q_nrm 21 [.int 0] 0 0 rfl rfl rfl rfl ?_
    refine q_go C tk_X9_secondsPass [(11, 3)] [false] (pc1 := 26) (σ1 := (q_up σ 229 5 0)) (lv1 := [(0, .ref 229), (1, .int v)]) (st1 := [.ref 229, .ref 229]) rfl ⟨(by decide : (0 : Int32) = 0), trivial⟩ ?_
    generalize e3 : (q_up σ 229 5 0) = σ2
    replace hF := q_let e3 hF
    refine q_callV C hfl mw_X9_isUnprepared mi_X9_isUnprepared me_X9_isUnprepared lk_X9_59 (k_X9_isUnprepared σ2) (rest := [.ref 229]) rfl rfl rfl (by decide) (by decide) rfl (q_dc (z := (26, .invokevirtual 59, 3, 0, 0)) tk_X9_secondsPass 14 rfl) (Nat.le_of_ble_eq_true rfl) ⟨Nat.le_of_ble_eq_true rfl, Nat.le_of_ble_eq_true rfl⟩ ⟨Nat.le_of_ble_eq_true rfl, Nat.le_of_ble_eq_true rfl⟩ ?_
    refine q_nrm 29 [.int (F_X9_isUnprepared σ2), .ref 229] 0 0 rfl rfl rfl rfl ?_
    by_cases c4 : (F_X9_isUnprepared σ2) = 0
    · rw [if_pos c4] at hF
      refine q_go C tk_X9_secondsPass [(15, 3), (19, 1)] [false] (pc1 := 38) (σ1 := σ2) (lv1 := [(0, .ref 229), (1, .int v)]) (st1 := [.int 2, .int 1, .ref 229]) rfl ⟨c4, trivial⟩ ?_
      refine q_callV C hfl mw_X9_isThrown mi_X9_isThrown me_X9_isThrown lk_X9_63 (k_X9_isThrownN 1 2 σ2 (by decide) (by decide)) (rest := []) rfl rfl rfl (by decide) (by decide) rfl (q_dc (z := (38, .invokevirtual 63, 3, 0, 0)) tk_X9_secondsPass 20 rfl) (Nat.le_of_ble_eq_true rfl) ⟨Nat.le_of_ble_eq_true rfl, Nat.le_of_ble_eq_true rfl⟩ ⟨Nat.le_of_ble_eq_true rfl, Nat.le_of_ble_eq_true rfl⟩ ?_
      refine q_nrm 41 [.int 1] 0 0 rfl rfl rfl rfl ?_
      refine q_go C tk_X9_secondsPass [(21, 2)] [false] (pc1 := 45) (σ1 := (q_up σ2 229 5 2)) (lv1 := [(0, .ref 229), (1, .int v)]) (st1 := [.int 0]) rfl ⟨(by decide : ¬ (1 : Int32) = 0), trivial⟩ ?_
      exact q_iret C hr (q_dc (z := (45, .ireturn, 1, 0, 0)) tk_X9_secondsPass 23 rfl) (congrArg Prod.snd hF) (congrArg (fun z => q_oi z.1) hF.symm) (Nat.le_of_ble_eq_true rfl) (Nat.le_of_ble_eq_true rfl)
    · rw [if_neg c4] at hF
      refine q_go C tk_X9_secondsPass [(15, 1), (18, 2)] [true] (pc1 := 38) (σ1 := σ2) (lv1 := [(0, .ref 229), (1, .int v)]) (st1 := [.int 2, .int 0, .ref 229]) rfl ⟨c4, trivial⟩ ?_
      refine q_callV C hfl mw_X9_isThrown mi_X9_isThrown me_X9_isThrown lk_X9_63 (k_X9_isThrownZ 0 2 σ2 (by decide)) (rest := []) rfl rfl rfl (by decide) (by decide) rfl (q_dc (z := (38, .invokevirtual 63, 3, 0, 0)) tk_X9_secondsPass 20 rfl) (Nat.le_of_ble_eq_true rfl) ⟨Nat.le_of_ble_eq_true rfl, Nat.le_of_ble_eq_true rfl⟩ ⟨Nat.le_of_ble_eq_true rfl, Nat.le_of_ble_eq_true rfl⟩ ?_
      refine q_nrm 41 [.int 0] 0 0 rfl rfl rfl rfl ?_
      refine q_go C tk_X9_secondsPass [(21, 1), (24, 2)] [true] (pc1 := 48) (σ1 := (q_up σ2 229 5 0)) (lv1 := [(0, .ref 229), (1, .int v)]) (st1 := [.int 2, .ref 229]) rfl ⟨(by decide : (0 : Int32) = 0), trivial⟩ ?_
      generalize e6 : (q_up σ2 229 5 0) = σ5
      replace hF := q_let e6 hF
      refine q_callV C hfl mw_X9_inStatus mi_X9_inStatus me_X9_inStatus lk_X9_109 (k_X9_inStatus 2 σ5 ((((hP.2 c1) σ2 e3).2 c4) σ5 e6).1) (rest := []) rfl rfl rfl (by decide) (by decide) rfl (q_dc (z := (48, .invokevirtual 109, 3, 0, 0)) tk_X9_secondsPass 26 rfl) (Nat.le_of_ble_eq_true rfl) ⟨Nat.le_of_ble_eq_true rfl, Nat.le_of_ble_eq_true rfl⟩ ⟨Nat.le_of_ble_eq_true rfl, Nat.le_of_ble_eq_true rfl⟩ ?_
      refine q_nrm 51 [.int (F_X9_inStatus 2 σ5)] 0 0 rfl rfl rfl rfl ?_
      generalize e8 : (F_X9_inStatus 2 σ5) = x7
      replace hF := q_let e8 hF
      refine q_go C tk_X9_secondsPass [(27, 3)] [] (pc1 := 54) (σ1 := σ5) (lv1 := [(3, .int 0), (2, .int x7), (0, .ref 229), (1, .int v)]) (st1 := []) rfl trivial ?_
      refine q_lvpick [2, 3, 1, 0] (lv' := [(0, .ref 229), (1, .int v), (2, .int x7), (3, .int 0)]) rfl ?_
      exact kl_X9_secondsPass_54 v x7  hfl C hr hT 201 0 σ5 rr (((((hP.2 c1) σ2 e3).2 c4) σ5 e6).2 x7 e8) hF
def F_X9_run (v : Int32) (σ : q_M) : (Int32) × q_M := (q_L (F_X9_keeps σ) (fun σ1 : q_M => (q_L (F_X9_secondsPass v σ1).2 (fun σ3 : q_M => (q_L (F_X9_ends (F_X9_secondsPass v σ1).1 σ3).2 (fun σ5 : q_M => ((F_X9_ends (F_X9_secondsPass v σ1).1 σ3).1, σ5)))))))
def P_X9_run (v : Int32) (σ : q_M) : Prop := ((P_X9_keeps σ) ∧ (∀ σ1 : q_M, (F_X9_keeps σ) = σ1 → ((P_X9_secondsPass v σ1) ∧ (∀ σ3 : q_M, (F_X9_secondsPass v σ1).2 = σ3 → ((P_X9_ends (F_X9_secondsPass v σ1).1 σ3) ∧ True)))))
set_option maxRecDepth 100000 in
theorem k_X9_run {α β : Nat → Nat} {D : va_G} {κ : Nat → ClassId} (v : Int32) (σ : q_M) (hP : P_X9_run v σ) : q_C α β D κ yX9_run cX9_run 2 (Option.some Jvm.ClassFile.FieldType.int) 4 92 0 0 [.ref 229, .int v] σ (q_oi (F_X9_run v σ).1) (F_X9_run v σ).2 := by
  refine q_enter (own := RX9) (F := F_X9) (G := G_X9) (by decide +kernel) rfl Fok_X9 Gok_X9 (Nat.le_of_ble_eq_true rfl) (fun p l e s m args below meth c A hfl C hr hT => ?_)
  generalize hF : F_X9_run v σ = rr
  unfold F_X9_run at hF
  refine q_go C tk_X9_run [(0, 1)] [] (pc1 := 1) (σ1 := σ) (lv1 := [(0, .ref 229), (1, .int v)]) (st1 := [.ref 229]) rfl trivial ?_
  refine q_callV C hfl mw_X9_keeps mi_X9_keeps me_X9_keeps lk_X9_56 (k_X9_keeps σ hP.1) (rest := []) rfl rfl rfl (by decide) (by decide) rfl (q_dc (z := (1, .invokevirtual 56, 3, 0, 0)) tk_X9_run 1 rfl) (Nat.le_of_ble_eq_true rfl) ⟨Nat.le_of_ble_eq_true rfl, Nat.le_of_ble_eq_true rfl⟩ ⟨Nat.le_of_ble_eq_true rfl, Nat.le_of_ble_eq_true rfl⟩ ?_
  refine q_nrm 4 [] 0 0 rfl rfl rfl rfl ?_
  generalize e2 : (F_X9_keeps σ) = σ1
  replace hF := q_let e2 hF
  refine q_go C tk_X9_run [(2, 3)] [] (pc1 := 7) (σ1 := σ1) (lv1 := [(0, .ref 229), (1, .int v)]) (st1 := [.int v, .ref 229, .ref 229]) rfl trivial ?_
  refine q_callV C hfl mw_X9_secondsPass mi_X9_secondsPass me_X9_secondsPass lk_X9_115 (k_X9_secondsPass v σ1 (hP.2 σ1 e2).1) (rest := [.ref 229]) rfl rfl rfl (by decide) (by decide) rfl (q_dc (z := (7, .invokevirtual 115, 3, 0, 0)) tk_X9_run 5 rfl) (Nat.le_of_ble_eq_true rfl) ⟨Nat.le_of_ble_eq_true rfl, Nat.le_of_ble_eq_true rfl⟩ ⟨Nat.le_of_ble_eq_true rfl, Nat.le_of_ble_eq_true rfl⟩ ?_
  refine q_nrm 10 [.int (F_X9_secondsPass v σ1).1, .ref 229] 0 0 rfl rfl rfl rfl ?_
  generalize e4 : (F_X9_secondsPass v σ1).2 = σ3
  replace hF := q_let e4 hF
  refine q_callV C hfl mw_X9_ends mi_X9_ends me_X9_ends lk_X9_71 (k_X9_ends (F_X9_secondsPass v σ1).1 σ3 ((hP.2 σ1 e2).2 σ3 e4).1) (rest := []) rfl rfl rfl (by decide) (by decide) rfl (q_dc (z := (10, .invokevirtual 71, 3, 0, 0)) tk_X9_run 6 rfl) (Nat.le_of_ble_eq_true rfl) ⟨Nat.le_of_ble_eq_true rfl, Nat.le_of_ble_eq_true rfl⟩ ⟨Nat.le_of_ble_eq_true rfl, Nat.le_of_ble_eq_true rfl⟩ ?_
  refine q_nrm 13 [.int (F_X9_ends (F_X9_secondsPass v σ1).1 σ3).1] 0 0 rfl rfl rfl rfl ?_
  generalize e6 : (F_X9_ends (F_X9_secondsPass v σ1).1 σ3).2 = σ5
  replace hF := q_let e6 hF
  exact q_iret C hr (q_dc (z := (13, .ireturn, 1, 0, 0)) tk_X9_run 7 rfl) (congrArg Prod.snd hF) (congrArg (fun z => q_oi z.1) hF.symm) (Nat.le_of_ble_eq_true rfl) (Nat.le_of_ble_eq_true rfl)
def F_X9_puts (v : Int32) (σ : q_M) : q_M := (q_L (q_up (q_up σ 234 ((σ 229 13)).toNatClampNeg v) 229 13 (((q_up σ 234 ((σ 229 13)).toNatClampNeg v) 229 13) + 1)) (fun σ1 : q_M => σ1))
def P_X9_puts (v : Int32) (σ : q_M) : Prop := (vp_in (σ 229 13) (q_len 234) ∧ True)
set_option maxRecDepth 100000 in
theorem k_X9_puts {α β : Nat → Nat} {D : va_G} {κ : Nat → ClassId} (v : Int32) (σ : q_M) (hP : P_X9_puts v σ) : q_C α β D κ yX9_puts cX9_puts 2 (Option.none : Option Jvm.ClassFile.FieldType) 0 0 0 0 [.ref 229, .int v] σ q_ov (F_X9_puts v σ) := by
  refine q_enter (own := RX9) (F := F_X9) (G := G_X9) (by decide +kernel) rfl Fok_X9 Gok_X9 (Nat.le_of_ble_eq_true rfl) (fun p l e s m args below meth c A hfl C hr hT => ?_)
  generalize hF : F_X9_puts v σ = rr
  unfold F_X9_puts at hF
  refine q_go C tk_X9_puts [(0, 12)] [] (pc1 := 20) (σ1 := (q_up (q_up σ 234 ((σ 229 13)).toNatClampNeg v) 229 13 (((q_up σ 234 ((σ 229 13)).toNatClampNeg v) 229 13) + 1))) (lv1 := [(0, .ref 229), (1, .int v)]) (st1 := []) rfl ⟨rfl, rfl, rfl, hP.1, rfl, rfl, trivial⟩ ?_
  generalize e2 : (q_up (q_up σ 234 ((σ 229 13)).toNatClampNeg v) 229 13 (((q_up σ 234 ((σ 229 13)).toNatClampNeg v) 229 13) + 1)) = σ1
  replace hF := q_let e2 hF
  exact q_vret C hr (q_dc (z := (20, .return_, 1, 0, 0)) tk_X9_puts 12 rfl) hF rfl (Nat.le_of_ble_eq_true rfl) (Nat.le_of_ble_eq_true rfl)
def F_X9_sign (σ : q_M) : Int32 := (if (σ 229 17) < (σ 229 16) then (σ 235 ((σ 229 17)).toNatClampNeg) else (-1))
def P_X9_sign (σ : q_M) : Prop := (((σ 229 17) < (σ 229 16) → (vp_in (σ 229 17) (q_len 235) ∧ True)) ∧ (¬ (σ 229 17) < (σ 229 16) → True))
set_option maxRecDepth 100000 in
theorem k_X9_sign {α β : Nat → Nat} {D : va_G} {κ : Nat → ClassId} (σ : q_M) (hP : P_X9_sign σ) : q_C α β D κ yX9_sign cX9_sign 1 (Option.some Jvm.ClassFile.FieldType.int) 0 0 0 0 [.ref 229] σ (q_oi (F_X9_sign σ)) σ := by
  refine q_enter (own := RX9) (F := F_X9) (G := G_X9) (by decide +kernel) rfl Fok_X9 Gok_X9 (Nat.le_of_ble_eq_true rfl) (fun p l e s m args below meth c A hfl C hr hT => ?_)
  generalize hF : F_X9_sign σ = rr
  unfold F_X9_sign at hF
  refine q_go C tk_X9_sign [(0, 4)] [] (pc1 := 8) (σ1 := σ) (lv1 := [(0, .ref 229)]) (st1 := [.int (σ 229 16), .int (σ 229 17)]) rfl ⟨rfl, rfl, trivial⟩ ?_
  by_cases c1 : (σ 229 17) < (σ 229 16)
  · rw [if_pos c1] at hF
    refine q_go C tk_X9_sign [(4, 7)] [false] (pc1 := 24) (σ1 := σ) (lv1 := [(0, .ref 229)]) (st1 := [.int (σ 235 ((σ 229 17)).toNatClampNeg)]) rfl ⟨c1, rfl, rfl, rfl, (hP.1 c1).1, trivial⟩ ?_
    exact q_iret C hr (q_dc (z := (24, .ireturn, 1, 0, 0)) tk_X9_sign 12 rfl) rfl (congrArg q_oi hF.symm) (Nat.le_of_ble_eq_true rfl) (Nat.le_of_ble_eq_true rfl)
  · rw [if_neg c1] at hF
    refine q_go C tk_X9_sign [(4, 1), (11, 1)] [true] (pc1 := 24) (σ1 := σ) (lv1 := [(0, .ref 229)]) (st1 := [.int (-1)]) rfl ⟨c1, trivial⟩ ?_
    exact q_iret C hr (q_dc (z := (24, .ireturn, 1, 0, 0)) tk_X9_sign 12 rfl) rfl (congrArg q_oi hF.symm) (Nat.le_of_ble_eq_true rfl) (Nat.le_of_ble_eq_true rfl)
def F_X9_isSign (v : Int32) (σ : q_M) : (Int32) × q_M := (q_L (if (F_X9_sign σ) = v then 1 else 0) (fun x2 : Int32 => (q_L (if x2 = 0 then 0 else 1) (fun x5 : Int32 => (q_L (q_up σ 229 17 ((σ 229 17) + x5)) (fun σ7 : q_M => (x2, σ7)))))))
def P_X9_isSign (v : Int32) (σ : q_M) : Prop := ((P_X9_sign σ) ∧ True)
set_option maxRecDepth 100000 in
theorem k_X9_isSign {α β : Nat → Nat} {D : va_G} {κ : Nat → ClassId} (v : Int32) (σ : q_M) (hP : P_X9_isSign v σ) : q_C α β D κ yX9_isSign cX9_isSign 3 (Option.some Jvm.ClassFile.FieldType.boolean) 1 20 0 0 [.ref 229, .int v] σ (q_oi (F_X9_isSign v σ).1) (F_X9_isSign v σ).2 := by
  refine q_enter (own := RX9) (F := F_X9) (G := G_X9) (by decide +kernel) rfl Fok_X9 Gok_X9 (Nat.le_of_ble_eq_true rfl) (fun p l e s m args below meth c A hfl C hr hT => ?_)
  generalize hF : F_X9_isSign v σ = rr
  unfold F_X9_isSign at hF
  refine q_go C tk_X9_isSign [(0, 1)] [] (pc1 := 1) (σ1 := σ) (lv1 := [(0, .ref 229), (1, .int v)]) (st1 := [.ref 229]) rfl trivial ?_
  refine q_callV C hfl mw_X9_sign mi_X9_sign me_X9_sign lk_X9_190 (k_X9_sign σ hP.1) (rest := []) rfl rfl rfl (by decide) (by decide) rfl (q_dc (z := (1, .invokevirtual 190, 3, 0, 0)) tk_X9_isSign 1 rfl) (Nat.le_of_ble_eq_true rfl) ⟨Nat.le_of_ble_eq_true rfl, Nat.le_of_ble_eq_true rfl⟩ ⟨Nat.le_of_ble_eq_true rfl, Nat.le_of_ble_eq_true rfl⟩ ?_
  refine q_nrm 4 [.int (F_X9_sign σ)] 0 0 rfl rfl rfl rfl ?_
  refine q_go C tk_X9_isSign [(2, 1)] [] (pc1 := 5) (σ1 := σ) (lv1 := [(0, .ref 229), (1, .int v)]) (st1 := [.int v, .int (F_X9_sign σ)]) rfl trivial ?_
  refine q_mrg (v := (if (F_X9_sign σ) = v then 1 else 0)) (M := 13) (σ1 := σ) (lv1 := [(0, .ref 229), (1, .int v)]) (st1 := []) (fun x2 e3 => ?_) (fun K => ?_)
  · replace hF := q_let e3 hF
    have zz_x2 : x2 = 0 ∨ x2 = 1 := by rw [← e3]; (repeat' split) <;> first | exact Or.inl rfl | exact Or.inr rfl
    refine q_go C tk_X9_isSign [(7, 5)] [] (pc1 := 20) (σ1 := σ) (lv1 := [(2, .int x2), (0, .ref 229), (1, .int v)]) (st1 := [.int x2, .int (σ 229 17), .ref 229]) rfl ⟨rfl, trivial⟩ ?_
    refine q_mrg (v := (if x2 = 0 then 0 else 1)) (M := 28) (σ1 := σ) (lv1 := [(2, .int x2), (0, .ref 229), (1, .int v)]) (st1 := [.int (σ 229 17), .ref 229]) (fun x5 e6 => ?_) (fun K => ?_)
    · replace hF := q_let e6 hF
      refine q_go C tk_X9_isSign [(16, 2)] [] (pc1 := 32) (σ1 := (q_up σ 229 17 ((σ 229 17) + x5))) (lv1 := [(2, .int x2), (0, .ref 229), (1, .int v)]) (st1 := []) rfl ⟨rfl, trivial⟩ ?_
      generalize e8 : (q_up σ 229 17 ((σ 229 17) + x5)) = σ7
      replace hF := q_let e8 hF
      refine q_go C tk_X9_isSign [(18, 1)] [] (pc1 := 33) (σ1 := σ7) (lv1 := [(2, .int x2), (0, .ref 229), (1, .int v)]) (st1 := [.int x2]) rfl trivial ?_
      exact q_zret C hr (q_dc (z := (33, .ireturn, 1, 0, 0)) tk_X9_isSign 19 rfl) (q_zb (zz_x2)).1 (congrArg Prod.snd hF) (congrArg (fun z => q_oi z.1) hF.symm) (Nat.le_of_ble_eq_true rfl) (Nat.le_of_ble_eq_true rfl)
    · clear hF
      by_cases c4 : x2 = 0
      · skip
        refine q_go C tk_X9_isSign [(12, 1), (15, 1)] [true] (pc1 := 28) (σ1 := σ) (lv1 := [(2, .int x2), (0, .ref 229), (1, .int v)]) (st1 := [.int 0, .int (σ 229 17), .ref 229]) rfl ⟨c4, trivial⟩ ?_
        rw [if_pos c4] at K; exact K
      · skip
        refine q_go C tk_X9_isSign [(12, 3)] [false] (pc1 := 28) (σ1 := σ) (lv1 := [(2, .int x2), (0, .ref 229), (1, .int v)]) (st1 := [.int 1, .int (σ 229 17), .ref 229]) rfl ⟨c4, trivial⟩ ?_
        rw [if_neg c4] at K; exact K
  · clear hF
    by_cases c1 : (F_X9_sign σ) = v
    · skip
      refine q_go C tk_X9_isSign [(3, 3)] [false] (pc1 := 13) (σ1 := σ) (lv1 := [(0, .ref 229), (1, .int v)]) (st1 := [.int 1]) rfl ⟨c1, trivial⟩ ?_
      rw [if_pos c1] at K; exact K
    · skip
      refine q_go C tk_X9_isSign [(3, 1), (6, 1)] [true] (pc1 := 13) (σ1 := σ) (lv1 := [(0, .ref 229), (1, .int v)]) (st1 := [.int 0]) rfl ⟨c1, trivial⟩ ?_
      rw [if_neg c1] at K; exact K
theorem z_X9_isSign {v : Int32} {σ : q_M} : (F_X9_isSign v σ).1 = 0 ∨ (F_X9_isSign v σ).1 = 1 := by
  unfold F_X9_isSign
  try simp only [q_L]
  repeat' split
  all_goals first | exact Or.inl rfl | exact Or.inr rfl | exact rfl
def FL_X9_isNumber_5 (w : Int32) (q : Int32) : Nat → Int32 → Int32 → q_M → (Int32) × q_M
  | 0, v3, v4, τ => (0, τ)
  | nn + 1, v3, v4, τ => (if v4 < w then (if (F_X9_isIn (F_X9_sign τ) 48 57 τ) = 0 then (q_L (q_up τ 236 (q).toNatClampNeg v3) (fun σ3 : q_M => (if 0 < v4 then (1, σ3) else (0, σ3)))) else (q_L (((10 * v3) + (F_X9_sign τ)) - 48) (fun x6 : Int32 => (q_L (q_up τ 229 17 ((τ 229 17) + 1)) (fun σ8 : q_M => (FL_X9_isNumber_5 w q nn x6 (v4 + 1) σ8)))))) else (q_L (q_up τ 236 (q).toNatClampNeg v3) (fun σ10 : q_M => (if 0 < v4 then (1, σ10) else (0, σ10)))))
def PL_X9_isNumber_5 (w : Int32) (q : Int32) : Nat → Int32 → Int32 → q_M → Prop
  | 0, v3, v4, τ => False
  | nn + 1, v3, v4, τ => ((v4 < w → ((P_X9_sign τ) ∧ (((F_X9_isIn (F_X9_sign τ) 48 57 τ) = 0 → (vp_in q (q_len 236) ∧ True)) ∧ (¬ (F_X9_isIn (F_X9_sign τ) 48 57 τ) = 0 → ((P_X9_sign τ) ∧ (∀ x6 : Int32, (((10 * v3) + (F_X9_sign τ)) - 48) = x6 → (∀ σ8 : q_M, (q_up τ 229 17 ((τ 229 17) + 1)) = σ8 → (PL_X9_isNumber_5 w q nn x6 (v4 + 1) σ8)))))))) ∧ (¬ v4 < w → (vp_in q (q_len 236) ∧ True)))
set_option maxRecDepth 100000 in
theorem kl_X9_isNumber_5 {α β : Nat → Nat} {D : va_G} {κ : Nat → ClassId} (w : Int32) (q : Int32) {p : Program} {l : Launch} {e : Env} {s : State} {m : MethodId} {args : Array Value} {below : List Frame} {meth : Method} {c : Code} {A : Nat → Prop} (hfl : l.flags = flags0) (C : q_Cx α β D κ p s m args meth c cX9_isNumber RX9 F_X9 G_X9 5 A) (hr : meth.sig.returnType = (Option.some Jvm.ClassFile.FieldType.boolean)) (hT : ∀ x ∈ c.exceptionTable.toList, False) : ∀ (nn : Nat) (v3 : Int32) (v4 : Int32) (τ : q_M) (rr : (Int32) × q_M), PL_X9_isNumber_5 w q nn v3 v4 τ → FL_X9_isNumber_5 w q nn v3 v4 τ = rr → q_St α β D κ p l e ({ frames := 1, cells := 0, slots := 0, locals := 22 } : Room) s m args below meth c 5 A (vx_MQ below (q_Qc α β D κ A (q_oi rr.1) rr.2) (q_XC α β D κ A (q_oi rr.1) rr.2) args s 0 0 A) 0 0 τ [(0, .ref 229), (1, .int w), (2, .int q), (3, .int v3), (4, .int v4)] 5 [] := by
  intro nn
  induction nn with
  | zero => intro v3 v4 τ rr hP; exact hP.elim
  | succ nn ih =>
    intro v3 v4 τ rr hP hF
    unfold FL_X9_isNumber_5 at hF
    refine q_go C tk_X9_isNumber [(4, 2)] [] (pc1 := 8) (σ1 := τ) (lv1 := [(0, .ref 229), (1, .int w), (2, .int q), (3, .int v3), (4, .int v4)]) (st1 := [.int w, .int v4]) rfl trivial ?_
    by_cases c1 : v4 < w
    · rw [if_pos c1] at hF
      refine q_go C tk_X9_isNumber [(6, 2)] [false] (pc1 := 12) (σ1 := τ) (lv1 := [(0, .ref 229), (1, .int w), (2, .int q), (3, .int v3), (4, .int v4)]) (st1 := [.ref 229]) rfl ⟨c1, trivial⟩ ?_
      refine q_callV C hfl mw_X9_sign mi_X9_sign me_X9_sign lk_X9_190 (k_X9_sign τ (hP.1 c1).1) (rest := []) rfl rfl rfl (by decide) (by decide) rfl (q_dc (z := (12, .invokevirtual 190, 3, 0, 0)) tk_X9_isNumber 8 rfl) (Nat.le_of_ble_eq_true rfl) ⟨Nat.le_of_ble_eq_true rfl, Nat.le_of_ble_eq_true rfl⟩ ⟨Nat.le_of_ble_eq_true rfl, Nat.le_of_ble_eq_true rfl⟩ ?_
      refine q_nrm 15 [.int (F_X9_sign τ)] 0 0 rfl rfl rfl rfl ?_
      refine q_go C tk_X9_isNumber [(9, 2)] [] (pc1 := 19) (σ1 := τ) (lv1 := [(0, .ref 229), (1, .int w), (2, .int q), (3, .int v3), (4, .int v4)]) (st1 := [.int 57, .int 48, .int (F_X9_sign τ)]) rfl trivial ?_
      refine q_callS C hfl mw_X9_isIn ms_X9_isIn lk_X9_48 (k_X9_isIn (F_X9_sign τ) 48 57 τ) (rest := []) rfl rfl (q_dc (z := (19, .invokestatic 48, 3, 0, 0)) tk_X9_isNumber 11 rfl) (Nat.le_of_ble_eq_true rfl) ⟨Nat.le_of_ble_eq_true rfl, Nat.le_of_ble_eq_true rfl⟩ ⟨Nat.le_of_ble_eq_true rfl, Nat.le_of_ble_eq_true rfl⟩ ?_
      refine q_nrm 22 [.int (F_X9_isIn (F_X9_sign τ) 48 57 τ)] 0 0 rfl rfl rfl rfl ?_
      by_cases c2 : (F_X9_isIn (F_X9_sign τ) 48 57 τ) = 0
      · rw [if_pos c2] at hF
        refine q_go C tk_X9_isNumber [(12, 1), (30, 6)] [true] (pc1 := 63) (σ1 := (q_up τ 236 (q).toNatClampNeg v3)) (lv1 := [(0, .ref 229), (1, .int w), (2, .int q), (3, .int v3), (4, .int v4)]) (st1 := [.int v4]) rfl ⟨c2, rfl, rfl, ((hP.1 c1).2.1 c2).1, trivial⟩ ?_
        generalize e4 : (q_up τ 236 (q).toNatClampNeg v3) = σ3
        replace hF := q_let e4 hF
        by_cases c5 : 0 < v4
        · rw [if_pos c5] at hF
          refine q_go C tk_X9_isNumber [(36, 3)] [false] (pc1 := 71) (σ1 := σ3) (lv1 := [(0, .ref 229), (1, .int w), (2, .int q), (3, .int v3), (4, .int v4)]) (st1 := [.int 1]) rfl ⟨c5, trivial⟩ ?_
          exact q_zret C hr (q_dc (z := (71, .ireturn, 1, 0, 0)) tk_X9_isNumber 40 rfl) (by decide +kernel) (congrArg Prod.snd hF) (congrArg (fun z => q_oi z.1) hF.symm) (Nat.le_of_ble_eq_true rfl) (Nat.le_of_ble_eq_true rfl)
        · rw [if_neg c5] at hF
          refine q_go C tk_X9_isNumber [(36, 1), (39, 1)] [true] (pc1 := 71) (σ1 := σ3) (lv1 := [(0, .ref 229), (1, .int w), (2, .int q), (3, .int v3), (4, .int v4)]) (st1 := [.int 0]) rfl ⟨c5, trivial⟩ ?_
          exact q_zret C hr (q_dc (z := (71, .ireturn, 1, 0, 0)) tk_X9_isNumber 40 rfl) (by decide +kernel) (congrArg Prod.snd hF) (congrArg (fun z => q_oi z.1) hF.symm) (Nat.le_of_ble_eq_true rfl) (Nat.le_of_ble_eq_true rfl)
      · rw [if_neg c2] at hF
        refine q_go C tk_X9_isNumber [(12, 5)] [false] (pc1 := 30) (σ1 := τ) (lv1 := [(0, .ref 229), (1, .int w), (2, .int q), (3, .int v3), (4, .int v4)]) (st1 := [.ref 229, .int (10 * v3)]) rfl ⟨c2, trivial⟩ ?_
        refine q_callV C hfl mw_X9_sign mi_X9_sign me_X9_sign lk_X9_190 (k_X9_sign τ ((hP.1 c1).2.2 c2).1) (rest := [.int (10 * v3)]) rfl rfl rfl (by decide) (by decide) rfl (q_dc (z := (30, .invokevirtual 190, 3, 0, 0)) tk_X9_isNumber 17 rfl) (Nat.le_of_ble_eq_true rfl) ⟨Nat.le_of_ble_eq_true rfl, Nat.le_of_ble_eq_true rfl⟩ ⟨Nat.le_of_ble_eq_true rfl, Nat.le_of_ble_eq_true rfl⟩ ?_
        refine q_nrm 33 [.int (F_X9_sign τ), .int (10 * v3)] 0 0 rfl rfl rfl rfl ?_
        refine q_go C tk_X9_isNumber [(18, 3)] [] (pc1 := 37) (σ1 := τ) (lv1 := [(0, .ref 229), (1, .int w), (2, .int q), (3, .int v3), (4, .int v4)]) (st1 := [.int (((10 * v3) + (F_X9_sign τ)) - 48)]) rfl trivial ?_
        generalize e7 : (((10 * v3) + (F_X9_sign τ)) - 48) = x6
        replace hF := q_let e7 hF
        refine q_go C tk_X9_isNumber [(21, 7)] [] (pc1 := 48) (σ1 := (q_up τ 229 17 ((τ 229 17) + 1))) (lv1 := [(3, .int x6), (0, .ref 229), (1, .int w), (2, .int q), (4, .int v4)]) (st1 := []) rfl ⟨rfl, rfl, trivial⟩ ?_
        generalize e9 : (q_up τ 229 17 ((τ 229 17) + 1)) = σ8
        replace hF := q_let e9 hF
        refine q_go C tk_X9_isNumber [(28, 2)] [] (pc1 := 5) (σ1 := σ8) (lv1 := [(4, .int (v4 + 1)), (3, .int x6), (0, .ref 229), (1, .int w), (2, .int q)]) (st1 := []) rfl trivial ?_
        refine q_lvpick [2, 3, 4, 1, 0] (lv' := [(0, .ref 229), (1, .int w), (2, .int q), (3, .int x6), (4, .int (v4 + 1))]) rfl ?_
        exact ih x6 (v4 + 1) σ8 rr ((((hP.1 c1).2.2 c2).2 x6 e7) σ8 e9) hF
    · rw [if_neg c1] at hF
      refine q_go C tk_X9_isNumber [(6, 1), (30, 6)] [true] (pc1 := 63) (σ1 := (q_up τ 236 (q).toNatClampNeg v3)) (lv1 := [(0, .ref 229), (1, .int w), (2, .int q), (3, .int v3), (4, .int v4)]) (st1 := [.int v4]) rfl ⟨c1, rfl, rfl, (hP.2 c1).1, trivial⟩ ?_
      generalize e11 : (q_up τ 236 (q).toNatClampNeg v3) = σ10
      replace hF := q_let e11 hF
      by_cases c12 : 0 < v4
      · rw [if_pos c12] at hF
        refine q_go C tk_X9_isNumber [(36, 3)] [false] (pc1 := 71) (σ1 := σ10) (lv1 := [(0, .ref 229), (1, .int w), (2, .int q), (3, .int v3), (4, .int v4)]) (st1 := [.int 1]) rfl ⟨c12, trivial⟩ ?_
        exact q_zret C hr (q_dc (z := (71, .ireturn, 1, 0, 0)) tk_X9_isNumber 40 rfl) (by decide +kernel) (congrArg Prod.snd hF) (congrArg (fun z => q_oi z.1) hF.symm) (Nat.le_of_ble_eq_true rfl) (Nat.le_of_ble_eq_true rfl)
      · rw [if_neg c12] at hF
        refine q_go C tk_X9_isNumber [(36, 1), (39, 1)] [true] (pc1 := 71) (σ1 := σ10) (lv1 := [(0, .ref 229), (1, .int w), (2, .int q), (3, .int v3), (4, .int v4)]) (st1 := [.int 0]) rfl ⟨c12, trivial⟩ ?_
        exact q_zret C hr (q_dc (z := (71, .ireturn, 1, 0, 0)) tk_X9_isNumber 40 rfl) (by decide +kernel) (congrArg Prod.snd hF) (congrArg (fun z => q_oi z.1) hF.symm) (Nat.le_of_ble_eq_true rfl) (Nat.le_of_ble_eq_true rfl)
def F_X9_isNumber (w : Int32) (q : Int32) (σ : q_M) : (Int32) × q_M := (FL_X9_isNumber_5 w q 5 0 0 σ)
def P_X9_isNumber (w : Int32) (q : Int32) (σ : q_M) : Prop := (PL_X9_isNumber_5 w q 5 0 0 σ)
set_option maxRecDepth 100000 in
theorem k_X9_isNumber {α β : Nat → Nat} {D : va_G} {κ : Nat → ClassId} (w : Int32) (q : Int32) (σ : q_M) (hP : P_X9_isNumber w q σ) : q_C α β D κ yX9_isNumber cX9_isNumber 5 (Option.some Jvm.ClassFile.FieldType.boolean) 1 22 0 0 [.ref 229, .int w, .int q] σ (q_oi (F_X9_isNumber w q σ).1) (F_X9_isNumber w q σ).2 := by
  refine q_enter (own := RX9) (F := F_X9) (G := G_X9) (by decide +kernel) rfl Fok_X9 Gok_X9 (Nat.le_of_ble_eq_true rfl) (fun p l e s m args below meth c A hfl C hr hT => ?_)
  generalize hF : F_X9_isNumber w q σ = rr
  unfold F_X9_isNumber at hF
  refine q_go C tk_X9_isNumber [(0, 4)] [] (pc1 := 5) (σ1 := σ) (lv1 := [(4, .int 0), (3, .int 0), (0, .ref 229), (1, .int w), (2, .int q)]) (st1 := []) rfl trivial ?_
  refine q_lvpick [2, 3, 4, 1, 0] (lv' := [(0, .ref 229), (1, .int w), (2, .int q), (3, .int 0), (4, .int 0)]) rfl ?_
  exact kl_X9_isNumber_5 w q  hfl C hr hT 5 0 0 σ rr hP hF
theorem zl_X9_isNumber (w q : Int32) : ∀ (nn : Nat) (v3 v4 : Int32) (τ : q_M), (FL_X9_isNumber_5 w q nn v3 v4 τ).1 = 0 ∨ (FL_X9_isNumber_5 w q nn v3 v4 τ).1 = 1 := by
  intro nn
  induction nn with
  | zero => intro v3 v4 τ; exact Or.inl rfl
  | succ nn ih =>
    intro v3 v4 τ
    unfold FL_X9_isNumber_5
    simp only [q_L]
    repeat' split
    all_goals first | exact Or.inl rfl | exact Or.inr rfl | exact ih _ _ _
theorem z_X9_isNumber {w q : Int32} {σ : q_M} : (F_X9_isNumber w q σ).1 = 0 ∨ (F_X9_isNumber w q σ).1 = 1 := by
  unfold F_X9_isNumber
  exact zl_X9_isNumber _ _ _ _ _ _
def F_X9_isSpaced (w : Int32) (q : Int32) (σ : q_M) : (Int32) × q_M := (q_L (F_X9_isSign 32 σ).2 (fun σ1 : q_M => (if (F_X9_isSign 32 σ).1 = 0 then (0, σ1) else (q_L (F_X9_isNumber w q σ1).2 (fun σ4 : q_M => (if (F_X9_isNumber w q σ1).1 = 0 then (0, σ4) else (1, σ4)))))))
def P_X9_isSpaced (w : Int32) (q : Int32) (σ : q_M) : Prop := ((P_X9_isSign 32 σ) ∧ (∀ σ1 : q_M, (F_X9_isSign 32 σ).2 = σ1 → (((F_X9_isSign 32 σ).1 = 0 → True) ∧ (¬ (F_X9_isSign 32 σ).1 = 0 → ((P_X9_isNumber w q σ1) ∧ True)))))
set_option maxRecDepth 100000 in
theorem k_X9_isSpaced {α β : Nat → Nat} {D : va_G} {κ : Nat → ClassId} (w : Int32) (q : Int32) (σ : q_M) (hP : P_X9_isSpaced w q σ) : q_C α β D κ yX9_isSpaced cX9_isSpaced 3 (Option.some Jvm.ClassFile.FieldType.boolean) 2 46 0 0 [.ref 229, .int w, .int q] σ (q_oi (F_X9_isSpaced w q σ).1) (F_X9_isSpaced w q σ).2 := by
  refine q_enter (own := RX9) (F := F_X9) (G := G_X9) (by decide +kernel) rfl Fok_X9 Gok_X9 (Nat.le_of_ble_eq_true rfl) (fun p l e s m args below meth c A hfl C hr hT => ?_)
  generalize hF : F_X9_isSpaced w q σ = rr
  unfold F_X9_isSpaced at hF
  refine q_go C tk_X9_isSpaced [(0, 2)] [] (pc1 := 3) (σ1 := σ) (lv1 := [(0, .ref 229), (1, .int w), (2, .int q)]) (st1 := [.int 32, .ref 229]) rfl trivial ?_
  refine q_callV C hfl mw_X9_isSign mi_X9_isSign me_X9_isSign lk_X9_193 (k_X9_isSign 32 σ hP.1) (rest := []) rfl rfl rfl (by decide) (by decide) rfl (q_dc (z := (3, .invokevirtual 193, 3, 0, 0)) tk_X9_isSpaced 2 rfl) (Nat.le_of_ble_eq_true rfl) ⟨Nat.le_of_ble_eq_true rfl, Nat.le_of_ble_eq_true rfl⟩ ⟨Nat.le_of_ble_eq_true rfl, Nat.le_of_ble_eq_true rfl⟩ ?_
  refine q_nrm 6 [.int (F_X9_isSign 32 σ).1] 0 0 rfl rfl rfl rfl ?_
  generalize e2 : (F_X9_isSign 32 σ).2 = σ1
  replace hF := q_let e2 hF
  by_cases c3 : (F_X9_isSign 32 σ).1 = 0
  · rw [if_pos c3] at hF
    refine q_go C tk_X9_isSpaced [(3, 1), (11, 1)] [true] (pc1 := 23) (σ1 := σ1) (lv1 := [(0, .ref 229), (1, .int w), (2, .int q)]) (st1 := [.int 0]) rfl ⟨c3, trivial⟩ ?_
    exact q_zret C hr (q_dc (z := (23, .ireturn, 1, 0, 0)) tk_X9_isSpaced 12 rfl) (by decide +kernel) (congrArg Prod.snd hF) (congrArg (fun z => q_oi z.1) hF.symm) (Nat.le_of_ble_eq_true rfl) (Nat.le_of_ble_eq_true rfl)
  · rw [if_neg c3] at hF
    refine q_go C tk_X9_isSpaced [(3, 4)] [false] (pc1 := 12) (σ1 := σ1) (lv1 := [(0, .ref 229), (1, .int w), (2, .int q)]) (st1 := [.int q, .int w, .ref 229]) rfl ⟨c3, trivial⟩ ?_
    refine q_callV C hfl mw_X9_isNumber mi_X9_isNumber me_X9_isNumber lk_X9_196 (k_X9_isNumber w q σ1 ((hP.2 σ1 e2).2 c3).1) (rest := []) rfl rfl rfl (by decide) (by decide) rfl (q_dc (z := (12, .invokevirtual 196, 3, 0, 0)) tk_X9_isSpaced 7 rfl) (Nat.le_of_ble_eq_true rfl) ⟨Nat.le_of_ble_eq_true rfl, Nat.le_of_ble_eq_true rfl⟩ ⟨Nat.le_of_ble_eq_true rfl, Nat.le_of_ble_eq_true rfl⟩ ?_
    refine q_nrm 15 [.int (F_X9_isNumber w q σ1).1] 0 0 rfl rfl rfl rfl ?_
    generalize e5 : (F_X9_isNumber w q σ1).2 = σ4
    replace hF := q_let e5 hF
    by_cases c6 : (F_X9_isNumber w q σ1).1 = 0
    · rw [if_pos c6] at hF
      refine q_go C tk_X9_isSpaced [(8, 1), (11, 1)] [true] (pc1 := 23) (σ1 := σ4) (lv1 := [(0, .ref 229), (1, .int w), (2, .int q)]) (st1 := [.int 0]) rfl ⟨c6, trivial⟩ ?_
      exact q_zret C hr (q_dc (z := (23, .ireturn, 1, 0, 0)) tk_X9_isSpaced 12 rfl) (by decide +kernel) (congrArg Prod.snd hF) (congrArg (fun z => q_oi z.1) hF.symm) (Nat.le_of_ble_eq_true rfl) (Nat.le_of_ble_eq_true rfl)
    · rw [if_neg c6] at hF
      refine q_go C tk_X9_isSpaced [(8, 3)] [false] (pc1 := 23) (σ1 := σ4) (lv1 := [(0, .ref 229), (1, .int w), (2, .int q)]) (st1 := [.int 1]) rfl ⟨c6, trivial⟩ ?_
      exact q_zret C hr (q_dc (z := (23, .ireturn, 1, 0, 0)) tk_X9_isSpaced 12 rfl) (by decide +kernel) (congrArg Prod.snd hF) (congrArg (fun z => q_oi z.1) hF.symm) (Nat.le_of_ble_eq_true rfl) (Nat.le_of_ble_eq_true rfl)
theorem z_X9_isSpaced {w : Int32} {q : Int32} {σ : q_M} : (F_X9_isSpaced w q σ).1 = 0 ∨ (F_X9_isSpaced w q σ).1 = 1 := by
  unfold F_X9_isSpaced
  try simp only [q_L]
  repeat' split
  all_goals first | exact Or.inl rfl | exact Or.inr rfl | exact z_X9_isNumber | exact z_X9_isSign
def F_X9_isKind (q : Int32) (σ : q_M) : (Int32) × q_M := (q_L (if (F_X9_sign σ) = 100 then 1 else 0) (fun x2 : Int32 => (q_L (q_up σ 236 (q).toNatClampNeg x2) (fun σ4 : q_M => (q_L (F_X9_isSign 108 σ4).2 (fun σ6 : q_M => (if (F_X9_isSign 108 σ4).1 = 0 then (q_L (F_X9_isSign 100 σ6).2 (fun σ9 : q_M => (if (F_X9_isSign 100 σ6).1 = 0 then (0, σ9) else (1, σ9)))) else (1, σ6))))))))
def P_X9_isKind (q : Int32) (σ : q_M) : Prop := ((P_X9_sign σ) ∧ (True ∧ (∀ x2 : Int32, (if (F_X9_sign σ) = 100 then 1 else 0) = x2 → (vp_in q (q_len 236) ∧ (∀ σ4 : q_M, (q_up σ 236 (q).toNatClampNeg x2) = σ4 → ((P_X9_isSign 108 σ4) ∧ (∀ σ6 : q_M, (F_X9_isSign 108 σ4).2 = σ6 → (((F_X9_isSign 108 σ4).1 = 0 → ((P_X9_isSign 100 σ6) ∧ True)) ∧ (¬ (F_X9_isSign 108 σ4).1 = 0 → True)))))))))
set_option maxRecDepth 100000 in
theorem k_X9_isKind {α β : Nat → Nat} {D : va_G} {κ : Nat → ClassId} (q : Int32) (σ : q_M) (hP : P_X9_isKind q σ) : q_C α β D κ yX9_isKind cX9_isKind 2 (Option.some Jvm.ClassFile.FieldType.boolean) 2 42 0 0 [.ref 229, .int q] σ (q_oi (F_X9_isKind q σ).1) (F_X9_isKind q σ).2 := by
  refine q_enter (own := RX9) (F := F_X9) (G := G_X9) (by decide +kernel) rfl Fok_X9 Gok_X9 (Nat.le_of_ble_eq_true rfl) (fun p l e s m args below meth c A hfl C hr hT => ?_)
  generalize hF : F_X9_isKind q σ = rr
  unfold F_X9_isKind at hF
  refine q_go C tk_X9_isKind [(0, 4)] [] (pc1 := 6) (σ1 := σ) (lv1 := [(0, .ref 229), (1, .int q)]) (st1 := [.ref 229, .int q, .ref 236]) rfl ⟨rfl, trivial⟩ ?_
  refine q_callV C hfl mw_X9_sign mi_X9_sign me_X9_sign lk_X9_190 (k_X9_sign σ hP.1) (rest := [.int q, .ref 236]) rfl rfl rfl (by decide) (by decide) rfl (q_dc (z := (6, .invokevirtual 190, 3, 0, 0)) tk_X9_isKind 4 rfl) (Nat.le_of_ble_eq_true rfl) ⟨Nat.le_of_ble_eq_true rfl, Nat.le_of_ble_eq_true rfl⟩ ⟨Nat.le_of_ble_eq_true rfl, Nat.le_of_ble_eq_true rfl⟩ ?_
  refine q_nrm 9 [.int (F_X9_sign σ), .int q, .ref 236] 0 0 rfl rfl rfl rfl ?_
  refine q_go C tk_X9_isKind [(5, 1)] [] (pc1 := 11) (σ1 := σ) (lv1 := [(0, .ref 229), (1, .int q)]) (st1 := [.int 100, .int (F_X9_sign σ), .int q, .ref 236]) rfl trivial ?_
  refine q_mrg (v := (if (F_X9_sign σ) = 100 then 1 else 0)) (M := 19) (σ1 := σ) (lv1 := [(0, .ref 229), (1, .int q)]) (st1 := [.int q, .ref 236]) (fun x2 e3 => ?_) (fun K => ?_)
  · replace hF := q_let e3 hF
    refine q_go C tk_X9_isKind [(10, 3)] [] (pc1 := 23) (σ1 := (q_up σ 236 (q).toNatClampNeg x2)) (lv1 := [(0, .ref 229), (1, .int q)]) (st1 := [.int 108, .ref 229]) rfl ⟨rfl, (hP.2.2 x2 e3).1, trivial⟩ ?_
    generalize e5 : (q_up σ 236 (q).toNatClampNeg x2) = σ4
    replace hF := q_let e5 hF
    refine q_callV C hfl mw_X9_isSign mi_X9_isSign me_X9_isSign lk_X9_193 (k_X9_isSign 108 σ4 ((hP.2.2 x2 e3).2 σ4 e5).1) (rest := []) rfl rfl rfl (by decide) (by decide) rfl (q_dc (z := (23, .invokevirtual 193, 3, 0, 0)) tk_X9_isKind 13 rfl) (Nat.le_of_ble_eq_true rfl) ⟨Nat.le_of_ble_eq_true rfl, Nat.le_of_ble_eq_true rfl⟩ ⟨Nat.le_of_ble_eq_true rfl, Nat.le_of_ble_eq_true rfl⟩ ?_
    refine q_nrm 26 [.int (F_X9_isSign 108 σ4).1] 0 0 rfl rfl rfl rfl ?_
    generalize e7 : (F_X9_isSign 108 σ4).2 = σ6
    replace hF := q_let e7 hF
    by_cases c8 : (F_X9_isSign 108 σ4).1 = 0
    · rw [if_pos c8] at hF
      refine q_go C tk_X9_isKind [(14, 3)] [false] (pc1 := 32) (σ1 := σ6) (lv1 := [(0, .ref 229), (1, .int q)]) (st1 := [.int 100, .ref 229]) rfl ⟨c8, trivial⟩ ?_
      refine q_callV C hfl mw_X9_isSign mi_X9_isSign me_X9_isSign lk_X9_193 (k_X9_isSign 100 σ6 ((((hP.2.2 x2 e3).2 σ4 e5).2 σ6 e7).1 c8).1) (rest := []) rfl rfl rfl (by decide) (by decide) rfl (q_dc (z := (32, .invokevirtual 193, 3, 0, 0)) tk_X9_isKind 17 rfl) (Nat.le_of_ble_eq_true rfl) ⟨Nat.le_of_ble_eq_true rfl, Nat.le_of_ble_eq_true rfl⟩ ⟨Nat.le_of_ble_eq_true rfl, Nat.le_of_ble_eq_true rfl⟩ ?_
      refine q_nrm 35 [.int (F_X9_isSign 100 σ6).1] 0 0 rfl rfl rfl rfl ?_
      generalize e10 : (F_X9_isSign 100 σ6).2 = σ9
      replace hF := q_let e10 hF
      by_cases c11 : (F_X9_isSign 100 σ6).1 = 0
      · rw [if_pos c11] at hF
        refine q_go C tk_X9_isKind [(18, 1), (21, 1)] [true] (pc1 := 43) (σ1 := σ9) (lv1 := [(0, .ref 229), (1, .int q)]) (st1 := [.int 0]) rfl ⟨c11, trivial⟩ ?_
        exact q_zret C hr (q_dc (z := (43, .ireturn, 1, 0, 0)) tk_X9_isKind 22 rfl) (by decide +kernel) (congrArg Prod.snd hF) (congrArg (fun z => q_oi z.1) hF.symm) (Nat.le_of_ble_eq_true rfl) (Nat.le_of_ble_eq_true rfl)
      · rw [if_neg c11] at hF
        refine q_go C tk_X9_isKind [(18, 3)] [false] (pc1 := 43) (σ1 := σ9) (lv1 := [(0, .ref 229), (1, .int q)]) (st1 := [.int 1]) rfl ⟨c11, trivial⟩ ?_
        exact q_zret C hr (q_dc (z := (43, .ireturn, 1, 0, 0)) tk_X9_isKind 22 rfl) (by decide +kernel) (congrArg Prod.snd hF) (congrArg (fun z => q_oi z.1) hF.symm) (Nat.le_of_ble_eq_true rfl) (Nat.le_of_ble_eq_true rfl)
    · rw [if_neg c8] at hF
      refine q_go C tk_X9_isKind [(14, 1), (19, 2)] [true] (pc1 := 43) (σ1 := σ6) (lv1 := [(0, .ref 229), (1, .int q)]) (st1 := [.int 1]) rfl ⟨c8, trivial⟩ ?_
      exact q_zret C hr (q_dc (z := (43, .ireturn, 1, 0, 0)) tk_X9_isKind 22 rfl) (by decide +kernel) (congrArg Prod.snd hF) (congrArg (fun z => q_oi z.1) hF.symm) (Nat.le_of_ble_eq_true rfl) (Nat.le_of_ble_eq_true rfl)
  · clear hF
    by_cases c1 : (F_X9_sign σ) = 100
    · skip
      refine q_go C tk_X9_isKind [(6, 3)] [false] (pc1 := 19) (σ1 := σ) (lv1 := [(0, .ref 229), (1, .int q)]) (st1 := [.int 1, .int q, .ref 236]) rfl ⟨c1, trivial⟩ ?_
      rw [if_pos c1] at K; exact K
    · skip
      refine q_go C tk_X9_isKind [(6, 1), (9, 1)] [true] (pc1 := 19) (σ1 := σ) (lv1 := [(0, .ref 229), (1, .int q)]) (st1 := [.int 0, .int q, .ref 236]) rfl ⟨c1, trivial⟩ ?_
      rw [if_neg c1] at K; exact K
theorem z_X9_isKind {q : Int32} {σ : q_M} : (F_X9_isKind q σ).1 = 0 ∨ (F_X9_isKind q σ).1 = 1 := by
  unfold F_X9_isKind
  try simp only [q_L]
  repeat' split
  all_goals first | exact Or.inl rfl | exact Or.inr rfl | exact z_X9_isSign
def F_X9_isFirst (v : Int32) (σ : q_M) : Int32 := (if v = 115 then 1 else (if v = 112 then 1 else (if v = 100 then 1 else (if v = 114 then 1 else (if v = 113 then 1 else 0)))))
set_option maxRecDepth 100000 in
theorem k_X9_isFirst {α β : Nat → Nat} {D : va_G} {κ : Nat → ClassId} (v : Int32) (σ : q_M) : q_C α β D κ yX9_isFirst cX9_isFirst 1 (Option.some Jvm.ClassFile.FieldType.boolean) 0 0 0 0 [.int v] σ (q_oi (F_X9_isFirst v σ)) σ := by
  refine q_enter (own := RX9) (F := F_X9) (G := G_X9) (by decide +kernel) rfl Fok_X9 Gok_X9 (Nat.le_of_ble_eq_true rfl) (fun p l e s m args below meth c A hfl C hr hT => ?_)
  generalize hF : F_X9_isFirst v σ = rr
  unfold F_X9_isFirst at hF
  refine q_go C tk_X9_isFirst [(0, 2)] [] (pc1 := 3) (σ1 := σ) (lv1 := [(0, .int v)]) (st1 := [.int 115, .int v]) rfl trivial ?_
  by_cases c1 : v = 115
  · rw [if_pos c1] at hF
    refine q_go C tk_X9_isFirst [(2, 1), (15, 2)] [true] (pc1 := 35) (σ1 := σ) (lv1 := [(0, .int v)]) (st1 := [.int 1]) rfl ⟨c1, trivial⟩ ?_
    exact q_zret C hr (q_dc (z := (35, .ireturn, 1, 0, 0)) tk_X9_isFirst 18 rfl) (by decide +kernel) rfl (congrArg q_oi hF.symm) (Nat.le_of_ble_eq_true rfl) (Nat.le_of_ble_eq_true rfl)
  · rw [if_neg c1] at hF
    refine q_go C tk_X9_isFirst [(2, 3)] [false] (pc1 := 9) (σ1 := σ) (lv1 := [(0, .int v)]) (st1 := [.int 112, .int v]) rfl ⟨c1, trivial⟩ ?_
    by_cases c2 : v = 112
    · rw [if_pos c2] at hF
      refine q_go C tk_X9_isFirst [(5, 1), (15, 2)] [true] (pc1 := 35) (σ1 := σ) (lv1 := [(0, .int v)]) (st1 := [.int 1]) rfl ⟨c2, trivial⟩ ?_
      exact q_zret C hr (q_dc (z := (35, .ireturn, 1, 0, 0)) tk_X9_isFirst 18 rfl) (by decide +kernel) rfl (congrArg q_oi hF.symm) (Nat.le_of_ble_eq_true rfl) (Nat.le_of_ble_eq_true rfl)
    · rw [if_neg c2] at hF
      refine q_go C tk_X9_isFirst [(5, 3)] [false] (pc1 := 15) (σ1 := σ) (lv1 := [(0, .int v)]) (st1 := [.int 100, .int v]) rfl ⟨c2, trivial⟩ ?_
      by_cases c3 : v = 100
      · rw [if_pos c3] at hF
        refine q_go C tk_X9_isFirst [(8, 1), (15, 2)] [true] (pc1 := 35) (σ1 := σ) (lv1 := [(0, .int v)]) (st1 := [.int 1]) rfl ⟨c3, trivial⟩ ?_
        exact q_zret C hr (q_dc (z := (35, .ireturn, 1, 0, 0)) tk_X9_isFirst 18 rfl) (by decide +kernel) rfl (congrArg q_oi hF.symm) (Nat.le_of_ble_eq_true rfl) (Nat.le_of_ble_eq_true rfl)
      · rw [if_neg c3] at hF
        refine q_go C tk_X9_isFirst [(8, 3)] [false] (pc1 := 21) (σ1 := σ) (lv1 := [(0, .int v)]) (st1 := [.int 114, .int v]) rfl ⟨c3, trivial⟩ ?_
        by_cases c4 : v = 114
        · rw [if_pos c4] at hF
          refine q_go C tk_X9_isFirst [(11, 1), (15, 2)] [true] (pc1 := 35) (σ1 := σ) (lv1 := [(0, .int v)]) (st1 := [.int 1]) rfl ⟨c4, trivial⟩ ?_
          exact q_zret C hr (q_dc (z := (35, .ireturn, 1, 0, 0)) tk_X9_isFirst 18 rfl) (by decide +kernel) rfl (congrArg q_oi hF.symm) (Nat.le_of_ble_eq_true rfl) (Nat.le_of_ble_eq_true rfl)
        · rw [if_neg c4] at hF
          refine q_go C tk_X9_isFirst [(11, 3)] [false] (pc1 := 27) (σ1 := σ) (lv1 := [(0, .int v)]) (st1 := [.int 113, .int v]) rfl ⟨c4, trivial⟩ ?_
          by_cases c5 : v = 113
          · rw [if_pos c5] at hF
            refine q_go C tk_X9_isFirst [(14, 3)] [false] (pc1 := 35) (σ1 := σ) (lv1 := [(0, .int v)]) (st1 := [.int 1]) rfl ⟨c5, trivial⟩ ?_
            exact q_zret C hr (q_dc (z := (35, .ireturn, 1, 0, 0)) tk_X9_isFirst 18 rfl) (by decide +kernel) rfl (congrArg q_oi hF.symm) (Nat.le_of_ble_eq_true rfl) (Nat.le_of_ble_eq_true rfl)
          · rw [if_neg c5] at hF
            refine q_go C tk_X9_isFirst [(14, 1), (17, 1)] [true] (pc1 := 35) (σ1 := σ) (lv1 := [(0, .int v)]) (st1 := [.int 0]) rfl ⟨c5, trivial⟩ ?_
            exact q_zret C hr (q_dc (z := (35, .ireturn, 1, 0, 0)) tk_X9_isFirst 18 rfl) (by decide +kernel) rfl (congrArg q_oi hF.symm) (Nat.le_of_ble_eq_true rfl) (Nat.le_of_ble_eq_true rfl)
theorem z_X9_isFirst {v : Int32} {σ : q_M} : (F_X9_isFirst v σ) = 0 ∨ (F_X9_isFirst v σ) = 1 := by
  unfold F_X9_isFirst
  try simp only [q_L]
  repeat' split
  all_goals first | exact Or.inl rfl | exact Or.inr rfl | exact rfl
