/-! 37.mexec. -/
def F_X9_type (ch : Int32) (σ : q_M) : (Int32) × q_M := (if (F_X9_isIn ch 32 126 σ) = 0 then (0, (q_up σ 229 5 1)) else (q_L (q_up σ 229 5 0) (fun σ2 : q_M => (if (σ 229 16) = 60 then (0, (q_up σ2 229 5 2)) else (q_L (q_up (q_up (q_up σ2 229 5 0) 235 ((σ2 229 16)).toNatClampNeg ch) 229 16 (((q_up (q_up σ2 229 5 0) 235 ((σ2 229 16)).toNatClampNeg ch) 229 16) + 1)) (fun σ5 : q_M => ((σ5 229 16), σ5)))))))
def P_X9_type (ch : Int32) (σ : q_M) : Prop := (((F_X9_isIn ch 32 126 σ) = 0 → True) ∧ (¬ (F_X9_isIn ch 32 126 σ) = 0 → (∀ σ2 : q_M, (q_up σ 229 5 0) = σ2 → (((σ 229 16) = 60 → True) ∧ (¬ (σ 229 16) = 60 → (vp_in (σ2 229 16) (q_len 235) ∧ True))))))
set_option maxRecDepth 100000 in
theorem k_X9_type {α β : Nat → Nat} {D : va_G} {κ : Nat → ClassId} (ch : Int32) (σ : q_M) (hP : P_X9_type ch σ) : q_C α β D κ yX9_type cX9_type 2 (Option.some Jvm.ClassFile.FieldType.int) 1 22 0 0 [.ref 229, .int ch] σ (q_oi (F_X9_type ch σ).1) (F_X9_type ch σ).2 := by
  refine q_enter (own := RX9) (F := F_X9) (G := G_X9) (by decide +kernel) rfl Fok_X9 Gok_X9 (Nat.le_of_ble_eq_true rfl) (fun p l e s m args below meth c A hfl C hr hT => ?_)
  generalize hF : F_X9_type ch σ = rr
  unfold F_X9_type at hF
  refine q_go C tk_X9_type [(0, 4)] [] (pc1 := 6) (σ1 := σ) (lv1 := [(0, .ref 229), (1, .int ch)]) (st1 := [.int 126, .int 32, .int ch, .ref 229]) rfl trivial ?_
  refine q_callS C hfl mw_X9_isIn ms_X9_isIn lk_X9_48 (k_X9_isIn ch 32 126 σ) (rest := [.ref 229]) rfl rfl (q_dc (z := (6, .invokestatic 48, 3, 0, 0)) tk_X9_type 4 rfl) (Nat.le_of_ble_eq_true rfl) ⟨Nat.le_of_ble_eq_true rfl, Nat.le_of_ble_eq_true rfl⟩ ⟨Nat.le_of_ble_eq_true rfl, Nat.le_of_ble_eq_true rfl⟩ ?_
  refine q_nrm 9 [.int (F_X9_isIn ch 32 126 σ), .ref 229] 0 0 rfl rfl rfl rfl ?_
  by_cases c1 : (F_X9_isIn ch 32 126 σ) = 0
  · rw [if_pos c1] at hF
    refine q_go C tk_X9_type [(5, 3), (9, 1)] [false] (pc1 := 18) (σ1 := σ) (lv1 := [(0, .ref 229), (1, .int ch)]) (st1 := [.int 1, .int 1, .ref 229]) rfl ⟨c1, trivial⟩ ?_
    refine q_callV C hfl mw_X9_isThrown mi_X9_isThrown me_X9_isThrown lk_X9_63 (k_X9_isThrownN 1 1 σ (by decide) (by decide)) (rest := []) rfl rfl rfl (by decide) (by decide) rfl (q_dc (z := (18, .invokevirtual 63, 3, 0, 0)) tk_X9_type 10 rfl) (Nat.le_of_ble_eq_true rfl) ⟨Nat.le_of_ble_eq_true rfl, Nat.le_of_ble_eq_true rfl⟩ ⟨Nat.le_of_ble_eq_true rfl, Nat.le_of_ble_eq_true rfl⟩ ?_
    refine q_nrm 21 [.int 1] 0 0 rfl rfl rfl rfl ?_
    refine q_go C tk_X9_type [(11, 1), (23, 1)] [true] (pc1 := 47) (σ1 := (q_up σ 229 5 1)) (lv1 := [(0, .ref 229), (1, .int ch)]) (st1 := [.int 0]) rfl ⟨(by decide : ¬ (1 : Int32) = 0), trivial⟩ ?_
    exact q_iret C hr (q_dc (z := (47, .ireturn, 1, 0, 0)) tk_X9_type 24 rfl) (congrArg Prod.snd hF) (congrArg (fun z => q_oi z.1) hF.symm) (Nat.le_of_ble_eq_true rfl) (Nat.le_of_ble_eq_true rfl)
  · rw [if_neg c1] at hF
    refine q_go C tk_X9_type [(5, 1), (8, 2)] [true] (pc1 := 18) (σ1 := σ) (lv1 := [(0, .ref 229), (1, .int ch)]) (st1 := [.int 1, .int 0, .ref 229]) rfl ⟨c1, trivial⟩ ?_
    refine q_callV C hfl mw_X9_isThrown mi_X9_isThrown me_X9_isThrown lk_X9_63 (k_X9_isThrownZ 0 1 σ (by decide)) (rest := []) rfl rfl rfl (by decide) (by decide) rfl (q_dc (z := (18, .invokevirtual 63, 3, 0, 0)) tk_X9_type 10 rfl) (Nat.le_of_ble_eq_true rfl) ⟨Nat.le_of_ble_eq_true rfl, Nat.le_of_ble_eq_true rfl⟩ ⟨Nat.le_of_ble_eq_true rfl, Nat.le_of_ble_eq_true rfl⟩ ?_
    refine q_nrm 21 [.int 0] 0 0 rfl rfl rfl rfl ?_
    refine q_go C tk_X9_type [(11, 5)] [false] (pc1 := 31) (σ1 := (q_up σ 229 5 0)) (lv1 := [(0, .ref 229), (1, .int ch)]) (st1 := [.int 60, .int (σ 229 16), .ref 229]) rfl ⟨(by decide : (0 : Int32) = 0), rfl, trivial⟩ ?_
    generalize e3 : (q_up σ 229 5 0) = σ2
    replace hF := q_let e3 hF
    by_cases c4 : (σ 229 16) = 60
    · rw [if_pos c4] at hF
      refine q_go C tk_X9_type [(16, 3), (20, 1)] [false] (pc1 := 40) (σ1 := σ2) (lv1 := [(0, .ref 229), (1, .int ch)]) (st1 := [.int 2, .int 1, .ref 229]) rfl ⟨c4, trivial⟩ ?_
      refine q_callV C hfl mw_X9_isThrown mi_X9_isThrown me_X9_isThrown lk_X9_63 (k_X9_isThrownN 1 2 σ2 (by decide) (by decide)) (rest := []) rfl rfl rfl (by decide) (by decide) rfl (q_dc (z := (40, .invokevirtual 63, 3, 0, 0)) tk_X9_type 21 rfl) (Nat.le_of_ble_eq_true rfl) ⟨Nat.le_of_ble_eq_true rfl, Nat.le_of_ble_eq_true rfl⟩ ⟨Nat.le_of_ble_eq_true rfl, Nat.le_of_ble_eq_true rfl⟩ ?_
      refine q_nrm 43 [.int 1] 0 0 rfl rfl rfl rfl ?_
      refine q_go C tk_X9_type [(22, 2)] [false] (pc1 := 47) (σ1 := (q_up σ2 229 5 2)) (lv1 := [(0, .ref 229), (1, .int ch)]) (st1 := [.int 0]) rfl ⟨(by decide : ¬ (1 : Int32) = 0), trivial⟩ ?_
      exact q_iret C hr (q_dc (z := (47, .ireturn, 1, 0, 0)) tk_X9_type 24 rfl) (congrArg Prod.snd hF) (congrArg (fun z => q_oi z.1) hF.symm) (Nat.le_of_ble_eq_true rfl) (Nat.le_of_ble_eq_true rfl)
    · rw [if_neg c4] at hF
      refine q_go C tk_X9_type [(16, 1), (19, 2)] [true] (pc1 := 40) (σ1 := σ2) (lv1 := [(0, .ref 229), (1, .int ch)]) (st1 := [.int 2, .int 0, .ref 229]) rfl ⟨c4, trivial⟩ ?_
      refine q_callV C hfl mw_X9_isThrown mi_X9_isThrown me_X9_isThrown lk_X9_63 (k_X9_isThrownZ 0 2 σ2 (by decide)) (rest := []) rfl rfl rfl (by decide) (by decide) rfl (q_dc (z := (40, .invokevirtual 63, 3, 0, 0)) tk_X9_type 21 rfl) (Nat.le_of_ble_eq_true rfl) ⟨Nat.le_of_ble_eq_true rfl, Nat.le_of_ble_eq_true rfl⟩ ⟨Nat.le_of_ble_eq_true rfl, Nat.le_of_ble_eq_true rfl⟩ ?_
      refine q_nrm 43 [.int 0] 0 0 rfl rfl rfl rfl ?_
      refine q_go C tk_X9_type [(22, 1), (25, 12)] [true] (pc1 := 68) (σ1 := (q_up (q_up (q_up σ2 229 5 0) 235 ((σ2 229 16)).toNatClampNeg ch) 229 16 (((q_up (q_up σ2 229 5 0) 235 ((σ2 229 16)).toNatClampNeg ch) 229 16) + 1))) (lv1 := [(0, .ref 229), (1, .int ch)]) (st1 := []) rfl ⟨(by decide : (0 : Int32) = 0), rfl, rfl, rfl, (((hP.2 c1) σ2 e3).2 c4).1, rfl, rfl, trivial⟩ ?_
      generalize e6 : (q_up (q_up (q_up σ2 229 5 0) 235 ((σ2 229 16)).toNatClampNeg ch) 229 16 (((q_up (q_up σ2 229 5 0) 235 ((σ2 229 16)).toNatClampNeg ch) 229 16) + 1)) = σ5
      replace hF := q_let e6 hF
      refine q_go C tk_X9_type [(37, 2)] [] (pc1 := 72) (σ1 := σ5) (lv1 := [(0, .ref 229), (1, .int ch)]) (st1 := [.int (σ5 229 16)]) rfl ⟨rfl, trivial⟩ ?_
      exact q_iret C hr (q_dc (z := (72, .ireturn, 1, 0, 0)) tk_X9_type 39 rfl) (congrArg Prod.snd hF) (congrArg (fun z => q_oi z.1) hF.symm) (Nat.le_of_ble_eq_true rfl) (Nat.le_of_ble_eq_true rfl)
def F_X9_writeBanner (t : Int32) (σ : q_M) : (Int32) × q_M := (if (F_X9_isTeam t σ) = 0 then (0, (q_up σ 229 5 1)) else (q_L (q_up σ 229 5 0) (fun σ2 : q_M => (q_L (F_X9_of t 6 σ2) (fun x4 : Int32 => (q_L (q_up σ2 229 13 0) (fun σ6 : q_M => (q_L (F_X9_puts 76 σ6) (fun σ8 : q_M => (q_L (F_X9_number9 (F_X9_of t 4 σ8) σ8) (fun σ10 : q_M => (q_L (F_X9_puts 32 σ10) (fun σ12 : q_M => (q_L (F_X9_puts (q_ch 8 (x4).toNatClampNeg) σ12) (fun σ14 : q_M => (if x4 = 1 then (q_L (F_X9_number9 (F_X9_of t 8 σ14) σ14) (fun σ17 : q_M => (q_L (F_X9_puts 32 σ17) (fun σ19 : q_M => (q_L (F_X9_number9 (F_X9_of t 7 σ19) σ19) (fun σ21 : q_M => (if 0 < (F_X9_of t 5 σ21) then (q_L (F_X9_puts 43 σ21) (fun σ24 : q_M => (q_L (F_X9_number9 (F_X9_of t 5 σ24) σ24) (fun σ26 : q_M => ((σ26 229 13), σ26))))) else ((σ21 229 13), σ21)))))))) else (if x4 = 2 then (q_L (F_X9_number9 (F_X9_result t σ14) σ14) (fun σ29 : q_M => (q_L (F_X9_puts 32 σ29) (fun σ31 : q_M => (q_L (F_X9_number9 (F_X9_of t 7 σ31) σ31) (fun σ33 : q_M => (if 0 < (F_X9_of t 5 σ33) then (q_L (F_X9_puts 43 σ33) (fun σ36 : q_M => (q_L (F_X9_number9 (F_X9_of t 5 σ36) σ36) (fun σ38 : q_M => ((σ38 229 13), σ38))))) else ((σ33 229 13), σ33)))))))) else (q_L (F_X9_puts 32 σ14) (fun σ40 : q_M => (q_L (F_X9_number9 (F_X9_of t 7 σ40) σ40) (fun σ42 : q_M => (if 0 < (F_X9_of t 5 σ42) then (q_L (F_X9_puts 43 σ42) (fun σ45 : q_M => (q_L (F_X9_number9 (F_X9_of t 5 σ45) σ45) (fun σ47 : q_M => ((σ47 229 13), σ47))))) else ((σ42 229 13), σ42)))))))))))))))))))))))
def P_X9_writeBanner (t : Int32) (σ : q_M) : Prop := (((F_X9_isTeam t σ) = 0 → True) ∧ (¬ (F_X9_isTeam t σ) = 0 → (∀ σ2 : q_M, (q_up σ 229 5 0) = σ2 → ((P_X9_of t 6 σ2) ∧ (∀ x4 : Int32, (F_X9_of t 6 σ2) = x4 → (∀ σ6 : q_M, (q_up σ2 229 13 0) = σ6 → ((P_X9_puts 76 σ6) ∧ (∀ σ8 : q_M, (F_X9_puts 76 σ6) = σ8 → ((P_X9_of t 4 σ8) ∧ ((P_X9_number9 (F_X9_of t 4 σ8) σ8) ∧ (∀ σ10 : q_M, (F_X9_number9 (F_X9_of t 4 σ8) σ8) = σ10 → ((P_X9_puts 32 σ10) ∧ (∀ σ12 : q_M, (F_X9_puts 32 σ10) = σ12 → (vp_in x4 (q_sl.getD 8 0) ∧ ((P_X9_puts (q_ch 8 (x4).toNatClampNeg) σ12) ∧ (∀ σ14 : q_M, (F_X9_puts (q_ch 8 (x4).toNatClampNeg) σ12) = σ14 → ((x4 = 1 → ((P_X9_of t 8 σ14) ∧ ((P_X9_number9 (F_X9_of t 8 σ14) σ14) ∧ (∀ σ17 : q_M, (F_X9_number9 (F_X9_of t 8 σ14) σ14) = σ17 → ((P_X9_puts 32 σ17) ∧ (∀ σ19 : q_M, (F_X9_puts 32 σ17) = σ19 → ((P_X9_of t 7 σ19) ∧ ((P_X9_number9 (F_X9_of t 7 σ19) σ19) ∧ (∀ σ21 : q_M, (F_X9_number9 (F_X9_of t 7 σ19) σ19) = σ21 → ((P_X9_of t 5 σ21) ∧ ((0 < (F_X9_of t 5 σ21) → ((P_X9_puts 43 σ21) ∧ (∀ σ24 : q_M, (F_X9_puts 43 σ21) = σ24 → ((P_X9_of t 5 σ24) ∧ ((P_X9_number9 (F_X9_of t 5 σ24) σ24) ∧ True))))) ∧ (¬ 0 < (F_X9_of t 5 σ21) → True)))))))))))) ∧ (¬ x4 = 1 → ((x4 = 2 → ((P_X9_result t σ14) ∧ ((P_X9_number9 (F_X9_result t σ14) σ14) ∧ (∀ σ29 : q_M, (F_X9_number9 (F_X9_result t σ14) σ14) = σ29 → ((P_X9_puts 32 σ29) ∧ (∀ σ31 : q_M, (F_X9_puts 32 σ29) = σ31 → ((P_X9_of t 7 σ31) ∧ ((P_X9_number9 (F_X9_of t 7 σ31) σ31) ∧ (∀ σ33 : q_M, (F_X9_number9 (F_X9_of t 7 σ31) σ31) = σ33 → ((P_X9_of t 5 σ33) ∧ ((0 < (F_X9_of t 5 σ33) → ((P_X9_puts 43 σ33) ∧ (∀ σ36 : q_M, (F_X9_puts 43 σ33) = σ36 → ((P_X9_of t 5 σ36) ∧ ((P_X9_number9 (F_X9_of t 5 σ36) σ36) ∧ True))))) ∧ (¬ 0 < (F_X9_of t 5 σ33) → True)))))))))))) ∧ (¬ x4 = 2 → ((P_X9_puts 32 σ14) ∧ (∀ σ40 : q_M, (F_X9_puts 32 σ14) = σ40 → ((P_X9_of t 7 σ40) ∧ ((P_X9_number9 (F_X9_of t 7 σ40) σ40) ∧ (∀ σ42 : q_M, (F_X9_number9 (F_X9_of t 7 σ40) σ40) = σ42 → ((P_X9_of t 5 σ42) ∧ ((0 < (F_X9_of t 5 σ42) → ((P_X9_puts 43 σ42) ∧ (∀ σ45 : q_M, (F_X9_puts 43 σ42) = σ45 → ((P_X9_of t 5 σ45) ∧ ((P_X9_number9 (F_X9_of t 5 σ45) σ45) ∧ True))))) ∧ (¬ 0 < (F_X9_of t 5 σ42) → True))))))))))))))))))))))))))))
set_option maxRecDepth 100000 in
theorem k_X9_writeBanner {α β : Nat → Nat} {D : va_G} {κ : Nat → ClassId} (t : Int32) (σ : q_M) (hP : P_X9_writeBanner t σ) : q_C α β D κ yX9_writeBanner cX9_writeBanner 3 (Option.some Jvm.ClassFile.FieldType.int) 12 271 0 0 [.ref 229, .int t] σ (q_oi (F_X9_writeBanner t σ).1) (F_X9_writeBanner t σ).2 := by
  refine q_enter (own := RX9) (F := F_X9) (G := G_X9) (by decide +kernel) rfl Fok_X9 Gok_X9 (Nat.le_of_ble_eq_true rfl) (fun p l e s m args below meth c A hfl C hr hT => ?_)
  generalize hF : F_X9_writeBanner t σ = rr
  unfold F_X9_writeBanner at hF
  refine q_go C tk_X9_writeBanner [(0, 3)] [] (pc1 := 3) (σ1 := σ) (lv1 := [(0, .ref 229), (1, .int t)]) (st1 := [.int t, .ref 229, .ref 229]) rfl trivial ?_
  refine q_callV C hfl mw_X9_isTeam mi_X9_isTeam me_X9_isTeam lk_X9_75 (k_X9_isTeam t σ) (rest := [.ref 229]) rfl rfl rfl (by decide) (by decide) rfl (q_dc (z := (3, .invokevirtual 75, 3, 0, 0)) tk_X9_writeBanner 3 rfl) (Nat.le_of_ble_eq_true rfl) ⟨Nat.le_of_ble_eq_true rfl, Nat.le_of_ble_eq_true rfl⟩ ⟨Nat.le_of_ble_eq_true rfl, Nat.le_of_ble_eq_true rfl⟩ ?_
  refine q_nrm 6 [.int (F_X9_isTeam t σ), .ref 229] 0 0 rfl rfl rfl rfl ?_
  by_cases c1 : (F_X9_isTeam t σ) = 0
  · rw [if_pos c1] at hF
    refine q_go C tk_X9_writeBanner [(4, 3), (8, 1)] [false] (pc1 := 15) (σ1 := σ) (lv1 := [(0, .ref 229), (1, .int t)]) (st1 := [.int 1, .int 1, .ref 229]) rfl ⟨c1, trivial⟩ ?_
    refine q_callV C hfl mw_X9_isThrown mi_X9_isThrown me_X9_isThrown lk_X9_63 (k_X9_isThrownN 1 1 σ (by decide) (by decide)) (rest := []) rfl rfl rfl (by decide) (by decide) rfl (q_dc (z := (15, .invokevirtual 63, 3, 0, 0)) tk_X9_writeBanner 9 rfl) (Nat.le_of_ble_eq_true rfl) ⟨Nat.le_of_ble_eq_true rfl, Nat.le_of_ble_eq_true rfl⟩ ⟨Nat.le_of_ble_eq_true rfl, Nat.le_of_ble_eq_true rfl⟩ ?_
    refine q_nrm 18 [.int 1] 0 0 rfl rfl rfl rfl ?_
    refine q_go C tk_X9_writeBanner [(10, 2)] [false] (pc1 := 22) (σ1 := (q_up σ 229 5 1)) (lv1 := [(0, .ref 229), (1, .int t)]) (st1 := [.int 0]) rfl ⟨(by decide : ¬ (1 : Int32) = 0), trivial⟩ ?_
    exact q_iret C hr (q_dc (z := (22, .ireturn, 1, 0, 0)) tk_X9_writeBanner 12 rfl) (congrArg Prod.snd hF) (congrArg (fun z => q_oi z.1) hF.symm) (Nat.le_of_ble_eq_true rfl) (Nat.le_of_ble_eq_true rfl)
  · rw [if_neg c1] at hF
    refine q_go C tk_X9_writeBanner [(4, 1), (7, 2)] [true] (pc1 := 15) (σ1 := σ) (lv1 := [(0, .ref 229), (1, .int t)]) (st1 := [.int 1, .int 0, .ref 229]) rfl ⟨c1, trivial⟩ ?_
    refine q_callV C hfl mw_X9_isThrown mi_X9_isThrown me_X9_isThrown lk_X9_63 (k_X9_isThrownZ 0 1 σ (by decide)) (rest := []) rfl rfl rfl (by decide) (by decide) rfl (q_dc (z := (15, .invokevirtual 63, 3, 0, 0)) tk_X9_writeBanner 9 rfl) (Nat.le_of_ble_eq_true rfl) ⟨Nat.le_of_ble_eq_true rfl, Nat.le_of_ble_eq_true rfl⟩ ⟨Nat.le_of_ble_eq_true rfl, Nat.le_of_ble_eq_true rfl⟩ ?_
    refine q_nrm 18 [.int 0] 0 0 rfl rfl rfl rfl ?_
    refine q_go C tk_X9_writeBanner [(10, 1), (13, 3)] [true] (pc1 := 27) (σ1 := (q_up σ 229 5 0)) (lv1 := [(0, .ref 229), (1, .int t)]) (st1 := [.int 6, .int t, .ref 229]) rfl ⟨(by decide : (0 : Int32) = 0), trivial⟩ ?_
    generalize e3 : (q_up σ 229 5 0) = σ2
    replace hF := q_let e3 hF
    refine q_callV C hfl mw_X9_of mi_X9_of me_X9_of lk_X9_52 (k_X9_of t 6 σ2 ((hP.2 c1) σ2 e3).1) (rest := []) rfl rfl rfl (by decide) (by decide) rfl (q_dc (z := (27, .invokevirtual 52, 3, 0, 0)) tk_X9_writeBanner 16 rfl) (Nat.le_of_ble_eq_true rfl) ⟨Nat.le_of_ble_eq_true rfl, Nat.le_of_ble_eq_true rfl⟩ ⟨Nat.le_of_ble_eq_true rfl, Nat.le_of_ble_eq_true rfl⟩ ?_
    refine q_nrm 30 [.int (F_X9_of t 6 σ2)] 0 0 rfl rfl rfl rfl ?_
    generalize e5 : (F_X9_of t 6 σ2) = x4
    replace hF := q_let e5 hF
    refine q_go C tk_X9_writeBanner [(17, 4)] [] (pc1 := 36) (σ1 := (q_up σ2 229 13 0)) (lv1 := [(2, .int x4), (0, .ref 229), (1, .int t)]) (st1 := []) rfl ⟨rfl, trivial⟩ ?_
    generalize e7 : (q_up σ2 229 13 0) = σ6
    replace hF := q_let e7 hF
    refine q_go C tk_X9_writeBanner [(21, 2)] [] (pc1 := 39) (σ1 := σ6) (lv1 := [(2, .int x4), (0, .ref 229), (1, .int t)]) (st1 := [.int 76, .ref 229]) rfl trivial ?_
    refine q_callV C hfl mw_X9_puts mi_X9_puts me_X9_puts lk_X9_173 (k_X9_puts 76 σ6 ((((hP.2 c1) σ2 e3).2 x4 e5) σ6 e7).1) (rest := []) rfl rfl rfl (by decide) (by decide) rfl (q_dc (z := (39, .invokevirtual 173, 3, 0, 0)) tk_X9_writeBanner 23 rfl) (Nat.le_of_ble_eq_true rfl) ⟨Nat.le_of_ble_eq_true rfl, Nat.le_of_ble_eq_true rfl⟩ ⟨Nat.le_of_ble_eq_true rfl, Nat.le_of_ble_eq_true rfl⟩ ?_
    refine q_nrm 42 [] 0 0 rfl rfl rfl rfl ?_
    generalize e9 : (F_X9_puts 76 σ6) = σ8
    replace hF := q_let e9 hF
    refine q_go C tk_X9_writeBanner [(24, 4)] [] (pc1 := 46) (σ1 := σ8) (lv1 := [(2, .int x4), (0, .ref 229), (1, .int t)]) (st1 := [.int 4, .int t, .ref 229, .ref 229]) rfl trivial ?_
    refine q_callV C hfl mw_X9_of mi_X9_of me_X9_of lk_X9_52 (k_X9_of t 4 σ8 (((((hP.2 c1) σ2 e3).2 x4 e5) σ6 e7).2 σ8 e9).1) (rest := [.ref 229]) rfl rfl rfl (by decide) (by decide) rfl (q_dc (z := (46, .invokevirtual 52, 3, 0, 0)) tk_X9_writeBanner 28 rfl) (Nat.le_of_ble_eq_true rfl) ⟨Nat.le_of_ble_eq_true rfl, Nat.le_of_ble_eq_true rfl⟩ ⟨Nat.le_of_ble_eq_true rfl, Nat.le_of_ble_eq_true rfl⟩ ?_
    refine q_nrm 49 [.int (F_X9_of t 4 σ8), .ref 229] 0 0 rfl rfl rfl rfl ?_
    refine q_callV C hfl mw_X9_number mi_X9_number me_X9_number lk_X9_170 (k_X9_number9 (F_X9_of t 4 σ8) σ8 (((((hP.2 c1) σ2 e3).2 x4 e5) σ6 e7).2 σ8 e9).2.1) (rest := []) rfl rfl rfl (by decide) (by decide) rfl (q_dc (z := (49, .invokevirtual 170, 3, 0, 0)) tk_X9_writeBanner 29 rfl) (Nat.le_of_ble_eq_true rfl) ⟨Nat.le_of_ble_eq_true rfl, Nat.le_of_ble_eq_true rfl⟩ ⟨Nat.le_of_ble_eq_true rfl, Nat.le_of_ble_eq_true rfl⟩ ?_
    refine q_nrm 52 [] 0 0 rfl rfl rfl rfl ?_
    generalize e11 : (F_X9_number9 (F_X9_of t 4 σ8) σ8) = σ10
    replace hF := q_let e11 hF
    refine q_go C tk_X9_writeBanner [(30, 2)] [] (pc1 := 55) (σ1 := σ10) (lv1 := [(2, .int x4), (0, .ref 229), (1, .int t)]) (st1 := [.int 32, .ref 229]) rfl trivial ?_
    refine q_callV C hfl mw_X9_puts mi_X9_puts me_X9_puts lk_X9_173 (k_X9_puts 32 σ10 ((((((hP.2 c1) σ2 e3).2 x4 e5) σ6 e7).2 σ8 e9).2.2 σ10 e11).1) (rest := []) rfl rfl rfl (by decide) (by decide) rfl (q_dc (z := (55, .invokevirtual 173, 3, 0, 0)) tk_X9_writeBanner 32 rfl) (Nat.le_of_ble_eq_true rfl) ⟨Nat.le_of_ble_eq_true rfl, Nat.le_of_ble_eq_true rfl⟩ ⟨Nat.le_of_ble_eq_true rfl, Nat.le_of_ble_eq_true rfl⟩ ?_
    refine q_nrm 58 [] 0 0 rfl rfl rfl rfl ?_
    generalize e13 : (F_X9_puts 32 σ10) = σ12
    replace hF := q_let e13 hF
    refine q_go C tk_X9_writeBanner [(33, 1)] [] (pc1 := 59) (σ1 := σ12) (lv1 := [(2, .int x4), (0, .ref 229), (1, .int t)]) (st1 := [.ref 229]) rfl trivial ?_
    refine q_ldcS (i := 0) C (by decide) rfl (q_dc (z := (59, .ldc 176, 2, 0, 0)) tk_X9_writeBanner 34 rfl) ?_
    refine q_nrm 61 [.ref 348, .ref 229] 0 0 rfl rfl rfl rfl ?_
    refine q_go C tk_X9_writeBanner [(35, 1)] [] (pc1 := 62) (σ1 := σ12) (lv1 := [(2, .int x4), (0, .ref 229), (1, .int t)]) (st1 := [.int x4, .ref 348, .ref 229]) rfl trivial ?_
    refine q_callG C hfl mw_J0_charAt_5068e mi_J0_charAt_5068e me_J0_charAt_5068e lk_X9_178 (k_strAt 8 x4 σ12 (by decide) (((((((hP.2 c1) σ2 e3).2 x4 e5) σ6 e7).2 σ8 e9).2.2 σ10 e11).2 σ12 e13).1) (rest := [.ref 229]) rfl (q_recvK C (by decide)) rfl (q_dc (z := (62, .invokevirtual 178, 3, 0, 0)) tk_X9_writeBanner 36 rfl) (Nat.le_of_ble_eq_true rfl) ⟨Nat.le_of_ble_eq_true rfl, Nat.le_of_ble_eq_true rfl⟩ ⟨Nat.le_of_ble_eq_true rfl, Nat.le_of_ble_eq_true rfl⟩ ?_
    refine q_nrm 65 [.int (q_ch 8 (x4).toNatClampNeg), .ref 229] 0 0 rfl rfl rfl rfl ?_
    refine q_callV C hfl mw_X9_puts mi_X9_puts me_X9_puts lk_X9_173 (k_X9_puts (q_ch 8 (x4).toNatClampNeg) σ12 (((((((hP.2 c1) σ2 e3).2 x4 e5) σ6 e7).2 σ8 e9).2.2 σ10 e11).2 σ12 e13).2.1) (rest := []) rfl rfl rfl (by decide) (by decide) rfl (q_dc (z := (65, .invokevirtual 173, 3, 0, 0)) tk_X9_writeBanner 37 rfl) (Nat.le_of_ble_eq_true rfl) ⟨Nat.le_of_ble_eq_true rfl, Nat.le_of_ble_eq_true rfl⟩ ⟨Nat.le_of_ble_eq_true rfl, Nat.le_of_ble_eq_true rfl⟩ ?_
    refine q_nrm 68 [] 0 0 rfl rfl rfl rfl ?_
    generalize e15 : (F_X9_puts (q_ch 8 (x4).toNatClampNeg) σ12) = σ14
    replace hF := q_let e15 hF
    refine q_go C tk_X9_writeBanner [(38, 2)] [] (pc1 := 70) (σ1 := σ14) (lv1 := [(2, .int x4), (0, .ref 229), (1, .int t)]) (st1 := [.int 1, .int x4]) rfl trivial ?_
    by_cases c16 : x4 = 1
    · rw [if_pos c16] at hF
      refine q_go C tk_X9_writeBanner [(40, 5)] [false] (pc1 := 78) (σ1 := σ14) (lv1 := [(2, .int x4), (0, .ref 229), (1, .int t)]) (st1 := [.int 8, .int t, .ref 229, .ref 229]) rfl ⟨c16, trivial⟩ ?_
      refine q_callV C hfl mw_X9_of mi_X9_of me_X9_of lk_X9_52 (k_X9_of t 8 σ14 (((((((((hP.2 c1) σ2 e3).2 x4 e5) σ6 e7).2 σ8 e9).2.2 σ10 e11).2 σ12 e13).2.2 σ14 e15).1 c16).1) (rest := [.ref 229]) rfl rfl rfl (by decide) (by decide) rfl (q_dc (z := (78, .invokevirtual 52, 3, 0, 0)) tk_X9_writeBanner 45 rfl) (Nat.le_of_ble_eq_true rfl) ⟨Nat.le_of_ble_eq_true rfl, Nat.le_of_ble_eq_true rfl⟩ ⟨Nat.le_of_ble_eq_true rfl, Nat.le_of_ble_eq_true rfl⟩ ?_
      refine q_nrm 81 [.int (F_X9_of t 8 σ14), .ref 229] 0 0 rfl rfl rfl rfl ?_
      refine q_callV C hfl mw_X9_number mi_X9_number me_X9_number lk_X9_170 (k_X9_number9 (F_X9_of t 8 σ14) σ14 (((((((((hP.2 c1) σ2 e3).2 x4 e5) σ6 e7).2 σ8 e9).2.2 σ10 e11).2 σ12 e13).2.2 σ14 e15).1 c16).2.1) (rest := []) rfl rfl rfl (by decide) (by decide) rfl (q_dc (z := (81, .invokevirtual 170, 3, 0, 0)) tk_X9_writeBanner 46 rfl) (Nat.le_of_ble_eq_true rfl) ⟨Nat.le_of_ble_eq_true rfl, Nat.le_of_ble_eq_true rfl⟩ ⟨Nat.le_of_ble_eq_true rfl, Nat.le_of_ble_eq_true rfl⟩ ?_
      refine q_nrm 84 [] 0 0 rfl rfl rfl rfl ?_
      generalize e18 : (F_X9_number9 (F_X9_of t 8 σ14) σ14) = σ17
      replace hF := q_let e18 hF
      refine q_go C tk_X9_writeBanner [(47, 1), (56, 2)] [] (pc1 := 104) (σ1 := σ17) (lv1 := [(2, .int x4), (0, .ref 229), (1, .int t)]) (st1 := [.int 32, .ref 229]) rfl trivial ?_
      refine q_callV C hfl mw_X9_puts mi_X9_puts me_X9_puts lk_X9_173 (k_X9_puts 32 σ17 ((((((((((hP.2 c1) σ2 e3).2 x4 e5) σ6 e7).2 σ8 e9).2.2 σ10 e11).2 σ12 e13).2.2 σ14 e15).1 c16).2.2 σ17 e18).1) (rest := []) rfl rfl rfl (by decide) (by decide) rfl (q_dc (z := (104, .invokevirtual 173, 3, 0, 0)) tk_X9_writeBanner 58 rfl) (Nat.le_of_ble_eq_true rfl) ⟨Nat.le_of_ble_eq_true rfl, Nat.le_of_ble_eq_true rfl⟩ ⟨Nat.le_of_ble_eq_true rfl, Nat.le_of_ble_eq_true rfl⟩ ?_
      refine q_nrm 107 [] 0 0 rfl rfl rfl rfl ?_
      generalize e20 : (F_X9_puts 32 σ17) = σ19
      replace hF := q_let e20 hF
      refine q_go C tk_X9_writeBanner [(59, 4)] [] (pc1 := 112) (σ1 := σ19) (lv1 := [(2, .int x4), (0, .ref 229), (1, .int t)]) (st1 := [.int 7, .int t, .ref 229, .ref 229]) rfl trivial ?_
      refine q_callV C hfl mw_X9_of mi_X9_of me_X9_of lk_X9_52 (k_X9_of t 7 σ19 (((((((((((hP.2 c1) σ2 e3).2 x4 e5) σ6 e7).2 σ8 e9).2.2 σ10 e11).2 σ12 e13).2.2 σ14 e15).1 c16).2.2 σ17 e18).2 σ19 e20).1) (rest := [.ref 229]) rfl rfl rfl (by decide) (by decide) rfl (q_dc (z := (112, .invokevirtual 52, 3, 0, 0)) tk_X9_writeBanner 63 rfl) (Nat.le_of_ble_eq_true rfl) ⟨Nat.le_of_ble_eq_true rfl, Nat.le_of_ble_eq_true rfl⟩ ⟨Nat.le_of_ble_eq_true rfl, Nat.le_of_ble_eq_true rfl⟩ ?_
      refine q_nrm 115 [.int (F_X9_of t 7 σ19), .ref 229] 0 0 rfl rfl rfl rfl ?_
      refine q_callV C hfl mw_X9_number mi_X9_number me_X9_number lk_X9_170 (k_X9_number9 (F_X9_of t 7 σ19) σ19 (((((((((((hP.2 c1) σ2 e3).2 x4 e5) σ6 e7).2 σ8 e9).2.2 σ10 e11).2 σ12 e13).2.2 σ14 e15).1 c16).2.2 σ17 e18).2 σ19 e20).2.1) (rest := []) rfl rfl rfl (by decide) (by decide) rfl (q_dc (z := (115, .invokevirtual 170, 3, 0, 0)) tk_X9_writeBanner 64 rfl) (Nat.le_of_ble_eq_true rfl) ⟨Nat.le_of_ble_eq_true rfl, Nat.le_of_ble_eq_true rfl⟩ ⟨Nat.le_of_ble_eq_true rfl, Nat.le_of_ble_eq_true rfl⟩ ?_
      refine q_nrm 118 [] 0 0 rfl rfl rfl rfl ?_
      generalize e22 : (F_X9_number9 (F_X9_of t 7 σ19) σ19) = σ21
      replace hF := q_let e22 hF
      refine q_go C tk_X9_writeBanner [(65, 3)] [] (pc1 := 121) (σ1 := σ21) (lv1 := [(2, .int x4), (0, .ref 229), (1, .int t)]) (st1 := [.int 5, .int t, .ref 229]) rfl trivial ?_
      refine q_callV C hfl mw_X9_of mi_X9_of me_X9_of lk_X9_52 (k_X9_of t 5 σ21 ((((((((((((hP.2 c1) σ2 e3).2 x4 e5) σ6 e7).2 σ8 e9).2.2 σ10 e11).2 σ12 e13).2.2 σ14 e15).1 c16).2.2 σ17 e18).2 σ19 e20).2.2 σ21 e22).1) (rest := []) rfl rfl rfl (by decide) (by decide) rfl (q_dc (z := (121, .invokevirtual 52, 3, 0, 0)) tk_X9_writeBanner 68 rfl) (Nat.le_of_ble_eq_true rfl) ⟨Nat.le_of_ble_eq_true rfl, Nat.le_of_ble_eq_true rfl⟩ ⟨Nat.le_of_ble_eq_true rfl, Nat.le_of_ble_eq_true rfl⟩ ?_
      refine q_nrm 124 [.int (F_X9_of t 5 σ21)] 0 0 rfl rfl rfl rfl ?_
      by_cases c23 : 0 < (F_X9_of t 5 σ21)
      · rw [if_pos c23] at hF
        refine q_go C tk_X9_writeBanner [(69, 3)] [false] (pc1 := 130) (σ1 := σ21) (lv1 := [(2, .int x4), (0, .ref 229), (1, .int t)]) (st1 := [.int 43, .ref 229]) rfl ⟨c23, trivial⟩ ?_
        refine q_callV C hfl mw_X9_puts mi_X9_puts me_X9_puts lk_X9_173 (k_X9_puts 43 σ21 (((((((((((((hP.2 c1) σ2 e3).2 x4 e5) σ6 e7).2 σ8 e9).2.2 σ10 e11).2 σ12 e13).2.2 σ14 e15).1 c16).2.2 σ17 e18).2 σ19 e20).2.2 σ21 e22).2.1 c23).1) (rest := []) rfl rfl rfl (by decide) (by decide) rfl (q_dc (z := (130, .invokevirtual 173, 3, 0, 0)) tk_X9_writeBanner 72 rfl) (Nat.le_of_ble_eq_true rfl) ⟨Nat.le_of_ble_eq_true rfl, Nat.le_of_ble_eq_true rfl⟩ ⟨Nat.le_of_ble_eq_true rfl, Nat.le_of_ble_eq_true rfl⟩ ?_
        refine q_nrm 133 [] 0 0 rfl rfl rfl rfl ?_
        generalize e25 : (F_X9_puts 43 σ21) = σ24
        replace hF := q_let e25 hF
        refine q_go C tk_X9_writeBanner [(73, 4)] [] (pc1 := 137) (σ1 := σ24) (lv1 := [(2, .int x4), (0, .ref 229), (1, .int t)]) (st1 := [.int 5, .int t, .ref 229, .ref 229]) rfl trivial ?_
        refine q_callV C hfl mw_X9_of mi_X9_of me_X9_of lk_X9_52 (k_X9_of t 5 σ24 ((((((((((((((hP.2 c1) σ2 e3).2 x4 e5) σ6 e7).2 σ8 e9).2.2 σ10 e11).2 σ12 e13).2.2 σ14 e15).1 c16).2.2 σ17 e18).2 σ19 e20).2.2 σ21 e22).2.1 c23).2 σ24 e25).1) (rest := [.ref 229]) rfl rfl rfl (by decide) (by decide) rfl (q_dc (z := (137, .invokevirtual 52, 3, 0, 0)) tk_X9_writeBanner 77 rfl) (Nat.le_of_ble_eq_true rfl) ⟨Nat.le_of_ble_eq_true rfl, Nat.le_of_ble_eq_true rfl⟩ ⟨Nat.le_of_ble_eq_true rfl, Nat.le_of_ble_eq_true rfl⟩ ?_
        refine q_nrm 140 [.int (F_X9_of t 5 σ24), .ref 229] 0 0 rfl rfl rfl rfl ?_
        refine q_callV C hfl mw_X9_number mi_X9_number me_X9_number lk_X9_170 (k_X9_number9 (F_X9_of t 5 σ24) σ24 ((((((((((((((hP.2 c1) σ2 e3).2 x4 e5) σ6 e7).2 σ8 e9).2.2 σ10 e11).2 σ12 e13).2.2 σ14 e15).1 c16).2.2 σ17 e18).2 σ19 e20).2.2 σ21 e22).2.1 c23).2 σ24 e25).2.1) (rest := []) rfl rfl rfl (by decide) (by decide) rfl (q_dc (z := (140, .invokevirtual 170, 3, 0, 0)) tk_X9_writeBanner 78 rfl) (Nat.le_of_ble_eq_true rfl) ⟨Nat.le_of_ble_eq_true rfl, Nat.le_of_ble_eq_true rfl⟩ ⟨Nat.le_of_ble_eq_true rfl, Nat.le_of_ble_eq_true rfl⟩ ?_
        refine q_nrm 143 [] 0 0 rfl rfl rfl rfl ?_
        generalize e27 : (F_X9_number9 (F_X9_of t 5 σ24) σ24) = σ26
        replace hF := q_let e27 hF
        refine q_go C tk_X9_writeBanner [(79, 2)] [] (pc1 := 147) (σ1 := σ26) (lv1 := [(2, .int x4), (0, .ref 229), (1, .int t)]) (st1 := [.int (σ26 229 13)]) rfl ⟨rfl, trivial⟩ ?_
        exact q_iret C hr (q_dc (z := (147, .ireturn, 1, 0, 0)) tk_X9_writeBanner 81 rfl) (congrArg Prod.snd hF) (congrArg (fun z => q_oi z.1) hF.symm) (Nat.le_of_ble_eq_true rfl) (Nat.le_of_ble_eq_true rfl)
      · rw [if_neg c23] at hF
        refine q_go C tk_X9_writeBanner [(69, 1), (79, 2)] [true] (pc1 := 147) (σ1 := σ21) (lv1 := [(2, .int x4), (0, .ref 229), (1, .int t)]) (st1 := [.int (σ21 229 13)]) rfl ⟨c23, rfl, trivial⟩ ?_
        exact q_iret C hr (q_dc (z := (147, .ireturn, 1, 0, 0)) tk_X9_writeBanner 81 rfl) (congrArg Prod.snd hF) (congrArg (fun z => q_oi z.1) hF.symm) (Nat.le_of_ble_eq_true rfl) (Nat.le_of_ble_eq_true rfl)
    · rw [if_neg c16] at hF
      refine q_go C tk_X9_writeBanner [(40, 1), (48, 2)] [true] (pc1 := 89) (σ1 := σ14) (lv1 := [(2, .int x4), (0, .ref 229), (1, .int t)]) (st1 := [.int 2, .int x4]) rfl ⟨c16, trivial⟩ ?_
      by_cases c28 : x4 = 2
      · rw [if_pos c28] at hF
        refine q_go C tk_X9_writeBanner [(50, 4)] [false] (pc1 := 95) (σ1 := σ14) (lv1 := [(2, .int x4), (0, .ref 229), (1, .int t)]) (st1 := [.int t, .ref 229, .ref 229]) rfl ⟨c28, trivial⟩ ?_
        refine q_callV C hfl mw_X9_result mi_X9_result me_X9_result lk_X9_151 (k_X9_result t σ14 ((((((((((hP.2 c1) σ2 e3).2 x4 e5) σ6 e7).2 σ8 e9).2.2 σ10 e11).2 σ12 e13).2.2 σ14 e15).2 c16).1 c28).1) (rest := [.ref 229]) rfl rfl rfl (by decide) (by decide) rfl (q_dc (z := (95, .invokevirtual 151, 3, 0, 0)) tk_X9_writeBanner 54 rfl) (Nat.le_of_ble_eq_true rfl) ⟨Nat.le_of_ble_eq_true rfl, Nat.le_of_ble_eq_true rfl⟩ ⟨Nat.le_of_ble_eq_true rfl, Nat.le_of_ble_eq_true rfl⟩ ?_
        refine q_nrm 98 [.int (F_X9_result t σ14), .ref 229] 0 0 rfl rfl rfl rfl ?_
        refine q_callV C hfl mw_X9_number mi_X9_number me_X9_number lk_X9_170 (k_X9_number9 (F_X9_result t σ14) σ14 ((((((((((hP.2 c1) σ2 e3).2 x4 e5) σ6 e7).2 σ8 e9).2.2 σ10 e11).2 σ12 e13).2.2 σ14 e15).2 c16).1 c28).2.1) (rest := []) rfl rfl rfl (by decide) (by decide) rfl (q_dc (z := (98, .invokevirtual 170, 3, 0, 0)) tk_X9_writeBanner 55 rfl) (Nat.le_of_ble_eq_true rfl) ⟨Nat.le_of_ble_eq_true rfl, Nat.le_of_ble_eq_true rfl⟩ ⟨Nat.le_of_ble_eq_true rfl, Nat.le_of_ble_eq_true rfl⟩ ?_
        refine q_nrm 101 [] 0 0 rfl rfl rfl rfl ?_
        generalize e30 : (F_X9_number9 (F_X9_result t σ14) σ14) = σ29
        replace hF := q_let e30 hF
        refine q_go C tk_X9_writeBanner [(56, 2)] [] (pc1 := 104) (σ1 := σ29) (lv1 := [(2, .int x4), (0, .ref 229), (1, .int t)]) (st1 := [.int 32, .ref 229]) rfl trivial ?_
        refine q_callV C hfl mw_X9_puts mi_X9_puts me_X9_puts lk_X9_173 (k_X9_puts 32 σ29 (((((((((((hP.2 c1) σ2 e3).2 x4 e5) σ6 e7).2 σ8 e9).2.2 σ10 e11).2 σ12 e13).2.2 σ14 e15).2 c16).1 c28).2.2 σ29 e30).1) (rest := []) rfl rfl rfl (by decide) (by decide) rfl (q_dc (z := (104, .invokevirtual 173, 3, 0, 0)) tk_X9_writeBanner 58 rfl) (Nat.le_of_ble_eq_true rfl) ⟨Nat.le_of_ble_eq_true rfl, Nat.le_of_ble_eq_true rfl⟩ ⟨Nat.le_of_ble_eq_true rfl, Nat.le_of_ble_eq_true rfl⟩ ?_
        refine q_nrm 107 [] 0 0 rfl rfl rfl rfl ?_
        generalize e32 : (F_X9_puts 32 σ29) = σ31
        replace hF := q_let e32 hF
        refine q_go C tk_X9_writeBanner [(59, 4)] [] (pc1 := 112) (σ1 := σ31) (lv1 := [(2, .int x4), (0, .ref 229), (1, .int t)]) (st1 := [.int 7, .int t, .ref 229, .ref 229]) rfl trivial ?_
        refine q_callV C hfl mw_X9_of mi_X9_of me_X9_of lk_X9_52 (k_X9_of t 7 σ31 ((((((((((((hP.2 c1) σ2 e3).2 x4 e5) σ6 e7).2 σ8 e9).2.2 σ10 e11).2 σ12 e13).2.2 σ14 e15).2 c16).1 c28).2.2 σ29 e30).2 σ31 e32).1) (rest := [.ref 229]) rfl rfl rfl (by decide) (by decide) rfl (q_dc (z := (112, .invokevirtual 52, 3, 0, 0)) tk_X9_writeBanner 63 rfl) (Nat.le_of_ble_eq_true rfl) ⟨Nat.le_of_ble_eq_true rfl, Nat.le_of_ble_eq_true rfl⟩ ⟨Nat.le_of_ble_eq_true rfl, Nat.le_of_ble_eq_true rfl⟩ ?_
        refine q_nrm 115 [.int (F_X9_of t 7 σ31), .ref 229] 0 0 rfl rfl rfl rfl ?_
        refine q_callV C hfl mw_X9_number mi_X9_number me_X9_number lk_X9_170 (k_X9_number9 (F_X9_of t 7 σ31) σ31 ((((((((((((hP.2 c1) σ2 e3).2 x4 e5) σ6 e7).2 σ8 e9).2.2 σ10 e11).2 σ12 e13).2.2 σ14 e15).2 c16).1 c28).2.2 σ29 e30).2 σ31 e32).2.1) (rest := []) rfl rfl rfl (by decide) (by decide) rfl (q_dc (z := (115, .invokevirtual 170, 3, 0, 0)) tk_X9_writeBanner 64 rfl) (Nat.le_of_ble_eq_true rfl) ⟨Nat.le_of_ble_eq_true rfl, Nat.le_of_ble_eq_true rfl⟩ ⟨Nat.le_of_ble_eq_true rfl, Nat.le_of_ble_eq_true rfl⟩ ?_
        refine q_nrm 118 [] 0 0 rfl rfl rfl rfl ?_
        generalize e34 : (F_X9_number9 (F_X9_of t 7 σ31) σ31) = σ33
        replace hF := q_let e34 hF
        refine q_go C tk_X9_writeBanner [(65, 3)] [] (pc1 := 121) (σ1 := σ33) (lv1 := [(2, .int x4), (0, .ref 229), (1, .int t)]) (st1 := [.int 5, .int t, .ref 229]) rfl trivial ?_
        refine q_callV C hfl mw_X9_of mi_X9_of me_X9_of lk_X9_52 (k_X9_of t 5 σ33 (((((((((((((hP.2 c1) σ2 e3).2 x4 e5) σ6 e7).2 σ8 e9).2.2 σ10 e11).2 σ12 e13).2.2 σ14 e15).2 c16).1 c28).2.2 σ29 e30).2 σ31 e32).2.2 σ33 e34).1) (rest := []) rfl rfl rfl (by decide) (by decide) rfl (q_dc (z := (121, .invokevirtual 52, 3, 0, 0)) tk_X9_writeBanner 68 rfl) (Nat.le_of_ble_eq_true rfl) ⟨Nat.le_of_ble_eq_true rfl, Nat.le_of_ble_eq_true rfl⟩ ⟨Nat.le_of_ble_eq_true rfl, Nat.le_of_ble_eq_true rfl⟩ ?_
        refine q_nrm 124 [.int (F_X9_of t 5 σ33)] 0 0 rfl rfl rfl rfl ?_
        by_cases c35 : 0 < (F_X9_of t 5 σ33)
        · rw [if_pos c35] at hF
          refine q_go C tk_X9_writeBanner [(69, 3)] [false] (pc1 := 130) (σ1 := σ33) (lv1 := [(2, .int x4), (0, .ref 229), (1, .int t)]) (st1 := [.int 43, .ref 229]) rfl ⟨c35, trivial⟩ ?_
          refine q_callV C hfl mw_X9_puts mi_X9_puts me_X9_puts lk_X9_173 (k_X9_puts 43 σ33 ((((((((((((((hP.2 c1) σ2 e3).2 x4 e5) σ6 e7).2 σ8 e9).2.2 σ10 e11).2 σ12 e13).2.2 σ14 e15).2 c16).1 c28).2.2 σ29 e30).2 σ31 e32).2.2 σ33 e34).2.1 c35).1) (rest := []) rfl rfl rfl (by decide) (by decide) rfl (q_dc (z := (130, .invokevirtual 173, 3, 0, 0)) tk_X9_writeBanner 72 rfl) (Nat.le_of_ble_eq_true rfl) ⟨Nat.le_of_ble_eq_true rfl, Nat.le_of_ble_eq_true rfl⟩ ⟨Nat.le_of_ble_eq_true rfl, Nat.le_of_ble_eq_true rfl⟩ ?_
          refine q_nrm 133 [] 0 0 rfl rfl rfl rfl ?_
          generalize e37 : (F_X9_puts 43 σ33) = σ36
          replace hF := q_let e37 hF
          refine q_go C tk_X9_writeBanner [(73, 4)] [] (pc1 := 137) (σ1 := σ36) (lv1 := [(2, .int x4), (0, .ref 229), (1, .int t)]) (st1 := [.int 5, .int t, .ref 229, .ref 229]) rfl trivial ?_
          refine q_callV C hfl mw_X9_of mi_X9_of me_X9_of lk_X9_52 (k_X9_of t 5 σ36 (((((((((((((((hP.2 c1) σ2 e3).2 x4 e5) σ6 e7).2 σ8 e9).2.2 σ10 e11).2 σ12 e13).2.2 σ14 e15).2 c16).1 c28).2.2 σ29 e30).2 σ31 e32).2.2 σ33 e34).2.1 c35).2 σ36 e37).1) (rest := [.ref 229]) rfl rfl rfl (by decide) (by decide) rfl (q_dc (z := (137, .invokevirtual 52, 3, 0, 0)) tk_X9_writeBanner 77 rfl) (Nat.le_of_ble_eq_true rfl) ⟨Nat.le_of_ble_eq_true rfl, Nat.le_of_ble_eq_true rfl⟩ ⟨Nat.le_of_ble_eq_true rfl, Nat.le_of_ble_eq_true rfl⟩ ?_
          refine q_nrm 140 [.int (F_X9_of t 5 σ36), .ref 229] 0 0 rfl rfl rfl rfl ?_
          refine q_callV C hfl mw_X9_number mi_X9_number me_X9_number lk_X9_170 (k_X9_number9 (F_X9_of t 5 σ36) σ36 (((((((((((((((hP.2 c1) σ2 e3).2 x4 e5) σ6 e7).2 σ8 e9).2.2 σ10 e11).2 σ12 e13).2.2 σ14 e15).2 c16).1 c28).2.2 σ29 e30).2 σ31 e32).2.2 σ33 e34).2.1 c35).2 σ36 e37).2.1) (rest := []) rfl rfl rfl (by decide) (by decide) rfl (q_dc (z := (140, .invokevirtual 170, 3, 0, 0)) tk_X9_writeBanner 78 rfl) (Nat.le_of_ble_eq_true rfl) ⟨Nat.le_of_ble_eq_true rfl, Nat.le_of_ble_eq_true rfl⟩ ⟨Nat.le_of_ble_eq_true rfl, Nat.le_of_ble_eq_true rfl⟩ ?_
          refine q_nrm 143 [] 0 0 rfl rfl rfl rfl ?_
          generalize e39 : (F_X9_number9 (F_X9_of t 5 σ36) σ36) = σ38
          replace hF := q_let e39 hF
          refine q_go C tk_X9_writeBanner [(79, 2)] [] (pc1 := 147) (σ1 := σ38) (lv1 := [(2, .int x4), (0, .ref 229), (1, .int t)]) (st1 := [.int (σ38 229 13)]) rfl ⟨rfl, trivial⟩ ?_
          exact q_iret C hr (q_dc (z := (147, .ireturn, 1, 0, 0)) tk_X9_writeBanner 81 rfl) (congrArg Prod.snd hF) (congrArg (fun z => q_oi z.1) hF.symm) (Nat.le_of_ble_eq_true rfl) (Nat.le_of_ble_eq_true rfl)
        · rw [if_neg c35] at hF
          refine q_go C tk_X9_writeBanner [(69, 1), (79, 2)] [true] (pc1 := 147) (σ1 := σ33) (lv1 := [(2, .int x4), (0, .ref 229), (1, .int t)]) (st1 := [.int (σ33 229 13)]) rfl ⟨c35, rfl, trivial⟩ ?_
          exact q_iret C hr (q_dc (z := (147, .ireturn, 1, 0, 0)) tk_X9_writeBanner 81 rfl) (congrArg Prod.snd hF) (congrArg (fun z => q_oi z.1) hF.symm) (Nat.le_of_ble_eq_true rfl) (Nat.le_of_ble_eq_true rfl)
      · rw [if_neg c28] at hF
        refine q_go C tk_X9_writeBanner [(50, 1), (56, 2)] [true] (pc1 := 104) (σ1 := σ14) (lv1 := [(2, .int x4), (0, .ref 229), (1, .int t)]) (st1 := [.int 32, .ref 229]) rfl ⟨c28, trivial⟩ ?_
        refine q_callV C hfl mw_X9_puts mi_X9_puts me_X9_puts lk_X9_173 (k_X9_puts 32 σ14 ((((((((((hP.2 c1) σ2 e3).2 x4 e5) σ6 e7).2 σ8 e9).2.2 σ10 e11).2 σ12 e13).2.2 σ14 e15).2 c16).2 c28).1) (rest := []) rfl rfl rfl (by decide) (by decide) rfl (q_dc (z := (104, .invokevirtual 173, 3, 0, 0)) tk_X9_writeBanner 58 rfl) (Nat.le_of_ble_eq_true rfl) ⟨Nat.le_of_ble_eq_true rfl, Nat.le_of_ble_eq_true rfl⟩ ⟨Nat.le_of_ble_eq_true rfl, Nat.le_of_ble_eq_true rfl⟩ ?_
        refine q_nrm 107 [] 0 0 rfl rfl rfl rfl ?_
        generalize e41 : (F_X9_puts 32 σ14) = σ40
        replace hF := q_let e41 hF
        refine q_go C tk_X9_writeBanner [(59, 4)] [] (pc1 := 112) (σ1 := σ40) (lv1 := [(2, .int x4), (0, .ref 229), (1, .int t)]) (st1 := [.int 7, .int t, .ref 229, .ref 229]) rfl trivial ?_
        refine q_callV C hfl mw_X9_of mi_X9_of me_X9_of lk_X9_52 (k_X9_of t 7 σ40 (((((((((((hP.2 c1) σ2 e3).2 x4 e5) σ6 e7).2 σ8 e9).2.2 σ10 e11).2 σ12 e13).2.2 σ14 e15).2 c16).2 c28).2 σ40 e41).1) (rest := [.ref 229]) rfl rfl rfl (by decide) (by decide) rfl (q_dc (z := (112, .invokevirtual 52, 3, 0, 0)) tk_X9_writeBanner 63 rfl) (Nat.le_of_ble_eq_true rfl) ⟨Nat.le_of_ble_eq_true rfl, Nat.le_of_ble_eq_true rfl⟩ ⟨Nat.le_of_ble_eq_true rfl, Nat.le_of_ble_eq_true rfl⟩ ?_
        refine q_nrm 115 [.int (F_X9_of t 7 σ40), .ref 229] 0 0 rfl rfl rfl rfl ?_
        refine q_callV C hfl mw_X9_number mi_X9_number me_X9_number lk_X9_170 (k_X9_number9 (F_X9_of t 7 σ40) σ40 (((((((((((hP.2 c1) σ2 e3).2 x4 e5) σ6 e7).2 σ8 e9).2.2 σ10 e11).2 σ12 e13).2.2 σ14 e15).2 c16).2 c28).2 σ40 e41).2.1) (rest := []) rfl rfl rfl (by decide) (by decide) rfl (q_dc (z := (115, .invokevirtual 170, 3, 0, 0)) tk_X9_writeBanner 64 rfl) (Nat.le_of_ble_eq_true rfl) ⟨Nat.le_of_ble_eq_true rfl, Nat.le_of_ble_eq_true rfl⟩ ⟨Nat.le_of_ble_eq_true rfl, Nat.le_of_ble_eq_true rfl⟩ ?_
        refine q_nrm 118 [] 0 0 rfl rfl rfl rfl ?_
        generalize e43 : (F_X9_number9 (F_X9_of t 7 σ40) σ40) = σ42
        replace hF := q_let e43 hF
        refine q_go C tk_X9_writeBanner [(65, 3)] [] (pc1 := 121) (σ1 := σ42) (lv1 := [(2, .int x4), (0, .ref 229), (1, .int t)]) (st1 := [.int 5, .int t, .ref 229]) rfl trivial ?_
        refine q_callV C hfl mw_X9_of mi_X9_of me_X9_of lk_X9_52 (k_X9_of t 5 σ42 ((((((((((((hP.2 c1) σ2 e3).2 x4 e5) σ6 e7).2 σ8 e9).2.2 σ10 e11).2 σ12 e13).2.2 σ14 e15).2 c16).2 c28).2 σ40 e41).2.2 σ42 e43).1) (rest := []) rfl rfl rfl (by decide) (by decide) rfl (q_dc (z := (121, .invokevirtual 52, 3, 0, 0)) tk_X9_writeBanner 68 rfl) (Nat.le_of_ble_eq_true rfl) ⟨Nat.le_of_ble_eq_true rfl, Nat.le_of_ble_eq_true rfl⟩ ⟨Nat.le_of_ble_eq_true rfl, Nat.le_of_ble_eq_true rfl⟩ ?_
        refine q_nrm 124 [.int (F_X9_of t 5 σ42)] 0 0 rfl rfl rfl rfl ?_
        by_cases c44 : 0 < (F_X9_of t 5 σ42)
        · rw [if_pos c44] at hF
          refine q_go C tk_X9_writeBanner [(69, 3)] [false] (pc1 := 130) (σ1 := σ42) (lv1 := [(2, .int x4), (0, .ref 229), (1, .int t)]) (st1 := [.int 43, .ref 229]) rfl ⟨c44, trivial⟩ ?_
          refine q_callV C hfl mw_X9_puts mi_X9_puts me_X9_puts lk_X9_173 (k_X9_puts 43 σ42 (((((((((((((hP.2 c1) σ2 e3).2 x4 e5) σ6 e7).2 σ8 e9).2.2 σ10 e11).2 σ12 e13).2.2 σ14 e15).2 c16).2 c28).2 σ40 e41).2.2 σ42 e43).2.1 c44).1) (rest := []) rfl rfl rfl (by decide) (by decide) rfl (q_dc (z := (130, .invokevirtual 173, 3, 0, 0)) tk_X9_writeBanner 72 rfl) (Nat.le_of_ble_eq_true rfl) ⟨Nat.le_of_ble_eq_true rfl, Nat.le_of_ble_eq_true rfl⟩ ⟨Nat.le_of_ble_eq_true rfl, Nat.le_of_ble_eq_true rfl⟩ ?_
          refine q_nrm 133 [] 0 0 rfl rfl rfl rfl ?_
          generalize e46 : (F_X9_puts 43 σ42) = σ45
          replace hF := q_let e46 hF
          refine q_go C tk_X9_writeBanner [(73, 4)] [] (pc1 := 137) (σ1 := σ45) (lv1 := [(2, .int x4), (0, .ref 229), (1, .int t)]) (st1 := [.int 5, .int t, .ref 229, .ref 229]) rfl trivial ?_
          refine q_callV C hfl mw_X9_of mi_X9_of me_X9_of lk_X9_52 (k_X9_of t 5 σ45 ((((((((((((((hP.2 c1) σ2 e3).2 x4 e5) σ6 e7).2 σ8 e9).2.2 σ10 e11).2 σ12 e13).2.2 σ14 e15).2 c16).2 c28).2 σ40 e41).2.2 σ42 e43).2.1 c44).2 σ45 e46).1) (rest := [.ref 229]) rfl rfl rfl (by decide) (by decide) rfl (q_dc (z := (137, .invokevirtual 52, 3, 0, 0)) tk_X9_writeBanner 77 rfl) (Nat.le_of_ble_eq_true rfl) ⟨Nat.le_of_ble_eq_true rfl, Nat.le_of_ble_eq_true rfl⟩ ⟨Nat.le_of_ble_eq_true rfl, Nat.le_of_ble_eq_true rfl⟩ ?_
          refine q_nrm 140 [.int (F_X9_of t 5 σ45), .ref 229] 0 0 rfl rfl rfl rfl ?_
          refine q_callV C hfl mw_X9_number mi_X9_number me_X9_number lk_X9_170 (k_X9_number9 (F_X9_of t 5 σ45) σ45 ((((((((((((((hP.2 c1) σ2 e3).2 x4 e5) σ6 e7).2 σ8 e9).2.2 σ10 e11).2 σ12 e13).2.2 σ14 e15).2 c16).2 c28).2 σ40 e41).2.2 σ42 e43).2.1 c44).2 σ45 e46).2.1) (rest := []) rfl rfl rfl (by decide) (by decide) rfl (q_dc (z := (140, .invokevirtual 170, 3, 0, 0)) tk_X9_writeBanner 78 rfl) (Nat.le_of_ble_eq_true rfl) ⟨Nat.le_of_ble_eq_true rfl, Nat.le_of_ble_eq_true rfl⟩ ⟨Nat.le_of_ble_eq_true rfl, Nat.le_of_ble_eq_true rfl⟩ ?_
          refine q_nrm 143 [] 0 0 rfl rfl rfl rfl ?_
          generalize e48 : (F_X9_number9 (F_X9_of t 5 σ45) σ45) = σ47
          replace hF := q_let e48 hF
          refine q_go C tk_X9_writeBanner [(79, 2)] [] (pc1 := 147) (σ1 := σ47) (lv1 := [(2, .int x4), (0, .ref 229), (1, .int t)]) (st1 := [.int (σ47 229 13)]) rfl ⟨rfl, trivial⟩ ?_
          exact q_iret C hr (q_dc (z := (147, .ireturn, 1, 0, 0)) tk_X9_writeBanner 81 rfl) (congrArg Prod.snd hF) (congrArg (fun z => q_oi z.1) hF.symm) (Nat.le_of_ble_eq_true rfl) (Nat.le_of_ble_eq_true rfl)
        · rw [if_neg c44] at hF
          refine q_go C tk_X9_writeBanner [(69, 1), (79, 2)] [true] (pc1 := 147) (σ1 := σ42) (lv1 := [(2, .int x4), (0, .ref 229), (1, .int t)]) (st1 := [.int (σ42 229 13)]) rfl ⟨c44, rfl, trivial⟩ ?_
          exact q_iret C hr (q_dc (z := (147, .ireturn, 1, 0, 0)) tk_X9_writeBanner 81 rfl) (congrArg Prod.snd hF) (congrArg (fun z => q_oi z.1) hF.symm) (Nat.le_of_ble_eq_true rfl) (Nat.le_of_ble_eq_true rfl)
def FL_X9_execute_43  : Nat → Int32 → Int32 → q_M → (Int32) × q_M
  | 0, v1, v2, τ => (0, τ)
  | nn + 1, v1, v2, τ => (if v2 < (τ 229 18) then (q_L (q_up τ 229 5 0) (fun σ15 : q_M => (q_L (F_X9_does (4 * v2) σ15).2 (fun σ17 : q_M => (q_L (q_up σ17 229 10 (F_X9_does (4 * v2) σ15).1) (fun σ19 : q_M => (if (σ19 229 5) = 0 then (FL_X9_execute_43  nn v1 (v2 + 1) σ19) else (q_L (F_X9_copies 231 0 230 0 σ19) (fun σ22 : q_M => (q_L (q_up σ22 229 7 v2) (fun σ24 : q_M => (q_L (q_up σ24 229 5 2) (fun σ26 : q_M => (0, σ26)))))))))))))) else (q_L (F_X9_ends (τ 229 18) τ).2 (fun σ28 : q_M => ((F_X9_ends (τ 229 18) τ).1, σ28))))
def PL_X9_execute_43  : Nat → Int32 → Int32 → q_M → Prop
  | 0, v1, v2, τ => False
  | nn + 1, v1, v2, τ => ((v2 < (τ 229 18) → (∀ σ15 : q_M, (q_up τ 229 5 0) = σ15 → ((P_X9_does (4 * v2) σ15) ∧ (∀ σ17 : q_M, (F_X9_does (4 * v2) σ15).2 = σ17 → (∀ σ19 : q_M, (q_up σ17 229 10 (F_X9_does (4 * v2) σ15).1) = σ19 → (((σ19 229 5) = 0 → (PL_X9_execute_43  nn v1 (v2 + 1) σ19)) ∧ (¬ (σ19 229 5) = 0 → ((P_X9_copies 231 0 230 0 σ19) ∧ True)))))))) ∧ (¬ v2 < (τ 229 18) → ((P_X9_ends (τ 229 18) τ) ∧ True)))
set_option maxRecDepth 100000 in
theorem kl_X9_execute_43 {α β : Nat → Nat} {D : va_G} {κ : Nat → ClassId}  {p : Program} {l : Launch} {e : Env} {s : State} {m : MethodId} {args : Array Value} {below : List Frame} {meth : Method} {c : Code} {A : Nat → Prop} (hfl : l.flags = flags0) (C : q_Cx α β D κ p s m args meth c cX9_execute RX9 F_X9 G_X9 3 A) (hr : meth.sig.returnType = (Option.some Jvm.ClassFile.FieldType.int)) (hT : ∀ x ∈ c.exceptionTable.toList, False) : ∀ (nn : Nat) (v1 : Int32) (v2 : Int32) (τ : q_M) (rr : (Int32) × q_M), PL_X9_execute_43  nn v1 v2 τ → FL_X9_execute_43  nn v1 v2 τ = rr → q_St α β D κ p l e ({ frames := 9, cells := 0, slots := 0, locals := 199 } : Room) s m args below meth c 3 A (vx_MQ below (q_Qc α β D κ A (q_oi rr.1) rr.2) (q_XC α β D κ A (q_oi rr.1) rr.2) args s 0 0 A) 0 0 τ [(0, .ref 229), (1, .int v1), (2, .int v2)] 43 [] := by
  intro nn
  induction nn with
  | zero => intro v1 v2 τ rr hP; exact hP.elim
  | succ nn ih =>
    intro v1 v2 τ rr hP hF
    unfold FL_X9_execute_43 at hF
    refine q_go C tk_X9_execute [(25, 3)] [] (pc1 := 48) (σ1 := τ) (lv1 := [(0, .ref 229), (1, .int v1), (2, .int v2)]) (st1 := [.int (τ 229 18), .int v2]) rfl ⟨rfl, trivial⟩ ?_
    by_cases c14 : v2 < (τ 229 18)
    · rw [if_pos c14] at hF
      refine q_go C tk_X9_execute [(28, 4)] [false] (pc1 := 56) (σ1 := (q_up τ 229 5 0)) (lv1 := [(0, .ref 229), (1, .int v1), (2, .int v2)]) (st1 := []) rfl ⟨c14, rfl, trivial⟩ ?_
      generalize e16 : (q_up τ 229 5 0) = σ15
      replace hF := q_let e16 hF
      refine q_go C tk_X9_execute [(32, 5)] [] (pc1 := 61) (σ1 := σ15) (lv1 := [(0, .ref 229), (1, .int v1), (2, .int v2)]) (st1 := [.int (4 * v2), .ref 229, .ref 229]) rfl trivial ?_
      refine q_callV C hfl mw_X9_does mi_X9_does me_X9_does lk_X9_252 (k_X9_does (4 * v2) σ15 ((hP.1 c14) σ15 e16).1) (rest := [.ref 229]) rfl rfl rfl (by decide) (by decide) rfl (q_dc (z := (61, .invokevirtual 252, 3, 0, 0)) tk_X9_execute 37 rfl) (Nat.le_of_ble_eq_true rfl) ⟨Nat.le_of_ble_eq_true rfl, Nat.le_of_ble_eq_true rfl⟩ ⟨Nat.le_of_ble_eq_true rfl, Nat.le_of_ble_eq_true rfl⟩ ?_
      refine q_nrm 64 [.int (F_X9_does (4 * v2) σ15).1, .ref 229] 0 0 rfl rfl rfl rfl ?_
      generalize e18 : (F_X9_does (4 * v2) σ15).2 = σ17
      replace hF := q_let e18 hF
      refine q_go C tk_X9_execute [(38, 1)] [] (pc1 := 67) (σ1 := (q_up σ17 229 10 (F_X9_does (4 * v2) σ15).1)) (lv1 := [(0, .ref 229), (1, .int v1), (2, .int v2)]) (st1 := []) rfl ⟨rfl, trivial⟩ ?_
      generalize e20 : (q_up σ17 229 10 (F_X9_does (4 * v2) σ15).1) = σ19
      replace hF := q_let e20 hF
      refine q_go C tk_X9_execute [(39, 2)] [] (pc1 := 71) (σ1 := σ19) (lv1 := [(0, .ref 229), (1, .int v1), (2, .int v2)]) (st1 := [.int (σ19 229 5)]) rfl ⟨rfl, trivial⟩ ?_
      by_cases c21 : (σ19 229 5) = 0
      · rw [if_pos c21] at hF
        refine q_go C tk_X9_execute [(41, 1), (57, 2)] [true] (pc1 := 43) (σ1 := σ19) (lv1 := [(2, .int (v2 + 1)), (0, .ref 229), (1, .int v1)]) (st1 := []) rfl ⟨c21, trivial⟩ ?_
        refine q_lvpick [1, 2, 0] (lv' := [(0, .ref 229), (1, .int v1), (2, .int (v2 + 1))]) rfl ?_
        exact ih v1 (v2 + 1) σ19 rr (((((hP.1 c14) σ15 e16).2 σ17 e18) σ19 e20).1 c21) hF
      · rw [if_neg c21] at hF
        refine q_go C tk_X9_execute [(41, 7)] [false] (pc1 := 84) (σ1 := σ19) (lv1 := [(0, .ref 229), (1, .int v1), (2, .int v2)]) (st1 := [.int 0, .ref 230, .int 0, .ref 231]) rfl ⟨c21, rfl, rfl, trivial⟩ ?_
        refine q_callS C hfl mw_X9_copies ms_X9_copies lk_X9_41 (k_X9_copies 231 0 230 0 σ19 rfl rfl (((((hP.1 c14) σ15 e16).2 σ17 e18) σ19 e20).2 c21).1) (rest := []) rfl rfl (q_dc (z := (84, .invokestatic 41, 3, 0, 0)) tk_X9_execute 48 rfl) (Nat.le_of_ble_eq_true rfl) ⟨Nat.le_of_ble_eq_true rfl, Nat.le_of_ble_eq_true rfl⟩ ⟨Nat.le_of_ble_eq_true rfl, Nat.le_of_ble_eq_true rfl⟩ ?_
        refine q_nrm 87 [] 0 0 rfl rfl rfl rfl ?_
        generalize e23 : (F_X9_copies 231 0 230 0 σ19) = σ22
        replace hF := q_let e23 hF
        refine q_go C tk_X9_execute [(49, 3)] [] (pc1 := 92) (σ1 := (q_up σ22 229 7 v2)) (lv1 := [(0, .ref 229), (1, .int v1), (2, .int v2)]) (st1 := []) rfl ⟨rfl, trivial⟩ ?_
        generalize e25 : (q_up σ22 229 7 v2) = σ24
        replace hF := q_let e25 hF
        refine q_go C tk_X9_execute [(52, 3)] [] (pc1 := 97) (σ1 := (q_up σ24 229 5 2)) (lv1 := [(0, .ref 229), (1, .int v1), (2, .int v2)]) (st1 := []) rfl ⟨rfl, trivial⟩ ?_
        generalize e27 : (q_up σ24 229 5 2) = σ26
        replace hF := q_let e27 hF
        refine q_go C tk_X9_execute [(55, 1)] [] (pc1 := 98) (σ1 := σ26) (lv1 := [(0, .ref 229), (1, .int v1), (2, .int v2)]) (st1 := [.int 0]) rfl trivial ?_
        exact q_iret C hr (q_dc (z := (98, .ireturn, 1, 0, 0)) tk_X9_execute 56 rfl) (congrArg Prod.snd hF) (congrArg (fun z => q_oi z.1) hF.symm) (Nat.le_of_ble_eq_true rfl) (Nat.le_of_ble_eq_true rfl)
    · rw [if_neg c14] at hF
      refine q_go C tk_X9_execute [(28, 1), (59, 3)] [true] (pc1 := 110) (σ1 := τ) (lv1 := [(0, .ref 229), (1, .int v1), (2, .int v2)]) (st1 := [.int (τ 229 18), .ref 229]) rfl ⟨c14, rfl, trivial⟩ ?_
      refine q_callV C hfl mw_X9_ends mi_X9_ends me_X9_ends lk_X9_71 (k_X9_ends (τ 229 18) τ (hP.2 c14).1) (rest := []) rfl rfl rfl (by decide) (by decide) rfl (q_dc (z := (110, .invokevirtual 71, 3, 0, 0)) tk_X9_execute 62 rfl) (Nat.le_of_ble_eq_true rfl) ⟨Nat.le_of_ble_eq_true rfl, Nat.le_of_ble_eq_true rfl⟩ ⟨Nat.le_of_ble_eq_true rfl, Nat.le_of_ble_eq_true rfl⟩ ?_
      refine q_nrm 113 [.int (F_X9_ends (τ 229 18) τ).1] 0 0 rfl rfl rfl rfl ?_
      generalize e29 : (F_X9_ends (τ 229 18) τ).2 = σ28
      replace hF := q_let e29 hF
      exact q_iret C hr (q_dc (z := (113, .ireturn, 1, 0, 0)) tk_X9_execute 63 rfl) (congrArg Prod.snd hF) (congrArg (fun z => q_oi z.1) hF.symm) (Nat.le_of_ble_eq_true rfl) (Nat.le_of_ble_eq_true rfl)
def F_X9_execute (σ : q_M) : (Int32) × q_M := (q_L (F_X9_isProgram σ).2 (fun σ1 : q_M => (q_L (F_X9_isProgram σ).1 (fun x3 : Int32 => (q_L (q_up σ1 229 16 0) (fun σ5 : q_M => (if x3 = 0 then (q_L (q_up (q_up σ5 229 5 1) 229 6 (σ5 229 17)) (fun σ8 : q_M => (0, σ8))) else (q_L (q_up σ5 229 5 0) (fun σ10 : q_M => (q_L (F_X9_keeps σ10) (fun σ12 : q_M => (FL_X9_execute_43  40 x3 0 σ12))))))))))))
def P_X9_execute (σ : q_M) : Prop := ((P_X9_isProgram σ) ∧ (∀ σ1 : q_M, (F_X9_isProgram σ).2 = σ1 → (∀ x3 : Int32, (F_X9_isProgram σ).1 = x3 → (∀ σ5 : q_M, (q_up σ1 229 16 0) = σ5 → ((x3 = 0 → True) ∧ (¬ x3 = 0 → (∀ σ10 : q_M, (q_up σ5 229 5 0) = σ10 → ((P_X9_keeps σ10) ∧ (∀ σ12 : q_M, (F_X9_keeps σ10) = σ12 → (PL_X9_execute_43  40 x3 0 σ12))))))))))
set_option maxRecDepth 100000 in
theorem k_X9_execute {α β : Nat → Nat} {D : va_G} {κ : Nat → ClassId} (σ : q_M) (hP : P_X9_execute σ) : q_C α β D κ yX9_execute cX9_execute 3 (Option.some Jvm.ClassFile.FieldType.int) 9 199 0 0 [.ref 229] σ (q_oi (F_X9_execute σ).1) (F_X9_execute σ).2 := by
  refine q_enter (own := RX9) (F := F_X9) (G := G_X9) (by decide +kernel) rfl Fok_X9 Gok_X9 (Nat.le_of_ble_eq_true rfl) (fun p l e s m args below meth c A hfl C hr hT => ?_)
  generalize hF : F_X9_execute σ = rr
  unfold F_X9_execute at hF
  refine q_go C tk_X9_execute [(0, 1)] [] (pc1 := 1) (σ1 := σ) (lv1 := [(0, .ref 229)]) (st1 := [.ref 229]) rfl trivial ?_
  refine q_callV C hfl mw_X9_isProgram mi_X9_isProgram me_X9_isProgram lk_X9_249 (k_X9_isProgram σ hP.1) (rest := []) rfl rfl rfl (by decide) (by decide) rfl (q_dc (z := (1, .invokevirtual 249, 3, 0, 0)) tk_X9_execute 1 rfl) (Nat.le_of_ble_eq_true rfl) ⟨Nat.le_of_ble_eq_true rfl, Nat.le_of_ble_eq_true rfl⟩ ⟨Nat.le_of_ble_eq_true rfl, Nat.le_of_ble_eq_true rfl⟩ ?_
  refine q_nrm 4 [.int (F_X9_isProgram σ).1] 0 0 rfl rfl rfl rfl ?_
  generalize e2 : (F_X9_isProgram σ).2 = σ1
  replace hF := q_let e2 hF
  generalize e4 : (F_X9_isProgram σ).1 = x3
  replace hF := q_let e4 hF
  refine q_go C tk_X9_execute [(2, 4)] [] (pc1 := 10) (σ1 := (q_up σ1 229 16 0)) (lv1 := [(1, .int x3), (0, .ref 229)]) (st1 := []) rfl ⟨rfl, trivial⟩ ?_
  generalize e6 : (q_up σ1 229 16 0) = σ5
  replace hF := q_let e6 hF
  refine q_go C tk_X9_execute [(6, 2)] [] (pc1 := 12) (σ1 := σ5) (lv1 := [(1, .int x3), (0, .ref 229)]) (st1 := [.int x3, .ref 229]) rfl trivial ?_
  by_cases c7 : x3 = 0
  · rw [if_pos c7] at hF
    refine q_go C tk_X9_execute [(8, 3), (12, 1)] [false] (pc1 := 21) (σ1 := σ5) (lv1 := [(1, .int x3), (0, .ref 229)]) (st1 := [.int 1, .int 1, .ref 229]) rfl ⟨c7, trivial⟩ ?_
    refine q_callV C hfl mw_X9_isThrown mi_X9_isThrown me_X9_isThrown lk_X9_63 (k_X9_isThrownN 1 1 σ5 (by decide) (by decide)) (rest := []) rfl rfl rfl (by decide) (by decide) rfl (q_dc (z := (21, .invokevirtual 63, 3, 0, 0)) tk_X9_execute 13 rfl) (Nat.le_of_ble_eq_true rfl) ⟨Nat.le_of_ble_eq_true rfl, Nat.le_of_ble_eq_true rfl⟩ ⟨Nat.le_of_ble_eq_true rfl, Nat.le_of_ble_eq_true rfl⟩ ?_
    refine q_nrm 24 [.int 1] 0 0 rfl rfl rfl rfl ?_
    refine q_go C tk_X9_execute [(14, 5)] [false] (pc1 := 35) (σ1 := (q_up (q_up σ5 229 5 1) 229 6 (σ5 229 17))) (lv1 := [(1, .int x3), (0, .ref 229)]) (st1 := []) rfl ⟨(by decide : ¬ (1 : Int32) = 0), rfl, rfl, trivial⟩ ?_
    generalize e9 : (q_up (q_up σ5 229 5 1) 229 6 (σ5 229 17)) = σ8
    replace hF := q_let e9 hF
    refine q_go C tk_X9_execute [(19, 1)] [] (pc1 := 36) (σ1 := σ8) (lv1 := [(1, .int x3), (0, .ref 229)]) (st1 := [.int 0]) rfl trivial ?_
    exact q_iret C hr (q_dc (z := (36, .ireturn, 1, 0, 0)) tk_X9_execute 20 rfl) (congrArg Prod.snd hF) (congrArg (fun z => q_oi z.1) hF.symm) (Nat.le_of_ble_eq_true rfl) (Nat.le_of_ble_eq_true rfl)
  · rw [if_neg c7] at hF
    refine q_go C tk_X9_execute [(8, 1), (11, 2)] [true] (pc1 := 21) (σ1 := σ5) (lv1 := [(1, .int x3), (0, .ref 229)]) (st1 := [.int 1, .int 0, .ref 229]) rfl ⟨c7, trivial⟩ ?_
    refine q_callV C hfl mw_X9_isThrown mi_X9_isThrown me_X9_isThrown lk_X9_63 (k_X9_isThrownZ 0 1 σ5 (by decide)) (rest := []) rfl rfl rfl (by decide) (by decide) rfl (q_dc (z := (21, .invokevirtual 63, 3, 0, 0)) tk_X9_execute 13 rfl) (Nat.le_of_ble_eq_true rfl) ⟨Nat.le_of_ble_eq_true rfl, Nat.le_of_ble_eq_true rfl⟩ ⟨Nat.le_of_ble_eq_true rfl, Nat.le_of_ble_eq_true rfl⟩ ?_
    refine q_nrm 24 [.int 0] 0 0 rfl rfl rfl rfl ?_
    refine q_go C tk_X9_execute [(14, 1), (21, 1)] [true] (pc1 := 38) (σ1 := (q_up σ5 229 5 0)) (lv1 := [(1, .int x3), (0, .ref 229)]) (st1 := [.ref 229]) rfl ⟨(by decide : (0 : Int32) = 0), trivial⟩ ?_
    generalize e11 : (q_up σ5 229 5 0) = σ10
    replace hF := q_let e11 hF
    refine q_callV C hfl mw_X9_keeps mi_X9_keeps me_X9_keeps lk_X9_56 (k_X9_keeps σ10 (((((hP.2 σ1 e2) x3 e4) σ5 e6).2 c7) σ10 e11).1) (rest := []) rfl rfl rfl (by decide) (by decide) rfl (q_dc (z := (38, .invokevirtual 56, 3, 0, 0)) tk_X9_execute 22 rfl) (Nat.le_of_ble_eq_true rfl) ⟨Nat.le_of_ble_eq_true rfl, Nat.le_of_ble_eq_true rfl⟩ ⟨Nat.le_of_ble_eq_true rfl, Nat.le_of_ble_eq_true rfl⟩ ?_
    refine q_nrm 41 [] 0 0 rfl rfl rfl rfl ?_
    generalize e13 : (F_X9_keeps σ10) = σ12
    replace hF := q_let e13 hF
    refine q_go C tk_X9_execute [(23, 2)] [] (pc1 := 43) (σ1 := σ12) (lv1 := [(2, .int 0), (1, .int x3), (0, .ref 229)]) (st1 := []) rfl trivial ?_
    refine q_lvpick [2, 1, 0] (lv' := [(0, .ref 229), (1, .int x3), (2, .int 0)]) rfl ?_
    exact kl_X9_execute_43   hfl C hr hT 40 x3 0 σ12 rr ((((((hP.2 σ1 e2) x3 e4) σ5 e6).2 c7) σ10 e11).2 σ12 e13) hF
