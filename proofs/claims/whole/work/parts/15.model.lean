/-! The model: loops. -/
def FL_X9_inStatus_4 (q : Int32) : Nat → Int32 → Int32 → q_M → Int32
  | 0, v2, v3, τ => 0
  | nn + 1, v2, v3, τ => (if v3 < (τ 230 3) then (q_L (if (F_X9_of v3 6 τ) = q then 1 else 0) (fun x3 : Int32 => (FL_X9_inStatus_4 q nn (v2 + x3) (v3 + 1) τ))) else v2)
def PL_X9_inStatus_4 (q : Int32) : Nat → Int32 → Int32 → q_M → Prop
  | 0, v2, v3, τ => False
  | nn + 1, v2, v3, τ => ((v3 < (τ 230 3) → ((P_X9_of v3 6 τ) ∧ (True ∧ (∀ x3 : Int32, (if (F_X9_of v3 6 τ) = q then 1 else 0) = x3 → (PL_X9_inStatus_4 q nn (v2 + x3) (v3 + 1) τ))))) ∧ (¬ v3 < (τ 230 3) → True))
set_option maxRecDepth 100000 in
theorem kl_X9_inStatus_4 {α β : Nat → Nat} {D : va_G} {κ : Nat → ClassId} (q : Int32) {p : Program} {l : Launch} {e : Env} {s : State} {m : MethodId} {args : Array Value} {below : List Frame} {meth : Method} {c : Code} {A : Nat → Prop} (hfl : l.flags = flags0) (C : q_Cx α β D κ p s m args meth c cX9_inStatus RX9 F_X9 G_X9 4 A) (hr : meth.sig.returnType = (Option.some Jvm.ClassFile.FieldType.int)) (hT : ∀ x ∈ c.exceptionTable.toList, False) : ∀ (nn : Nat) (v2 : Int32) (v3 : Int32) (τ : q_M) (rr : Int32), PL_X9_inStatus_4 q nn v2 v3 τ → FL_X9_inStatus_4 q nn v2 v3 τ = rr → q_St α β D κ p l e ({ frames := 1, cells := 0, slots := 0, locals := 22 } : Room) s m args below meth c 4 A (vx_MQ below (q_Qc α β D κ A (q_oi rr) τ) (q_XC α β D κ A (q_oi rr) τ) args s 0 0 A) 0 0 τ [(0, .ref 229), (1, .int q), (2, .int v2), (3, .int v3)] 4 [] := by
  intro nn
  induction nn with
  | zero => intro v2 v3 τ rr hP; exact hP.elim
  | succ nn ih =>
    intro v2 v3 τ rr hP hF
    unfold FL_X9_inStatus_4 at hF
    refine q_go C tk_X9_inStatus [(4, 5)] [] (pc1 := 11) (σ1 := τ) (lv1 := [(0, .ref 229), (1, .int q), (2, .int v2), (3, .int v3)]) (st1 := [.int (τ 230 3), .int v3]) rfl ⟨rfl, rfl, (by unfold vp_in; decide +kernel), trivial⟩ ?_
    by_cases c1 : v3 < (τ 230 3)
    · rw [if_pos c1] at hF
      refine q_go C tk_X9_inStatus [(9, 5)] [false] (pc1 := 19) (σ1 := τ) (lv1 := [(0, .ref 229), (1, .int q), (2, .int v2), (3, .int v3)]) (st1 := [.int 6, .int v3, .ref 229, .int v2]) rfl ⟨c1, trivial⟩ ?_
      refine q_callV C hfl mw_X9_of mi_X9_of me_X9_of lk_X9_52 (k_X9_of v3 6 τ (hP.1 c1).1) (rest := [.int v2]) rfl rfl rfl (by decide) (by decide) rfl (q_dc (z := (19, .invokevirtual 52, 3, 0, 0)) tk_X9_inStatus 14 rfl) (Nat.le_of_ble_eq_true rfl) ⟨Nat.le_of_ble_eq_true rfl, Nat.le_of_ble_eq_true rfl⟩ ⟨Nat.le_of_ble_eq_true rfl, Nat.le_of_ble_eq_true rfl⟩ ?_
      refine q_nrm 22 [.int (F_X9_of v3 6 τ), .int v2] 0 0 rfl rfl rfl rfl ?_
      refine q_go C tk_X9_inStatus [(15, 1)] [] (pc1 := 23) (σ1 := τ) (lv1 := [(0, .ref 229), (1, .int q), (2, .int v2), (3, .int v3)]) (st1 := [.int q, .int (F_X9_of v3 6 τ), .int v2]) rfl trivial ?_
      refine q_mrg (v := (if (F_X9_of v3 6 τ) = q then 1 else 0)) (M := 31) (σ1 := τ) (lv1 := [(0, .ref 229), (1, .int q), (2, .int v2), (3, .int v3)]) (st1 := [.int v2]) (fun x3 e4 => ?_) (fun K => ?_)
      · replace hF := q_let e4 hF
        refine q_go C tk_X9_inStatus [(20, 4)] [] (pc1 := 4) (σ1 := τ) (lv1 := [(3, .int (v3 + 1)), (2, .int (v2 + x3)), (0, .ref 229), (1, .int q)]) (st1 := []) rfl trivial ?_
        refine q_lvpick [2, 3, 1, 0] (lv' := [(0, .ref 229), (1, .int q), (2, .int (v2 + x3)), (3, .int (v3 + 1))]) rfl ?_
        exact ih (v2 + x3) (v3 + 1) τ rr ((hP.1 c1).2.2 x3 e4) hF
      · clear hF
        by_cases c2 : (F_X9_of v3 6 τ) = q
        · skip
          refine q_go C tk_X9_inStatus [(16, 3)] [false] (pc1 := 31) (σ1 := τ) (lv1 := [(0, .ref 229), (1, .int q), (2, .int v2), (3, .int v3)]) (st1 := [.int 1, .int v2]) rfl ⟨c2, trivial⟩ ?_
          rw [if_pos c2] at K; exact K
        · skip
          refine q_go C tk_X9_inStatus [(16, 1), (19, 1)] [true] (pc1 := 31) (σ1 := τ) (lv1 := [(0, .ref 229), (1, .int q), (2, .int v2), (3, .int v3)]) (st1 := [.int 0, .int v2]) rfl ⟨c2, trivial⟩ ?_
          rw [if_neg c2] at K; exact K
    · rw [if_neg c1] at hF
      refine q_go C tk_X9_inStatus [(9, 1), (24, 1)] [true] (pc1 := 40) (σ1 := τ) (lv1 := [(0, .ref 229), (1, .int q), (2, .int v2), (3, .int v3)]) (st1 := [.int v2]) rfl ⟨c1, trivial⟩ ?_
      exact q_iret C hr (q_dc (z := (40, .ireturn, 1, 0, 0)) tk_X9_inStatus 25 rfl) rfl (congrArg q_oi hF.symm) (Nat.le_of_ble_eq_true rfl) (Nat.le_of_ble_eq_true rfl)
def F_X9_inStatus (q : Int32) (σ : q_M) : Int32 := (FL_X9_inStatus_4 q 8 0 0 σ)
def P_X9_inStatus (q : Int32) (σ : q_M) : Prop := (PL_X9_inStatus_4 q 8 0 0 σ)
set_option maxRecDepth 100000 in
theorem k_X9_inStatus {α β : Nat → Nat} {D : va_G} {κ : Nat → ClassId} (q : Int32) (σ : q_M) (hP : P_X9_inStatus q σ) : q_C α β D κ yX9_inStatus cX9_inStatus 4 (Option.some Jvm.ClassFile.FieldType.int) 1 22 0 0 [.ref 229, .int q] σ (q_oi (F_X9_inStatus q σ)) σ := by
  refine q_enter (own := RX9) (F := F_X9) (G := G_X9) (by decide +kernel) rfl Fok_X9 Gok_X9 (Nat.le_of_ble_eq_true rfl) (fun p l e s m args below meth c A hfl C hr hT => ?_)
  generalize hF : F_X9_inStatus q σ = rr
  unfold F_X9_inStatus at hF
  refine q_go C tk_X9_inStatus [(0, 4)] [] (pc1 := 4) (σ1 := σ) (lv1 := [(3, .int 0), (2, .int 0), (0, .ref 229), (1, .int q)]) (st1 := []) rfl trivial ?_
  refine q_lvpick [2, 3, 1, 0] (lv' := [(0, .ref 229), (1, .int q), (2, .int 0), (3, .int 0)]) rfl ?_
  exact kl_X9_inStatus_4 q  hfl C hr hT 8 0 0 σ rr hP hF
def FL_X9_copies_3 (f : Nat) (b : Int32) (g : Nat) (a : Int32) : Nat → Int32 → q_M → q_M
  | 0, v4, τ => τ
  | nn + 1, v4, τ => (if v4 < 118 then (FL_X9_copies_3 f b g a nn (v4 + 1) (q_up τ g ((a + v4)).toNatClampNeg (τ f ((b + v4)).toNatClampNeg))) else τ)
def PL_X9_copies_3 (f : Nat) (b : Int32) (g : Nat) (a : Int32) : Nat → Int32 → q_M → Prop
  | 0, v4, τ => False
  | nn + 1, v4, τ => ((v4 < 118 → (vp_in (b + v4) (q_len f) ∧ (vp_in (a + v4) (q_len g) ∧ (PL_X9_copies_3 f b g a nn (v4 + 1) (q_up τ g ((a + v4)).toNatClampNeg (τ f ((b + v4)).toNatClampNeg)))))) ∧ (¬ v4 < 118 → True))
set_option maxRecDepth 100000 in
theorem kl_X9_copies_3 {α β : Nat → Nat} {D : va_G} {κ : Nat → ClassId} (f : Nat) (b : Int32) (g : Nat) (a : Int32) (h_f : q_kd f = 20) (h_g : q_kd g = 20) {p : Program} {l : Launch} {e : Env} {s : State} {m : MethodId} {args : Array Value} {below : List Frame} {meth : Method} {c : Code} {A : Nat → Prop} (hfl : l.flags = flags0) (C : q_Cx α β D κ p s m args meth c cX9_copies RX9 F_X9 G_X9 5 A) (hr : meth.sig.returnType = (Option.none : Option Jvm.ClassFile.FieldType)) (hT : ∀ x ∈ c.exceptionTable.toList, False) : ∀ (nn : Nat) (v4 : Int32) (τ : q_M) (rr : q_M), PL_X9_copies_3 f b g a nn v4 τ → FL_X9_copies_3 f b g a nn v4 τ = rr → q_St α β D κ p l e ({ frames := 0, cells := 0, slots := 0, locals := 0 } : Room) s m args below meth c 5 A (vx_MQ below (q_Qc α β D κ A q_ov rr) (q_XC α β D κ A q_ov rr) args s 0 0 A) 0 0 τ [(0, .ref f), (1, .int b), (2, .ref g), (3, .int a), (4, .int v4)] 3 [] := by
  intro nn
  induction nn with
  | zero => intro v4 τ rr hP; exact hP.elim
  | succ nn ih =>
    intro v4 τ rr hP hF
    unfold FL_X9_copies_3 at hF
    refine q_go C tk_X9_copies [(2, 2)] [] (pc1 := 7) (σ1 := τ) (lv1 := [(0, .ref f), (1, .int b), (2, .ref g), (3, .int a), (4, .int v4)]) (st1 := [.int 118, .int v4]) rfl trivial ?_
    by_cases c1 : v4 < 118
    · rw [if_pos c1] at hF
      refine q_go C tk_X9_copies [(4, 13)] [false] (pc1 := 3) (σ1 := (q_up τ g ((a + v4)).toNatClampNeg (τ f ((b + v4)).toNatClampNeg))) (lv1 := [(4, .int (v4 + 1)), (0, .ref f), (1, .int b), (2, .ref g), (3, .int a)]) (st1 := []) rfl ⟨c1, h_f, (hP.1 c1).1, h_g, (hP.1 c1).2.1, trivial⟩ ?_
      refine q_lvpick [1, 2, 3, 4, 0] (lv' := [(0, .ref f), (1, .int b), (2, .ref g), (3, .int a), (4, .int (v4 + 1))]) rfl ?_
      exact ih (v4 + 1) (q_up τ g ((a + v4)).toNatClampNeg (τ f ((b + v4)).toNatClampNeg)) rr (hP.1 c1).2.2 hF
    · rw [if_neg c1] at hF
      refine q_go C tk_X9_copies [(4, 1)] [true] (pc1 := 28) (σ1 := τ) (lv1 := [(0, .ref f), (1, .int b), (2, .ref g), (3, .int a), (4, .int v4)]) (st1 := []) rfl ⟨c1, trivial⟩ ?_
      exact q_vret C hr (q_dc (z := (28, .return_, 1, 0, 0)) tk_X9_copies 17 rfl) hF rfl (Nat.le_of_ble_eq_true rfl) (Nat.le_of_ble_eq_true rfl)
def F_X9_copies (f : Nat) (b : Int32) (g : Nat) (a : Int32) (σ : q_M) : q_M := (FL_X9_copies_3 f b g a 120 0 σ)
def P_X9_copies (f : Nat) (b : Int32) (g : Nat) (a : Int32) (σ : q_M) : Prop := (PL_X9_copies_3 f b g a 120 0 σ)
set_option maxRecDepth 100000 in
theorem k_X9_copies {α β : Nat → Nat} {D : va_G} {κ : Nat → ClassId} (f : Nat) (b : Int32) (g : Nat) (a : Int32) (σ : q_M) (h_f : q_kd f = 20) (h_g : q_kd g = 20) (hP : P_X9_copies f b g a σ) : q_C α β D κ yX9_copies cX9_copies 5 (Option.none : Option Jvm.ClassFile.FieldType) 0 0 0 0 [.ref f, .int b, .ref g, .int a] σ q_ov (F_X9_copies f b g a σ) := by
  refine q_enter (own := RX9) (F := F_X9) (G := G_X9) (by decide +kernel) rfl Fok_X9 Gok_X9 (Nat.le_of_ble_eq_true rfl) (fun p l e s m args below meth c A hfl C hr hT => ?_)
  generalize hF : F_X9_copies f b g a σ = rr
  unfold F_X9_copies at hF
  refine q_go C tk_X9_copies [(0, 2)] [] (pc1 := 3) (σ1 := σ) (lv1 := [(4, .int 0), (0, .ref f), (1, .int b), (2, .ref g), (3, .int a)]) (st1 := []) rfl trivial ?_
  refine q_lvpick [1, 2, 3, 4, 0] (lv' := [(0, .ref f), (1, .int b), (2, .ref g), (3, .int a), (4, .int 0)]) rfl ?_
  exact kl_X9_copies_3 f b g a h_f h_g hfl C hr hT 120 0 σ rr hP hF
def F_X9_keeps (σ : q_M) : q_M := (q_L (F_X9_copies 230 0 231 0 σ) (fun σ1 : q_M => (q_up σ1 229 5 0)))
def P_X9_keeps (σ : q_M) : Prop := ((P_X9_copies 230 0 231 0 σ) ∧ True)
set_option maxRecDepth 100000 in
theorem k_X9_keeps {α β : Nat → Nat} {D : va_G} {κ : Nat → ClassId} (σ : q_M) (hP : P_X9_keeps σ) : q_C α β D κ yX9_keeps cX9_keeps 1 (Option.none : Option Jvm.ClassFile.FieldType) 1 24 0 0 [.ref 229] σ q_ov (F_X9_keeps σ) := by
  refine q_enter (own := RX9) (F := F_X9) (G := G_X9) (by decide +kernel) rfl Fok_X9 Gok_X9 (Nat.le_of_ble_eq_true rfl) (fun p l e s m args below meth c A hfl C hr hT => ?_)
  generalize hF : F_X9_keeps σ = rr
  unfold F_X9_keeps at hF
  refine q_go C tk_X9_keeps [(0, 6)] [] (pc1 := 10) (σ1 := σ) (lv1 := [(0, .ref 229)]) (st1 := [.int 0, .ref 231, .int 0, .ref 230]) rfl ⟨rfl, rfl, trivial⟩ ?_
  refine q_callS C hfl mw_X9_copies ms_X9_copies lk_X9_41 (k_X9_copies 230 0 231 0 σ rfl rfl hP.1) (rest := []) rfl rfl (q_dc (z := (10, .invokestatic 41, 3, 0, 0)) tk_X9_keeps 6 rfl) (Nat.le_of_ble_eq_true rfl) ⟨Nat.le_of_ble_eq_true rfl, Nat.le_of_ble_eq_true rfl⟩ ⟨Nat.le_of_ble_eq_true rfl, Nat.le_of_ble_eq_true rfl⟩ ?_
  refine q_nrm 13 [] 0 0 rfl rfl rfl rfl ?_
  generalize e2 : (F_X9_copies 230 0 231 0 σ) = σ1
  replace hF := q_let e2 hF
  refine q_go C tk_X9_keeps [(7, 3)] [] (pc1 := 18) (σ1 := (q_up σ1 229 5 0)) (lv1 := [(0, .ref 229)]) (st1 := []) rfl ⟨rfl, trivial⟩ ?_
  exact q_vret C hr (q_dc (z := (18, .return_, 1, 0, 0)) tk_X9_keeps 10 rfl) hF rfl (Nat.le_of_ble_eq_true rfl) (Nat.le_of_ble_eq_true rfl)
def FL_X9_ends_20 (r : Int32) : Nat → Int32 → q_M → (Int32) × q_M
  | 0, v2, τ => (0, τ)
  | nn + 1, v2, τ => (if v2 < 8 then (q_L (F_X9_copies 233 (118 * v2) 233 (118 * (v2 - 1)) τ) (fun σ6 : q_M => (FL_X9_ends_20 r nn (v2 + 1) σ6))) else (q_L (q_up τ 229 4 ((τ 229 4) - 1)) (fun σ8 : q_M => (q_L (F_X9_copies 231 0 233 (118 * ((τ 229 4) - 1)) σ8) (fun σ10 : q_M => (r, (q_up σ10 229 4 ((σ10 229 4) + 1))))))))
def PL_X9_ends_20 (r : Int32) : Nat → Int32 → q_M → Prop
  | 0, v2, τ => False
  | nn + 1, v2, τ => ((v2 < 8 → ((P_X9_copies 233 (118 * v2) 233 (118 * (v2 - 1)) τ) ∧ (∀ σ6 : q_M, (F_X9_copies 233 (118 * v2) 233 (118 * (v2 - 1)) τ) = σ6 → (PL_X9_ends_20 r nn (v2 + 1) σ6)))) ∧ (¬ v2 < 8 → (∀ σ8 : q_M, (q_up τ 229 4 ((τ 229 4) - 1)) = σ8 → ((P_X9_copies 231 0 233 (118 * ((τ 229 4) - 1)) σ8) ∧ True))))
set_option maxRecDepth 100000 in
theorem kl_X9_ends_20 {α β : Nat → Nat} {D : va_G} {κ : Nat → ClassId} (r : Int32) {p : Program} {l : Launch} {e : Env} {s : State} {m : MethodId} {args : Array Value} {below : List Frame} {meth : Method} {c : Code} {A : Nat → Prop} (hfl : l.flags = flags0) (C : q_Cx α β D κ p s m args meth c cX9_ends RX9 F_X9 G_X9 3 A) (hr : meth.sig.returnType = (Option.some Jvm.ClassFile.FieldType.int)) (hT : ∀ x ∈ c.exceptionTable.toList, False) : ∀ (nn : Nat) (v2 : Int32) (τ : q_M) (rr : (Int32) × q_M), PL_X9_ends_20 r nn v2 τ → FL_X9_ends_20 r nn v2 τ = rr → q_St α β D κ p l e ({ frames := 1, cells := 0, slots := 0, locals := 24 } : Room) s m args below meth c 3 A (vx_MQ below (q_Qc α β D κ A (q_oi rr.1) rr.2) (q_XC α β D κ A (q_oi rr.1) rr.2) args s 0 0 A) 0 0 τ [(0, .ref 229), (1, .int r), (2, .int v2)] 20 [] := by
  intro nn
  induction nn with
  | zero => intro v2 τ rr hP; exact hP.elim
  | succ nn ih =>
    intro v2 τ rr hP hF
    unfold FL_X9_ends_20 at hF
    refine q_go C tk_X9_ends [(11, 2)] [] (pc1 := 23) (σ1 := τ) (lv1 := [(0, .ref 229), (1, .int r), (2, .int v2)]) (st1 := [.int 8, .int v2]) rfl trivial ?_
    by_cases c5 : v2 < 8
    · rw [if_pos c5] at hF
      refine q_go C tk_X9_ends [(13, 13)] [false] (pc1 := 44) (σ1 := τ) (lv1 := [(0, .ref 229), (1, .int r), (2, .int v2)]) (st1 := [.int (118 * (v2 - 1)), .ref 233, .int (118 * v2), .ref 233]) rfl ⟨c5, rfl, rfl, trivial⟩ ?_
      refine q_callS C hfl mw_X9_copies ms_X9_copies lk_X9_41 (k_X9_copies 233 (118 * v2) 233 (118 * (v2 - 1)) τ rfl rfl (hP.1 c5).1) (rest := []) rfl rfl (q_dc (z := (44, .invokestatic 41, 3, 0, 0)) tk_X9_ends 26 rfl) (Nat.le_of_ble_eq_true rfl) ⟨Nat.le_of_ble_eq_true rfl, Nat.le_of_ble_eq_true rfl⟩ ⟨Nat.le_of_ble_eq_true rfl, Nat.le_of_ble_eq_true rfl⟩ ?_
      refine q_nrm 47 [] 0 0 rfl rfl rfl rfl ?_
      generalize e7 : (F_X9_copies 233 (118 * v2) 233 (118 * (v2 - 1)) τ) = σ6
      replace hF := q_let e7 hF
      refine q_go C tk_X9_ends [(27, 2)] [] (pc1 := 20) (σ1 := σ6) (lv1 := [(2, .int (v2 + 1)), (0, .ref 229), (1, .int r)]) (st1 := []) rfl trivial ?_
      refine q_lvpick [1, 2, 0] (lv' := [(0, .ref 229), (1, .int r), (2, .int (v2 + 1))]) rfl ?_
      exact ih (v2 + 1) σ6 rr ((hP.1 c5).2 σ6 e7) hF
    · rw [if_neg c5] at hF
      refine q_go C tk_X9_ends [(13, 1), (29, 15)] [true] (pc1 := 79) (σ1 := (q_up τ 229 4 ((τ 229 4) - 1))) (lv1 := [(0, .ref 229), (1, .int r), (2, .int v2)]) (st1 := [.int (118 * ((τ 229 4) - 1)), .ref 233, .int 0, .ref 231]) rfl ⟨c5, rfl, rfl, rfl, rfl, rfl, trivial⟩ ?_
      generalize e9 : (q_up τ 229 4 ((τ 229 4) - 1)) = σ8
      replace hF := q_let e9 hF
      refine q_callS C hfl mw_X9_copies ms_X9_copies lk_X9_41 (k_X9_copies 231 0 233 (118 * ((τ 229 4) - 1)) σ8 rfl rfl ((hP.2 c5) σ8 e9).1) (rest := []) rfl rfl (q_dc (z := (79, .invokestatic 41, 3, 0, 0)) tk_X9_ends 44 rfl) (Nat.le_of_ble_eq_true rfl) ⟨Nat.le_of_ble_eq_true rfl, Nat.le_of_ble_eq_true rfl⟩ ⟨Nat.le_of_ble_eq_true rfl, Nat.le_of_ble_eq_true rfl⟩ ?_
      refine q_nrm 82 [] 0 0 rfl rfl rfl rfl ?_
      generalize e11 : (F_X9_copies 231 0 233 (118 * ((τ 229 4) - 1)) σ8) = σ10
      replace hF := q_let e11 hF
      refine q_go C tk_X9_ends [(45, 7)] [] (pc1 := 93) (σ1 := (q_up σ10 229 4 ((σ10 229 4) + 1))) (lv1 := [(0, .ref 229), (1, .int r), (2, .int v2)]) (st1 := [.int r]) rfl ⟨rfl, rfl, trivial⟩ ?_
      exact q_iret C hr (q_dc (z := (93, .ireturn, 1, 0, 0)) tk_X9_ends 52 rfl) (congrArg Prod.snd hF) (congrArg (fun z => q_oi z.1) hF.symm) (Nat.le_of_ble_eq_true rfl) (Nat.le_of_ble_eq_true rfl)
def F_X9_ends (r : Int32) (σ : q_M) : (Int32) × q_M := (if (σ 229 5) = 0 then (if (σ 229 4) = 8 then (FL_X9_ends_20 r 10 1 σ) else (q_L (F_X9_copies 231 0 233 (118 * (σ 229 4)) σ) (fun σ3 : q_M => (r, (q_up σ3 229 4 ((σ3 229 4) + 1)))))) else (0, σ))
def P_X9_ends (r : Int32) (σ : q_M) : Prop := (((σ 229 5) = 0 → (((σ 229 4) = 8 → (PL_X9_ends_20 r 10 1 σ)) ∧ (¬ (σ 229 4) = 8 → ((P_X9_copies 231 0 233 (118 * (σ 229 4)) σ) ∧ True)))) ∧ (¬ (σ 229 5) = 0 → True))
set_option maxRecDepth 100000 in
theorem k_X9_ends {α β : Nat → Nat} {D : va_G} {κ : Nat → ClassId} (r : Int32) (σ : q_M) (hP : P_X9_ends r σ) : q_C α β D κ yX9_ends cX9_ends 3 (Option.some Jvm.ClassFile.FieldType.int) 1 24 0 0 [.ref 229, .int r] σ (q_oi (F_X9_ends r σ).1) (F_X9_ends r σ).2 := by
  refine q_enter (own := RX9) (F := F_X9) (G := G_X9) (by decide +kernel) rfl Fok_X9 Gok_X9 (Nat.le_of_ble_eq_true rfl) (fun p l e s m args below meth c A hfl C hr hT => ?_)
  generalize hF : F_X9_ends r σ = rr
  unfold F_X9_ends at hF
  refine q_go C tk_X9_ends [(0, 2)] [] (pc1 := 4) (σ1 := σ) (lv1 := [(0, .ref 229), (1, .int r)]) (st1 := [.int (σ 229 5)]) rfl ⟨rfl, trivial⟩ ?_
  by_cases c1 : (σ 229 5) = 0
  · rw [if_pos c1] at hF
    refine q_go C tk_X9_ends [(2, 1), (5, 3)] [true] (pc1 := 15) (σ1 := σ) (lv1 := [(0, .ref 229), (1, .int r)]) (st1 := [.int 8, .int (σ 229 4)]) rfl ⟨c1, rfl, trivial⟩ ?_
    by_cases c2 : (σ 229 4) = 8
    · rw [if_pos c2] at hF
      refine q_go C tk_X9_ends [(8, 3)] [false] (pc1 := 20) (σ1 := σ) (lv1 := [(2, .int 1), (0, .ref 229), (1, .int r)]) (st1 := []) rfl ⟨c2, trivial⟩ ?_
      refine q_lvpick [1, 2, 0] (lv' := [(0, .ref 229), (1, .int r), (2, .int 1)]) rfl ?_
      exact kl_X9_ends_20 r  hfl C hr hT 10 1 σ rr ((hP.1 c1).1 c2) hF
    · rw [if_neg c2] at hF
      refine q_go C tk_X9_ends [(8, 1), (35, 9)] [true] (pc1 := 79) (σ1 := σ) (lv1 := [(0, .ref 229), (1, .int r)]) (st1 := [.int (118 * (σ 229 4)), .ref 233, .int 0, .ref 231]) rfl ⟨c2, rfl, rfl, rfl, trivial⟩ ?_
      refine q_callS C hfl mw_X9_copies ms_X9_copies lk_X9_41 (k_X9_copies 231 0 233 (118 * (σ 229 4)) σ rfl rfl ((hP.1 c1).2 c2).1) (rest := []) rfl rfl (q_dc (z := (79, .invokestatic 41, 3, 0, 0)) tk_X9_ends 44 rfl) (Nat.le_of_ble_eq_true rfl) ⟨Nat.le_of_ble_eq_true rfl, Nat.le_of_ble_eq_true rfl⟩ ⟨Nat.le_of_ble_eq_true rfl, Nat.le_of_ble_eq_true rfl⟩ ?_
      refine q_nrm 82 [] 0 0 rfl rfl rfl rfl ?_
      generalize e4 : (F_X9_copies 231 0 233 (118 * (σ 229 4)) σ) = σ3
      replace hF := q_let e4 hF
      refine q_go C tk_X9_ends [(45, 7)] [] (pc1 := 93) (σ1 := (q_up σ3 229 4 ((σ3 229 4) + 1))) (lv1 := [(0, .ref 229), (1, .int r)]) (st1 := [.int r]) rfl ⟨rfl, rfl, trivial⟩ ?_
      exact q_iret C hr (q_dc (z := (93, .ireturn, 1, 0, 0)) tk_X9_ends 52 rfl) (congrArg Prod.snd hF) (congrArg (fun z => q_oi z.1) hF.symm) (Nat.le_of_ble_eq_true rfl) (Nat.le_of_ble_eq_true rfl)
  · rw [if_neg c1] at hF
    refine q_go C tk_X9_ends [(2, 2)] [false] (pc1 := 8) (σ1 := σ) (lv1 := [(0, .ref 229), (1, .int r)]) (st1 := [.int 0]) rfl ⟨c1, trivial⟩ ?_
    exact q_iret C hr (q_dc (z := (8, .ireturn, 1, 0, 0)) tk_X9_ends 4 rfl) (congrArg Prod.snd hF) (congrArg (fun z => q_oi z.1) hF.symm) (Nat.le_of_ble_eq_true rfl) (Nat.le_of_ble_eq_true rfl)
def FL_X9_addTeam_46  : Nat → Int32 → Int32 → q_M → (Int32) × q_M
  | 0, v1, v2, τ => (0, τ)
  | nn + 1, v1, v2, τ => (if v2 < 4 then (q_L (F_X9_sets v1 (0 + v2) 60 τ) (fun σ6 : q_M => (FL_X9_addTeam_46  nn v1 (v2 + 1) σ6))) else (q_L (F_X9_sets v1 4 (v1 + 1) τ) (fun σ8 : q_M => (q_L (q_up σ8 230 3 ((σ8 230 3) + 1)) (fun σ10 : q_M => (q_L (F_X9_ends v1 σ10).2 (fun σ12 : q_M => ((F_X9_ends v1 σ10).1, σ12))))))))
def PL_X9_addTeam_46  : Nat → Int32 → Int32 → q_M → Prop
  | 0, v1, v2, τ => False
  | nn + 1, v1, v2, τ => ((v2 < 4 → ((P_X9_sets v1 (0 + v2) 60 τ) ∧ (∀ σ6 : q_M, (F_X9_sets v1 (0 + v2) 60 τ) = σ6 → (PL_X9_addTeam_46  nn v1 (v2 + 1) σ6)))) ∧ (¬ v2 < 4 → ((P_X9_sets v1 4 (v1 + 1) τ) ∧ (∀ σ8 : q_M, (F_X9_sets v1 4 (v1 + 1) τ) = σ8 → (∀ σ10 : q_M, (q_up σ8 230 3 ((σ8 230 3) + 1)) = σ10 → ((P_X9_ends v1 σ10) ∧ True))))))
set_option maxRecDepth 100000 in
theorem kl_X9_addTeam_46 {α β : Nat → Nat} {D : va_G} {κ : Nat → ClassId}  {p : Program} {l : Launch} {e : Env} {s : State} {m : MethodId} {args : Array Value} {below : List Frame} {meth : Method} {c : Code} {A : Nat → Prop} (hfl : l.flags = flags0) (C : q_Cx α β D κ p s m args meth c cX9_addTeam RX9 F_X9 G_X9 3 A) (hr : meth.sig.returnType = (Option.some Jvm.ClassFile.FieldType.int)) (hT : ∀ x ∈ c.exceptionTable.toList, False) : ∀ (nn : Nat) (v1 : Int32) (v2 : Int32) (τ : q_M) (rr : (Int32) × q_M), PL_X9_addTeam_46  nn v1 v2 τ → FL_X9_addTeam_46  nn v1 v2 τ = rr → q_St α β D κ p l e ({ frames := 2, cells := 0, slots := 0, locals := 46 } : Room) s m args below meth c 3 A (vx_MQ below (q_Qc α β D κ A (q_oi rr.1) rr.2) (q_XC α β D κ A (q_oi rr.1) rr.2) args s 0 0 A) 0 0 τ [(0, .ref 229), (1, .int v1), (2, .int v2)] 46 [] := by
  intro nn
  induction nn with
  | zero => intro v1 v2 τ rr hP; exact hP.elim
  | succ nn ih =>
    intro v1 v2 τ rr hP hF
    unfold FL_X9_addTeam_46 at hF
    refine q_go C tk_X9_addTeam [(27, 2)] [] (pc1 := 48) (σ1 := τ) (lv1 := [(0, .ref 229), (1, .int v1), (2, .int v2)]) (st1 := [.int 4, .int v2]) rfl trivial ?_
    by_cases c5 : v2 < 4
    · rw [if_pos c5] at hF
      refine q_go C tk_X9_addTeam [(29, 7)] [false] (pc1 := 58) (σ1 := τ) (lv1 := [(0, .ref 229), (1, .int v1), (2, .int v2)]) (st1 := [.int 60, .int (0 + v2), .int v1, .ref 229]) rfl ⟨c5, trivial⟩ ?_
      refine q_callV C hfl mw_X9_sets mi_X9_sets me_X9_sets lk_X9_67 (k_X9_sets v1 (0 + v2) 60 τ (hP.1 c5).1) (rest := []) rfl rfl rfl (by decide) (by decide) rfl (q_dc (z := (58, .invokevirtual 67, 3, 0, 0)) tk_X9_addTeam 36 rfl) (Nat.le_of_ble_eq_true rfl) ⟨Nat.le_of_ble_eq_true rfl, Nat.le_of_ble_eq_true rfl⟩ ⟨Nat.le_of_ble_eq_true rfl, Nat.le_of_ble_eq_true rfl⟩ ?_
      refine q_nrm 61 [] 0 0 rfl rfl rfl rfl ?_
      generalize e7 : (F_X9_sets v1 (0 + v2) 60 τ) = σ6
      replace hF := q_let e7 hF
      refine q_go C tk_X9_addTeam [(37, 2)] [] (pc1 := 46) (σ1 := σ6) (lv1 := [(2, .int (v2 + 1)), (0, .ref 229), (1, .int v1)]) (st1 := []) rfl trivial ?_
      refine q_lvpick [1, 2, 0] (lv' := [(0, .ref 229), (1, .int v1), (2, .int (v2 + 1))]) rfl ?_
      exact ih v1 (v2 + 1) σ6 rr ((hP.1 c5).2 σ6 e7) hF
    · rw [if_neg c5] at hF
      refine q_go C tk_X9_addTeam [(29, 1), (39, 6)] [true] (pc1 := 73) (σ1 := τ) (lv1 := [(0, .ref 229), (1, .int v1), (2, .int v2)]) (st1 := [.int (v1 + 1), .int 4, .int v1, .ref 229]) rfl ⟨c5, trivial⟩ ?_
      refine q_callV C hfl mw_X9_sets mi_X9_sets me_X9_sets lk_X9_67 (k_X9_sets v1 4 (v1 + 1) τ (hP.2 c5).1) (rest := []) rfl rfl rfl (by decide) (by decide) rfl (q_dc (z := (73, .invokevirtual 67, 3, 0, 0)) tk_X9_addTeam 45 rfl) (Nat.le_of_ble_eq_true rfl) ⟨Nat.le_of_ble_eq_true rfl, Nat.le_of_ble_eq_true rfl⟩ ⟨Nat.le_of_ble_eq_true rfl, Nat.le_of_ble_eq_true rfl⟩ ?_
      refine q_nrm 76 [] 0 0 rfl rfl rfl rfl ?_
      generalize e9 : (F_X9_sets v1 4 (v1 + 1) τ) = σ8
      replace hF := q_let e9 hF
      refine q_go C tk_X9_addTeam [(46, 10)] [] (pc1 := 88) (σ1 := (q_up σ8 230 3 ((σ8 230 3) + 1))) (lv1 := [(0, .ref 229), (1, .int v1), (2, .int v2)]) (st1 := [.int v1, .ref 229]) rfl ⟨rfl, rfl, (by unfold vp_in; decide +kernel), rfl, (by unfold vp_in; decide +kernel), trivial⟩ ?_
      generalize e11 : (q_up σ8 230 3 ((σ8 230 3) + 1)) = σ10
      replace hF := q_let e11 hF
      refine q_callV C hfl mw_X9_ends mi_X9_ends me_X9_ends lk_X9_71 (k_X9_ends v1 σ10 (((hP.2 c5).2 σ8 e9) σ10 e11).1) (rest := []) rfl rfl rfl (by decide) (by decide) rfl (q_dc (z := (88, .invokevirtual 71, 3, 0, 0)) tk_X9_addTeam 56 rfl) (Nat.le_of_ble_eq_true rfl) ⟨Nat.le_of_ble_eq_true rfl, Nat.le_of_ble_eq_true rfl⟩ ⟨Nat.le_of_ble_eq_true rfl, Nat.le_of_ble_eq_true rfl⟩ ?_
      refine q_nrm 91 [.int (F_X9_ends v1 σ10).1] 0 0 rfl rfl rfl rfl ?_
      generalize e13 : (F_X9_ends v1 σ10).2 = σ12
      replace hF := q_let e13 hF
      exact q_iret C hr (q_dc (z := (91, .ireturn, 1, 0, 0)) tk_X9_addTeam 57 rfl) (congrArg Prod.snd hF) (congrArg (fun z => q_oi z.1) hF.symm) (Nat.le_of_ble_eq_true rfl) (Nat.le_of_ble_eq_true rfl)
def F_X9_addTeam (σ : q_M) : (Int32) × q_M := (q_L (F_X9_keeps σ) (fun σ1 : q_M => (if (F_X9_isUnprepared σ1) = 0 then (if (σ1 230 3) = 6 then (0, (q_up σ1 229 5 1)) else (FL_X9_addTeam_46  6 (σ1 230 3) 0 (q_up σ1 229 5 0))) else (0, (q_up σ1 229 5 1)))))
def P_X9_addTeam (σ : q_M) : Prop := ((P_X9_keeps σ) ∧ (∀ σ1 : q_M, (F_X9_keeps σ) = σ1 → (((F_X9_isUnprepared σ1) = 0 → (((σ1 230 3) = 6 → True) ∧ (¬ (σ1 230 3) = 6 → (PL_X9_addTeam_46  6 (σ1 230 3) 0 (q_up σ1 229 5 0))))) ∧ (¬ (F_X9_isUnprepared σ1) = 0 → True))))
set_option maxRecDepth 100000 in
theorem k_X9_addTeam {α β : Nat → Nat} {D : va_G} {κ : Nat → ClassId} (σ : q_M) (hP : P_X9_addTeam σ) : q_C α β D κ yX9_addTeam cX9_addTeam 3 (Option.some Jvm.ClassFile.FieldType.int) 2 46 0 0 [.ref 229] σ (q_oi (F_X9_addTeam σ).1) (F_X9_addTeam σ).2 := by
  refine q_enter (own := RX9) (F := F_X9) (G := G_X9) (by decide +kernel) rfl Fok_X9 Gok_X9 (Nat.le_of_ble_eq_true rfl) (fun p l e s m args below meth c A hfl C hr hT => ?_)
  generalize hF : F_X9_addTeam σ = rr
  unfold F_X9_addTeam at hF
  refine q_go C tk_X9_addTeam [(0, 1)] [] (pc1 := 1) (σ1 := σ) (lv1 := [(0, .ref 229)]) (st1 := [.ref 229]) rfl trivial ?_
  refine q_callV C hfl mw_X9_keeps mi_X9_keeps me_X9_keeps lk_X9_56 (k_X9_keeps σ hP.1) (rest := []) rfl rfl rfl (by decide) (by decide) rfl (q_dc (z := (1, .invokevirtual 56, 3, 0, 0)) tk_X9_addTeam 1 rfl) (Nat.le_of_ble_eq_true rfl) ⟨Nat.le_of_ble_eq_true rfl, Nat.le_of_ble_eq_true rfl⟩ ⟨Nat.le_of_ble_eq_true rfl, Nat.le_of_ble_eq_true rfl⟩ ?_
  refine q_nrm 4 [] 0 0 rfl rfl rfl rfl ?_
  generalize e2 : (F_X9_keeps σ) = σ1
  replace hF := q_let e2 hF
  refine q_go C tk_X9_addTeam [(2, 2)] [] (pc1 := 6) (σ1 := σ1) (lv1 := [(0, .ref 229)]) (st1 := [.ref 229, .ref 229]) rfl trivial ?_
  refine q_callV C hfl mw_X9_isUnprepared mi_X9_isUnprepared me_X9_isUnprepared lk_X9_59 (k_X9_isUnprepared σ1) (rest := [.ref 229]) rfl rfl rfl (by decide) (by decide) rfl (q_dc (z := (6, .invokevirtual 59, 3, 0, 0)) tk_X9_addTeam 4 rfl) (Nat.le_of_ble_eq_true rfl) ⟨Nat.le_of_ble_eq_true rfl, Nat.le_of_ble_eq_true rfl⟩ ⟨Nat.le_of_ble_eq_true rfl, Nat.le_of_ble_eq_true rfl⟩ ?_
  refine q_nrm 9 [.int (F_X9_isUnprepared σ1), .ref 229] 0 0 rfl rfl rfl rfl ?_
  by_cases c3 : (F_X9_isUnprepared σ1) = 0
  · rw [if_pos c3] at hF
    refine q_go C tk_X9_addTeam [(5, 6)] [false] (pc1 := 20) (σ1 := σ1) (lv1 := [(0, .ref 229)]) (st1 := [.int 6, .int (σ1 230 3), .ref 229]) rfl ⟨c3, rfl, rfl, (by unfold vp_in; decide +kernel), trivial⟩ ?_
    by_cases c4 : (σ1 230 3) = 6
    · rw [if_pos c4] at hF
      refine q_go C tk_X9_addTeam [(11, 3), (15, 1)] [false] (pc1 := 29) (σ1 := σ1) (lv1 := [(0, .ref 229)]) (st1 := [.int 1, .int 1, .ref 229]) rfl ⟨c4, trivial⟩ ?_
      refine q_callV C hfl mw_X9_isThrown mi_X9_isThrown me_X9_isThrown lk_X9_63 (k_X9_isThrownN 1 1 σ1 (by decide) (by decide)) (rest := []) rfl rfl rfl (by decide) (by decide) rfl (q_dc (z := (29, .invokevirtual 63, 3, 0, 0)) tk_X9_addTeam 16 rfl) (Nat.le_of_ble_eq_true rfl) ⟨Nat.le_of_ble_eq_true rfl, Nat.le_of_ble_eq_true rfl⟩ ⟨Nat.le_of_ble_eq_true rfl, Nat.le_of_ble_eq_true rfl⟩ ?_
      refine q_nrm 32 [.int 1] 0 0 rfl rfl rfl rfl ?_
      refine q_go C tk_X9_addTeam [(17, 2)] [false] (pc1 := 36) (σ1 := (q_up σ1 229 5 1)) (lv1 := [(0, .ref 229)]) (st1 := [.int 0]) rfl ⟨(by decide : ¬ (1 : Int32) = 0), trivial⟩ ?_
      exact q_iret C hr (q_dc (z := (36, .ireturn, 1, 0, 0)) tk_X9_addTeam 19 rfl) (congrArg Prod.snd hF) (congrArg (fun z => q_oi z.1) hF.symm) (Nat.le_of_ble_eq_true rfl) (Nat.le_of_ble_eq_true rfl)
    · rw [if_neg c4] at hF
      refine q_go C tk_X9_addTeam [(11, 1), (14, 2)] [true] (pc1 := 29) (σ1 := σ1) (lv1 := [(0, .ref 229)]) (st1 := [.int 1, .int 0, .ref 229]) rfl ⟨c4, trivial⟩ ?_
      refine q_callV C hfl mw_X9_isThrown mi_X9_isThrown me_X9_isThrown lk_X9_63 (k_X9_isThrownZ 0 1 σ1 (by decide)) (rest := []) rfl rfl rfl (by decide) (by decide) rfl (q_dc (z := (29, .invokevirtual 63, 3, 0, 0)) tk_X9_addTeam 16 rfl) (Nat.le_of_ble_eq_true rfl) ⟨Nat.le_of_ble_eq_true rfl, Nat.le_of_ble_eq_true rfl⟩ ⟨Nat.le_of_ble_eq_true rfl, Nat.le_of_ble_eq_true rfl⟩ ?_
      refine q_nrm 32 [.int 0] 0 0 rfl rfl rfl rfl ?_
      refine q_go C tk_X9_addTeam [(17, 1), (20, 7)] [true] (pc1 := 46) (σ1 := (q_up σ1 229 5 0)) (lv1 := [(2, .int 0), (1, .int (σ1 230 3)), (0, .ref 229)]) (st1 := []) rfl ⟨(by decide : (0 : Int32) = 0), rfl, rfl, (by unfold vp_in; decide +kernel), trivial⟩ ?_
      refine q_lvpick [2, 1, 0] (lv' := [(0, .ref 229), (1, .int (σ1 230 3)), (2, .int 0)]) rfl ?_
      exact kl_X9_addTeam_46   hfl C hr hT 6 (σ1 230 3) 0 (q_up σ1 229 5 0) rr (((hP.2 σ1 e2).1 c3).2 c4) hF
  · rw [if_neg c3] at hF
    refine q_go C tk_X9_addTeam [(5, 1), (12, 2), (15, 1)] [true] (pc1 := 29) (σ1 := σ1) (lv1 := [(0, .ref 229)]) (st1 := [.int 1, .int 1, .ref 229]) rfl ⟨c3, trivial⟩ ?_
    refine q_callV C hfl mw_X9_isThrown mi_X9_isThrown me_X9_isThrown lk_X9_63 (k_X9_isThrownN 1 1 σ1 (by decide) (by decide)) (rest := []) rfl rfl rfl (by decide) (by decide) rfl (q_dc (z := (29, .invokevirtual 63, 3, 0, 0)) tk_X9_addTeam 16 rfl) (Nat.le_of_ble_eq_true rfl) ⟨Nat.le_of_ble_eq_true rfl, Nat.le_of_ble_eq_true rfl⟩ ⟨Nat.le_of_ble_eq_true rfl, Nat.le_of_ble_eq_true rfl⟩ ?_
    refine q_nrm 32 [.int 1] 0 0 rfl rfl rfl rfl ?_
    refine q_go C tk_X9_addTeam [(17, 2)] [false] (pc1 := 36) (σ1 := (q_up σ1 229 5 1)) (lv1 := [(0, .ref 229)]) (st1 := [.int 0]) rfl ⟨(by decide : ¬ (1 : Int32) = 0), trivial⟩ ?_
    exact q_iret C hr (q_dc (z := (36, .ireturn, 1, 0, 0)) tk_X9_addTeam 19 rfl) (congrArg Prod.snd hF) (congrArg (fun z => q_oi z.1) hF.symm) (Nat.le_of_ble_eq_true rfl) (Nat.le_of_ble_eq_true rfl)
def F_X9_setSpeed (t : Int32) (g : Int32) (v : Int32) (σ : q_M) : (Int32) × q_M := (q_L (F_X9_keeps σ) (fun σ1 : q_M => (q_L (F_X9_speeds t g v σ1).2 (fun σ3 : q_M => (q_L (F_X9_ends (F_X9_speeds t g v σ1).1 σ3).2 (fun σ5 : q_M => ((F_X9_ends (F_X9_speeds t g v σ1).1 σ3).1, σ5)))))))
def P_X9_setSpeed (t : Int32) (g : Int32) (v : Int32) (σ : q_M) : Prop := ((P_X9_keeps σ) ∧ (∀ σ1 : q_M, (F_X9_keeps σ) = σ1 → ((P_X9_speeds t g v σ1) ∧ (∀ σ3 : q_M, (F_X9_speeds t g v σ1).2 = σ3 → ((P_X9_ends (F_X9_speeds t g v σ1).1 σ3) ∧ True)))))
set_option maxRecDepth 100000 in
theorem k_X9_setSpeed {α β : Nat → Nat} {D : va_G} {κ : Nat → ClassId} (t : Int32) (g : Int32) (v : Int32) (σ : q_M) (hP : P_X9_setSpeed t g v σ) : q_C α β D κ yX9_setSpeed cX9_setSpeed 4 (Option.some Jvm.ClassFile.FieldType.int) 3 67 0 0 [.ref 229, .int t, .int g, .int v] σ (q_oi (F_X9_setSpeed t g v σ).1) (F_X9_setSpeed t g v σ).2 := by
  refine q_enter (own := RX9) (F := F_X9) (G := G_X9) (by decide +kernel) rfl Fok_X9 Gok_X9 (Nat.le_of_ble_eq_true rfl) (fun p l e s m args below meth c A hfl C hr hT => ?_)
  generalize hF : F_X9_setSpeed t g v σ = rr
  unfold F_X9_setSpeed at hF
  refine q_go C tk_X9_setSpeed [(0, 1)] [] (pc1 := 1) (σ1 := σ) (lv1 := [(0, .ref 229), (1, .int t), (2, .int g), (3, .int v)]) (st1 := [.ref 229]) rfl trivial ?_
  refine q_callV C hfl mw_X9_keeps mi_X9_keeps me_X9_keeps lk_X9_56 (k_X9_keeps σ hP.1) (rest := []) rfl rfl rfl (by decide) (by decide) rfl (q_dc (z := (1, .invokevirtual 56, 3, 0, 0)) tk_X9_setSpeed 1 rfl) (Nat.le_of_ble_eq_true rfl) ⟨Nat.le_of_ble_eq_true rfl, Nat.le_of_ble_eq_true rfl⟩ ⟨Nat.le_of_ble_eq_true rfl, Nat.le_of_ble_eq_true rfl⟩ ?_
  refine q_nrm 4 [] 0 0 rfl rfl rfl rfl ?_
  generalize e2 : (F_X9_keeps σ) = σ1
  replace hF := q_let e2 hF
  refine q_go C tk_X9_setSpeed [(2, 5)] [] (pc1 := 9) (σ1 := σ1) (lv1 := [(0, .ref 229), (1, .int t), (2, .int g), (3, .int v)]) (st1 := [.int v, .int g, .int t, .ref 229, .ref 229]) rfl trivial ?_
  refine q_callV C hfl mw_X9_speeds mi_X9_speeds me_X9_speeds lk_X9_82 (k_X9_speeds t g v σ1 (hP.2 σ1 e2).1) (rest := [.ref 229]) rfl rfl rfl (by decide) (by decide) rfl (q_dc (z := (9, .invokevirtual 82, 3, 0, 0)) tk_X9_setSpeed 7 rfl) (Nat.le_of_ble_eq_true rfl) ⟨Nat.le_of_ble_eq_true rfl, Nat.le_of_ble_eq_true rfl⟩ ⟨Nat.le_of_ble_eq_true rfl, Nat.le_of_ble_eq_true rfl⟩ ?_
  refine q_nrm 12 [.int (F_X9_speeds t g v σ1).1, .ref 229] 0 0 rfl rfl rfl rfl ?_
  generalize e4 : (F_X9_speeds t g v σ1).2 = σ3
  replace hF := q_let e4 hF
  refine q_callV C hfl mw_X9_ends mi_X9_ends me_X9_ends lk_X9_71 (k_X9_ends (F_X9_speeds t g v σ1).1 σ3 ((hP.2 σ1 e2).2 σ3 e4).1) (rest := []) rfl rfl rfl (by decide) (by decide) rfl (q_dc (z := (12, .invokevirtual 71, 3, 0, 0)) tk_X9_setSpeed 8 rfl) (Nat.le_of_ble_eq_true rfl) ⟨Nat.le_of_ble_eq_true rfl, Nat.le_of_ble_eq_true rfl⟩ ⟨Nat.le_of_ble_eq_true rfl, Nat.le_of_ble_eq_true rfl⟩ ?_
  refine q_nrm 15 [.int (F_X9_ends (F_X9_speeds t g v σ1).1 σ3).1] 0 0 rfl rfl rfl rfl ?_
  generalize e6 : (F_X9_ends (F_X9_speeds t g v σ1).1 σ3).2 = σ5
  replace hF := q_let e6 hF
  exact q_iret C hr (q_dc (z := (15, .ireturn, 1, 0, 0)) tk_X9_setSpeed 9 rfl) (congrArg Prod.snd hF) (congrArg (fun z => q_oi z.1) hF.symm) (Nat.le_of_ble_eq_true rfl) (Nat.le_of_ble_eq_true rfl)
def F_X9_setLength (v : Int32) (σ : q_M) : (Int32) × q_M := (q_L (F_X9_keeps σ) (fun σ1 : q_M => (if (F_X9_isIn v 400 4000 σ1) = 0 then (0, (q_up σ1 229 5 1)) else (q_L (q_up σ1 229 5 0) (fun σ4 : q_M => (if (F_X9_isUnprepared σ4) = 0 then (q_L (q_up (q_up σ4 229 5 0) 230 0 v) (fun σ7 : q_M => (q_L (F_X9_ends (σ4 230 0) σ7).2 (fun σ9 : q_M => ((F_X9_ends (σ4 230 0) σ7).1, σ9))))) else (0, (q_up σ4 229 5 2))))))))
def P_X9_setLength (v : Int32) (σ : q_M) : Prop := ((P_X9_keeps σ) ∧ (∀ σ1 : q_M, (F_X9_keeps σ) = σ1 → (((F_X9_isIn v 400 4000 σ1) = 0 → True) ∧ (¬ (F_X9_isIn v 400 4000 σ1) = 0 → (∀ σ4 : q_M, (q_up σ1 229 5 0) = σ4 → (((F_X9_isUnprepared σ4) = 0 → (∀ σ7 : q_M, (q_up (q_up σ4 229 5 0) 230 0 v) = σ7 → ((P_X9_ends (σ4 230 0) σ7) ∧ True))) ∧ (¬ (F_X9_isUnprepared σ4) = 0 → True)))))))
set_option maxRecDepth 100000 in
theorem k_X9_setLength {α β : Nat → Nat} {D : va_G} {κ : Nat → ClassId} (v : Int32) (σ : q_M) (hP : P_X9_setLength v σ) : q_C α β D κ yX9_setLength cX9_setLength 3 (Option.some Jvm.ClassFile.FieldType.int) 2 46 0 0 [.ref 229, .int v] σ (q_oi (F_X9_setLength v σ).1) (F_X9_setLength v σ).2 := by
  refine q_enter (own := RX9) (F := F_X9) (G := G_X9) (by decide +kernel) rfl Fok_X9 Gok_X9 (Nat.le_of_ble_eq_true rfl) (fun p l e s m args below meth c A hfl C hr hT => ?_)
  generalize hF : F_X9_setLength v σ = rr
  unfold F_X9_setLength at hF
  refine q_go C tk_X9_setLength [(0, 1)] [] (pc1 := 1) (σ1 := σ) (lv1 := [(0, .ref 229), (1, .int v)]) (st1 := [.ref 229]) rfl trivial ?_
  refine q_callV C hfl mw_X9_keeps mi_X9_keeps me_X9_keeps lk_X9_56 (k_X9_keeps σ hP.1) (rest := []) rfl rfl rfl (by decide) (by decide) rfl (q_dc (z := (1, .invokevirtual 56, 3, 0, 0)) tk_X9_setLength 1 rfl) (Nat.le_of_ble_eq_true rfl) ⟨Nat.le_of_ble_eq_true rfl, Nat.le_of_ble_eq_true rfl⟩ ⟨Nat.le_of_ble_eq_true rfl, Nat.le_of_ble_eq_true rfl⟩ ?_
  refine q_nrm 4 [] 0 0 rfl rfl rfl rfl ?_
  generalize e2 : (F_X9_keeps σ) = σ1
  replace hF := q_let e2 hF
  refine q_go C tk_X9_setLength [(2, 4)] [] (pc1 := 12) (σ1 := σ1) (lv1 := [(0, .ref 229), (1, .int v)]) (st1 := [.int 4000, .int 400, .int v, .ref 229]) rfl trivial ?_
  refine q_callS C hfl mw_X9_isIn ms_X9_isIn lk_X9_48 (k_X9_isIn v 400 4000 σ1) (rest := [.ref 229]) rfl rfl (q_dc (z := (12, .invokestatic 48, 3, 0, 0)) tk_X9_setLength 6 rfl) (Nat.le_of_ble_eq_true rfl) ⟨Nat.le_of_ble_eq_true rfl, Nat.le_of_ble_eq_true rfl⟩ ⟨Nat.le_of_ble_eq_true rfl, Nat.le_of_ble_eq_true rfl⟩ ?_
  refine q_nrm 15 [.int (F_X9_isIn v 400 4000 σ1), .ref 229] 0 0 rfl rfl rfl rfl ?_
  by_cases c3 : (F_X9_isIn v 400 4000 σ1) = 0
  · rw [if_pos c3] at hF
    refine q_go C tk_X9_setLength [(7, 3), (11, 1)] [false] (pc1 := 24) (σ1 := σ1) (lv1 := [(0, .ref 229), (1, .int v)]) (st1 := [.int 1, .int 1, .ref 229]) rfl ⟨c3, trivial⟩ ?_
    refine q_callV C hfl mw_X9_isThrown mi_X9_isThrown me_X9_isThrown lk_X9_63 (k_X9_isThrownN 1 1 σ1 (by decide) (by decide)) (rest := []) rfl rfl rfl (by decide) (by decide) rfl (q_dc (z := (24, .invokevirtual 63, 3, 0, 0)) tk_X9_setLength 12 rfl) (Nat.le_of_ble_eq_true rfl) ⟨Nat.le_of_ble_eq_true rfl, Nat.le_of_ble_eq_true rfl⟩ ⟨Nat.le_of_ble_eq_true rfl, Nat.le_of_ble_eq_true rfl⟩ ?_
    refine q_nrm 27 [.int 1] 0 0 rfl rfl rfl rfl ?_
    refine q_go C tk_X9_setLength [(13, 1), (20, 1)] [true] (pc1 := 43) (σ1 := (q_up σ1 229 5 1)) (lv1 := [(0, .ref 229), (1, .int v)]) (st1 := [.int 0]) rfl ⟨(by decide : ¬ (1 : Int32) = 0), trivial⟩ ?_
    exact q_iret C hr (q_dc (z := (43, .ireturn, 1, 0, 0)) tk_X9_setLength 21 rfl) (congrArg Prod.snd hF) (congrArg (fun z => q_oi z.1) hF.symm) (Nat.le_of_ble_eq_true rfl) (Nat.le_of_ble_eq_true rfl)
  · rw [if_neg c3] at hF
    refine q_go C tk_X9_setLength [(7, 1), (10, 2)] [true] (pc1 := 24) (σ1 := σ1) (lv1 := [(0, .ref 229), (1, .int v)]) (st1 := [.int 1, .int 0, .ref 229]) rfl ⟨c3, trivial⟩ ?_
    refine q_callV C hfl mw_X9_isThrown mi_X9_isThrown me_X9_isThrown lk_X9_63 (k_X9_isThrownZ 0 1 σ1 (by decide)) (rest := []) rfl rfl rfl (by decide) (by decide) rfl (q_dc (z := (24, .invokevirtual 63, 3, 0, 0)) tk_X9_setLength 12 rfl) (Nat.le_of_ble_eq_true rfl) ⟨Nat.le_of_ble_eq_true rfl, Nat.le_of_ble_eq_true rfl⟩ ⟨Nat.le_of_ble_eq_true rfl, Nat.le_of_ble_eq_true rfl⟩ ?_
    refine q_nrm 27 [.int 0] 0 0 rfl rfl rfl rfl ?_
    refine q_go C tk_X9_setLength [(13, 3)] [false] (pc1 := 32) (σ1 := (q_up σ1 229 5 0)) (lv1 := [(0, .ref 229), (1, .int v)]) (st1 := [.ref 229, .ref 229]) rfl ⟨(by decide : (0 : Int32) = 0), trivial⟩ ?_
    generalize e5 : (q_up σ1 229 5 0) = σ4
    replace hF := q_let e5 hF
    refine q_callV C hfl mw_X9_isUnprepared mi_X9_isUnprepared me_X9_isUnprepared lk_X9_59 (k_X9_isUnprepared σ4) (rest := [.ref 229]) rfl rfl rfl (by decide) (by decide) rfl (q_dc (z := (32, .invokevirtual 59, 3, 0, 0)) tk_X9_setLength 16 rfl) (Nat.le_of_ble_eq_true rfl) ⟨Nat.le_of_ble_eq_true rfl, Nat.le_of_ble_eq_true rfl⟩ ⟨Nat.le_of_ble_eq_true rfl, Nat.le_of_ble_eq_true rfl⟩ ?_
    refine q_nrm 35 [.int (F_X9_isUnprepared σ4), .ref 229] 0 0 rfl rfl rfl rfl ?_
    refine q_go C tk_X9_setLength [(17, 1)] [] (pc1 := 36) (σ1 := σ4) (lv1 := [(0, .ref 229), (1, .int v)]) (st1 := [.int 2, .int (F_X9_isUnprepared σ4), .ref 229]) rfl trivial ?_
    by_cases c6 : (F_X9_isUnprepared σ4) = 0
    · rw [if_pos c6] at hF
      refine q_callV C hfl mw_X9_isThrown mi_X9_isThrown me_X9_isThrown lk_X9_63 (k_X9_isThrownZ (F_X9_isUnprepared σ4) 2 σ4 c6) (rest := []) rfl rfl rfl (by decide) (by decide) rfl (q_dc (z := (36, .invokevirtual 63, 3, 0, 0)) tk_X9_setLength 18 rfl) (Nat.le_of_ble_eq_true rfl) ⟨Nat.le_of_ble_eq_true rfl, Nat.le_of_ble_eq_true rfl⟩ ⟨Nat.le_of_ble_eq_true rfl, Nat.le_of_ble_eq_true rfl⟩ ?_
      refine q_nrm 39 [.int (F_X9_isUnprepared σ4)] 0 0 rfl rfl rfl rfl ?_
      refine q_go C tk_X9_setLength [(19, 1), (22, 12)] [true] (pc1 := 60) (σ1 := (q_up (q_up σ4 229 5 0) 230 0 v)) (lv1 := [(2, .int (σ4 230 0)), (0, .ref 229), (1, .int v)]) (st1 := [.int (σ4 230 0), .ref 229]) rfl ⟨c6, rfl, rfl, (by unfold vp_in; decide +kernel), rfl, rfl, (by unfold vp_in; decide +kernel), trivial⟩ ?_
      generalize e8 : (q_up (q_up σ4 229 5 0) 230 0 v) = σ7
      replace hF := q_let e8 hF
      refine q_callV C hfl mw_X9_ends mi_X9_ends me_X9_ends lk_X9_71 (k_X9_ends (σ4 230 0) σ7 (((((hP.2 σ1 e2).2 c3) σ4 e5).1 c6) σ7 e8).1) (rest := []) rfl rfl rfl (by decide) (by decide) rfl (q_dc (z := (60, .invokevirtual 71, 3, 0, 0)) tk_X9_setLength 34 rfl) (Nat.le_of_ble_eq_true rfl) ⟨Nat.le_of_ble_eq_true rfl, Nat.le_of_ble_eq_true rfl⟩ ⟨Nat.le_of_ble_eq_true rfl, Nat.le_of_ble_eq_true rfl⟩ ?_
      refine q_nrm 63 [.int (F_X9_ends (σ4 230 0) σ7).1] 0 0 rfl rfl rfl rfl ?_
      generalize e10 : (F_X9_ends (σ4 230 0) σ7).2 = σ9
      replace hF := q_let e10 hF
      exact q_iret C hr (q_dc (z := (63, .ireturn, 1, 0, 0)) tk_X9_setLength 35 rfl) (congrArg Prod.snd hF) (congrArg (fun z => q_oi z.1) hF.symm) (Nat.le_of_ble_eq_true rfl) (Nat.le_of_ble_eq_true rfl)
    · rw [if_neg c6] at hF
      refine q_callV C hfl mw_X9_isThrown mi_X9_isThrown me_X9_isThrown lk_X9_63 (k_X9_isThrownN (F_X9_isUnprepared σ4) 2 σ4 c6 (z_X9_isUnprepared)) (rest := []) rfl rfl rfl (by decide) (by decide) rfl (q_dc (z := (36, .invokevirtual 63, 3, 0, 0)) tk_X9_setLength 18 rfl) (Nat.le_of_ble_eq_true rfl) ⟨Nat.le_of_ble_eq_true rfl, Nat.le_of_ble_eq_true rfl⟩ ⟨Nat.le_of_ble_eq_true rfl, Nat.le_of_ble_eq_true rfl⟩ ?_
      refine q_nrm 39 [.int (F_X9_isUnprepared σ4)] 0 0 rfl rfl rfl rfl ?_
      refine q_go C tk_X9_setLength [(19, 2)] [false] (pc1 := 43) (σ1 := (q_up σ4 229 5 2)) (lv1 := [(0, .ref 229), (1, .int v)]) (st1 := [.int 0]) rfl ⟨c6, trivial⟩ ?_
      exact q_iret C hr (q_dc (z := (43, .ireturn, 1, 0, 0)) tk_X9_setLength 21 rfl) (congrArg Prod.snd hF) (congrArg (fun z => q_oi z.1) hF.symm) (Nat.le_of_ble_eq_true rfl) (Nat.le_of_ble_eq_true rfl)
def FL_X9_freeLane_5 (q : Int32) (k : Int32) : Nat → Int32 → Int32 → q_M → Int32
  | 0, v3, v4, τ => 0
  | nn + 1, v3, v4, τ => (if ((q >>> (v4 &&& 31)) &&& 1) = 1 then (FL_X9_freeLane_5 q k nn (v3 - 0) (v4 + 1) τ) else (if 0 < v3 then (FL_X9_freeLane_5 q k nn (v3 - 1) (v4 + 1) τ) else v4))
def PL_X9_freeLane_5 (q : Int32) (k : Int32) : Nat → Int32 → Int32 → q_M → Prop
  | 0, v3, v4, τ => False
  | nn + 1, v3, v4, τ => ((((q >>> (v4 &&& 31)) &&& 1) = 1 → (PL_X9_freeLane_5 q k nn (v3 - 0) (v4 + 1) τ)) ∧ (¬ ((q >>> (v4 &&& 31)) &&& 1) = 1 → ((0 < v3 → (PL_X9_freeLane_5 q k nn (v3 - 1) (v4 + 1) τ)) ∧ (¬ 0 < v3 → True))))
set_option maxRecDepth 100000 in
theorem kl_X9_freeLane_5 {α β : Nat → Nat} {D : va_G} {κ : Nat → ClassId} (q : Int32) (k : Int32) {p : Program} {l : Launch} {e : Env} {s : State} {m : MethodId} {args : Array Value} {below : List Frame} {meth : Method} {c : Code} {A : Nat → Prop} (hfl : l.flags = flags0) (C : q_Cx α β D κ p s m args meth c cX9_freeLane RX9 F_X9 G_X9 5 A) (hr : meth.sig.returnType = (Option.some Jvm.ClassFile.FieldType.int)) (hT : ∀ x ∈ c.exceptionTable.toList, False) : ∀ (nn : Nat) (v3 : Int32) (v4 : Int32) (τ : q_M) (rr : Int32), PL_X9_freeLane_5 q k nn v3 v4 τ → FL_X9_freeLane_5 q k nn v3 v4 τ = rr → q_St α β D κ p l e ({ frames := 0, cells := 0, slots := 0, locals := 0 } : Room) s m args below meth c 5 A (vx_MQ below (q_Qc α β D κ A (q_oi rr) τ) (q_XC α β D κ A (q_oi rr) τ) args s 0 0 A) 0 0 τ [(0, .ref 229), (1, .int q), (2, .int k), (3, .int v3), (4, .int v4)] 5 [] := by
  intro nn
  induction nn with
  | zero => intro v3 v4 τ rr hP; exact hP.elim
  | succ nn ih =>
    intro v3 v4 τ rr hP hF
    unfold FL_X9_freeLane_5 at hF
    refine q_go C tk_X9_freeLane [(4, 6)] [] (pc1 := 12) (σ1 := τ) (lv1 := [(0, .ref 229), (1, .int q), (2, .int k), (3, .int v3), (4, .int v4)]) (st1 := [.int 1, .int ((q >>> (v4 &&& 31)) &&& 1)]) rfl trivial ?_
    by_cases c1 : ((q >>> (v4 &&& 31)) &&& 1) = 1
    · rw [if_pos c1] at hF
      refine q_go C tk_X9_freeLane [(10, 1), (13, 10), (24, 4)] [true, false] (pc1 := 5) (σ1 := τ) (lv1 := [(4, .int (v4 + 1)), (3, .int (v3 - 0)), (0, .ref 229), (1, .int q), (2, .int k)]) (st1 := []) rfl ⟨c1, c1, trivial⟩ ?_
      refine q_lvpick [2, 3, 4, 1, 0] (lv' := [(0, .ref 229), (1, .int q), (2, .int k), (3, .int (v3 - 0)), (4, .int (v4 + 1))]) rfl ?_
      exact ih (v3 - 0) (v4 + 1) τ rr (hP.1 c1) hF
    · rw [if_neg c1] at hF
      refine q_go C tk_X9_freeLane [(10, 2)] [false] (pc1 := 16) (σ1 := τ) (lv1 := [(0, .ref 229), (1, .int q), (2, .int k), (3, .int v3), (4, .int v4)]) (st1 := [.int v3]) rfl ⟨c1, trivial⟩ ?_
      by_cases c2 : 0 < v3
      · rw [if_pos c2] at hF
        refine q_go C tk_X9_freeLane [(12, 9), (23, 5)] [false, true] (pc1 := 5) (σ1 := τ) (lv1 := [(4, .int (v4 + 1)), (3, .int (v3 - 1)), (0, .ref 229), (1, .int q), (2, .int k)]) (st1 := []) rfl ⟨c2, c1, trivial⟩ ?_
        refine q_lvpick [2, 3, 4, 1, 0] (lv' := [(0, .ref 229), (1, .int q), (2, .int k), (3, .int (v3 - 1)), (4, .int (v4 + 1))]) rfl ?_
        exact ih (v3 - 1) (v4 + 1) τ rr ((hP.2 c1).1 c2) hF
      · rw [if_neg c2] at hF
        refine q_go C tk_X9_freeLane [(12, 1), (28, 1)] [true] (pc1 := 45) (σ1 := τ) (lv1 := [(0, .ref 229), (1, .int q), (2, .int k), (3, .int v3), (4, .int v4)]) (st1 := [.int v4]) rfl ⟨c2, trivial⟩ ?_
        exact q_iret C hr (q_dc (z := (45, .ireturn, 1, 0, 0)) tk_X9_freeLane 29 rfl) rfl (congrArg q_oi hF.symm) (Nat.le_of_ble_eq_true rfl) (Nat.le_of_ble_eq_true rfl)
def F_X9_freeLane (q : Int32) (k : Int32) (σ : q_M) : Int32 := (FL_X9_freeLane_5 q k 40 k 1 σ)
def P_X9_freeLane (q : Int32) (k : Int32) (σ : q_M) : Prop := (PL_X9_freeLane_5 q k 40 k 1 σ)
set_option maxRecDepth 100000 in
theorem k_X9_freeLane {α β : Nat → Nat} {D : va_G} {κ : Nat → ClassId} (q : Int32) (k : Int32) (σ : q_M) (hP : P_X9_freeLane q k σ) : q_C α β D κ yX9_freeLane cX9_freeLane 5 (Option.some Jvm.ClassFile.FieldType.int) 0 0 0 0 [.ref 229, .int q, .int k] σ (q_oi (F_X9_freeLane q k σ)) σ := by
  refine q_enter (own := RX9) (F := F_X9) (G := G_X9) (by decide +kernel) rfl Fok_X9 Gok_X9 (Nat.le_of_ble_eq_true rfl) (fun p l e s m args below meth c A hfl C hr hT => ?_)
  generalize hF : F_X9_freeLane q k σ = rr
  unfold F_X9_freeLane at hF
  refine q_go C tk_X9_freeLane [(0, 4)] [] (pc1 := 5) (σ1 := σ) (lv1 := [(4, .int 1), (3, .int k), (0, .ref 229), (1, .int q), (2, .int k)]) (st1 := []) rfl trivial ?_
  refine q_lvpick [2, 3, 4, 1, 0] (lv' := [(0, .ref 229), (1, .int q), (2, .int k), (3, .int k), (4, .int 1)]) rfl ?_
  exact kl_X9_freeLane_5 q k  hfl C hr hT 40 k 1 σ rr hP hF
def FL_X9_draws_62 (v : Int32) : Nat → Int32 → Int32 → Int32 → q_M → (Int32) × q_M
  | 0, v2, v3, v4, τ => (0, τ)
  | nn + 1, v2, v3, v4, τ => (if v4 < (τ 230 3) then (q_L (((5 * v2) + 3) - ((5 * v2) + 3) / 1000 * 1000) (fun x7 : Int32 => (q_L (F_X9_freeLane v3 (x7 - x7 / ((τ 230 3) - v4) * ((τ 230 3) - v4)) τ) (fun x9 : Int32 => (q_L (v3 ||| (1 <<< (x9 &&& 31))) (fun x11 : Int32 => (q_L (F_X9_sets v4 4 x9 τ) (fun σ13 : q_M => (FL_X9_draws_62 v nn x7 x11 (v4 + 1) σ13))))))))) else ((F_X9_of 0 4 τ), τ))
def PL_X9_draws_62 (v : Int32) : Nat → Int32 → Int32 → Int32 → q_M → Prop
  | 0, v2, v3, v4, τ => False
  | nn + 1, v2, v3, v4, τ => ((v4 < (τ 230 3) → (∀ x7 : Int32, (((5 * v2) + 3) - ((5 * v2) + 3) / 1000 * 1000) = x7 → (¬ ((τ 230 3) - v4) = 0 ∧ ((P_X9_freeLane v3 (x7 - x7 / ((τ 230 3) - v4) * ((τ 230 3) - v4)) τ) ∧ (∀ x9 : Int32, (F_X9_freeLane v3 (x7 - x7 / ((τ 230 3) - v4) * ((τ 230 3) - v4)) τ) = x9 → (∀ x11 : Int32, (v3 ||| (1 <<< (x9 &&& 31))) = x11 → ((P_X9_sets v4 4 x9 τ) ∧ (∀ σ13 : q_M, (F_X9_sets v4 4 x9 τ) = σ13 → (PL_X9_draws_62 v nn x7 x11 (v4 + 1) σ13))))))))) ∧ (¬ v4 < (τ 230 3) → ((P_X9_of 0 4 τ) ∧ True)))
set_option maxRecDepth 100000 in
theorem kl_X9_draws_62 {α β : Nat → Nat} {D : va_G} {κ : Nat → ClassId} (v : Int32) {p : Program} {l : Launch} {e : Env} {s : State} {m : MethodId} {args : Array Value} {below : List Frame} {meth : Method} {c : Code} {A : Nat → Prop} (hfl : l.flags = flags0) (C : q_Cx α β D κ p s m args meth c cX9_draws RX9 F_X9 G_X9 6 A) (hr : meth.sig.returnType = (Option.some Jvm.ClassFile.FieldType.int)) (hT : ∀ x ∈ c.exceptionTable.toList, False) : ∀ (nn : Nat) (v2 : Int32) (v3 : Int32) (v4 : Int32) (τ : q_M) (rr : (Int32) × q_M), PL_X9_draws_62 v nn v2 v3 v4 τ → FL_X9_draws_62 v nn v2 v3 v4 τ = rr → q_St α β D κ p l e ({ frames := 1, cells := 0, slots := 0, locals := 24 } : Room) s m args below meth c 6 A (vx_MQ below (q_Qc α β D κ A (q_oi rr.1) rr.2) (q_XC α β D κ A (q_oi rr.1) rr.2) args s 0 0 A) 0 0 τ [(0, .ref 229), (1, .int v), (2, .int v2), (3, .int v3), (4, .int v4)] 62 [] := by
  intro nn
  induction nn with
  | zero => intro v2 v3 v4 τ rr hP; exact hP.elim
  | succ nn ih =>
    intro v2 v3 v4 τ rr hP hF
    unfold FL_X9_draws_62 at hF
    refine q_go C tk_X9_draws [(35, 5)] [] (pc1 := 70) (σ1 := τ) (lv1 := [(0, .ref 229), (1, .int v), (2, .int v2), (3, .int v3), (4, .int v4)]) (st1 := [.int (τ 230 3), .int v4]) rfl ⟨rfl, rfl, (by unfold vp_in; decide +kernel), trivial⟩ ?_
    by_cases c6 : v4 < (τ 230 3)
    · rw [if_pos c6] at hF
      refine q_go C tk_X9_draws [(40, 8)] [false] (pc1 := 82) (σ1 := τ) (lv1 := [(0, .ref 229), (1, .int v), (2, .int v2), (3, .int v3), (4, .int v4)]) (st1 := [.int (((5 * v2) + 3) - ((5 * v2) + 3) / 1000 * 1000)]) rfl ⟨c6, (by decide), trivial⟩ ?_
      generalize e8 : (((5 * v2) + 3) - ((5 * v2) + 3) / 1000 * 1000) = x7
      replace hF := q_let e8 hF
      refine q_go C tk_X9_draws [(48, 11)] [] (pc1 := 96) (σ1 := τ) (lv1 := [(2, .int x7), (0, .ref 229), (1, .int v), (3, .int v3), (4, .int v4)]) (st1 := [.int (x7 - x7 / ((τ 230 3) - v4) * ((τ 230 3) - v4)), .int v3, .ref 229]) rfl ⟨rfl, rfl, (by unfold vp_in; decide +kernel), ((hP.1 c6) x7 e8).1, trivial⟩ ?_
      refine q_callV C hfl mw_X9_freeLane mi_X9_freeLane me_X9_freeLane lk_X9_86 (k_X9_freeLane v3 (x7 - x7 / ((τ 230 3) - v4) * ((τ 230 3) - v4)) τ ((hP.1 c6) x7 e8).2.1) (rest := []) rfl rfl rfl (by decide) (by decide) rfl (q_dc (z := (96, .invokevirtual 86, 3, 0, 0)) tk_X9_draws 59 rfl) (Nat.le_of_ble_eq_true rfl) ⟨Nat.le_of_ble_eq_true rfl, Nat.le_of_ble_eq_true rfl⟩ ⟨Nat.le_of_ble_eq_true rfl, Nat.le_of_ble_eq_true rfl⟩ ?_
      refine q_nrm 99 [.int (F_X9_freeLane v3 (x7 - x7 / ((τ 230 3) - v4) * ((τ 230 3) - v4)) τ)] 0 0 rfl rfl rfl rfl ?_
      generalize e10 : (F_X9_freeLane v3 (x7 - x7 / ((τ 230 3) - v4) * ((τ 230 3) - v4)) τ) = x9
      replace hF := q_let e10 hF
      refine q_go C tk_X9_draws [(60, 6)] [] (pc1 := 107) (σ1 := τ) (lv1 := [(5, .int x9), (2, .int x7), (0, .ref 229), (1, .int v), (3, .int v3), (4, .int v4)]) (st1 := [.int (v3 ||| (1 <<< (x9 &&& 31)))]) rfl trivial ?_
      generalize e12 : (v3 ||| (1 <<< (x9 &&& 31))) = x11
      replace hF := q_let e12 hF
      refine q_go C tk_X9_draws [(66, 5)] [] (pc1 := 114) (σ1 := τ) (lv1 := [(3, .int x11), (5, .int x9), (2, .int x7), (0, .ref 229), (1, .int v), (4, .int v4)]) (st1 := [.int x9, .int 4, .int v4, .ref 229]) rfl trivial ?_
      refine q_callV C hfl mw_X9_sets mi_X9_sets me_X9_sets lk_X9_67 (k_X9_sets v4 4 x9 τ ((((hP.1 c6) x7 e8).2.2 x9 e10) x11 e12).1) (rest := []) rfl rfl rfl (by decide) (by decide) rfl (q_dc (z := (114, .invokevirtual 67, 3, 0, 0)) tk_X9_draws 71 rfl) (Nat.le_of_ble_eq_true rfl) ⟨Nat.le_of_ble_eq_true rfl, Nat.le_of_ble_eq_true rfl⟩ ⟨Nat.le_of_ble_eq_true rfl, Nat.le_of_ble_eq_true rfl⟩ ?_
      refine q_nrm 117 [] 0 0 rfl rfl rfl rfl ?_
      generalize e14 : (F_X9_sets v4 4 x9 τ) = σ13
      replace hF := q_let e14 hF
      refine q_go C tk_X9_draws [(72, 2)] [] (pc1 := 62) (σ1 := σ13) (lv1 := [(4, .int (v4 + 1)), (3, .int x11), (5, .int x9), (2, .int x7), (0, .ref 229), (1, .int v)]) (st1 := []) rfl trivial ?_
      refine q_lvpick [4, 5, 3, 1, 0] (lv' := [(0, .ref 229), (1, .int v), (2, .int x7), (3, .int x11), (4, .int (v4 + 1))]) rfl ?_
      exact ih x7 x11 (v4 + 1) σ13 rr (((((hP.1 c6) x7 e8).2.2 x9 e10) x11 e12).2 σ13 e14) hF
    · rw [if_neg c6] at hF
      refine q_go C tk_X9_draws [(40, 1), (74, 3)] [true] (pc1 := 126) (σ1 := τ) (lv1 := [(0, .ref 229), (1, .int v), (2, .int v2), (3, .int v3), (4, .int v4)]) (st1 := [.int 4, .int 0, .ref 229]) rfl ⟨c6, trivial⟩ ?_
      refine q_callV C hfl mw_X9_of mi_X9_of me_X9_of lk_X9_52 (k_X9_of 0 4 τ (hP.2 c6).1) (rest := []) rfl rfl rfl (by decide) (by decide) rfl (q_dc (z := (126, .invokevirtual 52, 3, 0, 0)) tk_X9_draws 77 rfl) (Nat.le_of_ble_eq_true rfl) ⟨Nat.le_of_ble_eq_true rfl, Nat.le_of_ble_eq_true rfl⟩ ⟨Nat.le_of_ble_eq_true rfl, Nat.le_of_ble_eq_true rfl⟩ ?_
      refine q_nrm 129 [.int (F_X9_of 0 4 τ)] 0 0 rfl rfl rfl rfl ?_
      exact q_iret C hr (q_dc (z := (129, .ireturn, 1, 0, 0)) tk_X9_draws 78 rfl) (congrArg Prod.snd hF) (congrArg (fun z => q_oi z.1) hF.symm) (Nat.le_of_ble_eq_true rfl) (Nat.le_of_ble_eq_true rfl)
def F_X9_draws (v : Int32) (σ : q_M) : (Int32) × q_M := (if (F_X9_isIn v 0 999 σ) = 0 then (0, (q_up σ 229 5 1)) else (q_L (q_up σ 229 5 0) (fun σ2 : q_M => (if (F_X9_isUnprepared σ2) = 0 then (if (σ2 230 3) = 0 then (0, (q_up σ2 229 5 2)) else (FL_X9_draws_62 v 10 v 0 0 (q_up σ2 229 5 0))) else (0, (q_up σ2 229 5 2))))))
def P_X9_draws (v : Int32) (σ : q_M) : Prop := (((F_X9_isIn v 0 999 σ) = 0 → True) ∧ (¬ (F_X9_isIn v 0 999 σ) = 0 → (∀ σ2 : q_M, (q_up σ 229 5 0) = σ2 → (((F_X9_isUnprepared σ2) = 0 → (((σ2 230 3) = 0 → True) ∧ (¬ (σ2 230 3) = 0 → (PL_X9_draws_62 v 10 v 0 0 (q_up σ2 229 5 0))))) ∧ (¬ (F_X9_isUnprepared σ2) = 0 → True)))))
set_option maxRecDepth 100000 in
theorem k_X9_draws {α β : Nat → Nat} {D : va_G} {κ : Nat → ClassId} (v : Int32) (σ : q_M) (hP : P_X9_draws v σ) : q_C α β D κ yX9_draws cX9_draws 6 (Option.some Jvm.ClassFile.FieldType.int) 1 24 0 0 [.ref 229, .int v] σ (q_oi (F_X9_draws v σ).1) (F_X9_draws v σ).2 := by
  refine q_enter (own := RX9) (F := F_X9) (G := G_X9) (by decide +kernel) rfl Fok_X9 Gok_X9 (Nat.le_of_ble_eq_true rfl) (fun p l e s m args below meth c A hfl C hr hT => ?_)
  generalize hF : F_X9_draws v σ = rr
  unfold F_X9_draws at hF
  refine q_go C tk_X9_draws [(0, 4)] [] (pc1 := 6) (σ1 := σ) (lv1 := [(0, .ref 229), (1, .int v)]) (st1 := [.int 999, .int 0, .int v, .ref 229]) rfl trivial ?_
  refine q_callS C hfl mw_X9_isIn ms_X9_isIn lk_X9_48 (k_X9_isIn v 0 999 σ) (rest := [.ref 229]) rfl rfl (q_dc (z := (6, .invokestatic 48, 3, 0, 0)) tk_X9_draws 4 rfl) (Nat.le_of_ble_eq_true rfl) ⟨Nat.le_of_ble_eq_true rfl, Nat.le_of_ble_eq_true rfl⟩ ⟨Nat.le_of_ble_eq_true rfl, Nat.le_of_ble_eq_true rfl⟩ ?_
  refine q_nrm 9 [.int (F_X9_isIn v 0 999 σ), .ref 229] 0 0 rfl rfl rfl rfl ?_
  by_cases c1 : (F_X9_isIn v 0 999 σ) = 0
  · rw [if_pos c1] at hF
    refine q_go C tk_X9_draws [(5, 3), (9, 1)] [false] (pc1 := 18) (σ1 := σ) (lv1 := [(0, .ref 229), (1, .int v)]) (st1 := [.int 1, .int 1, .ref 229]) rfl ⟨c1, trivial⟩ ?_
    refine q_callV C hfl mw_X9_isThrown mi_X9_isThrown me_X9_isThrown lk_X9_63 (k_X9_isThrownN 1 1 σ (by decide) (by decide)) (rest := []) rfl rfl rfl (by decide) (by decide) rfl (q_dc (z := (18, .invokevirtual 63, 3, 0, 0)) tk_X9_draws 10 rfl) (Nat.le_of_ble_eq_true rfl) ⟨Nat.le_of_ble_eq_true rfl, Nat.le_of_ble_eq_true rfl⟩ ⟨Nat.le_of_ble_eq_true rfl, Nat.le_of_ble_eq_true rfl⟩ ?_
    refine q_nrm 21 [.int 1] 0 0 rfl rfl rfl rfl ?_
    refine q_go C tk_X9_draws [(11, 1), (27, 1)] [true] (pc1 := 54) (σ1 := (q_up σ 229 5 1)) (lv1 := [(0, .ref 229), (1, .int v)]) (st1 := [.int 0]) rfl ⟨(by decide : ¬ (1 : Int32) = 0), trivial⟩ ?_
    exact q_iret C hr (q_dc (z := (54, .ireturn, 1, 0, 0)) tk_X9_draws 28 rfl) (congrArg Prod.snd hF) (congrArg (fun z => q_oi z.1) hF.symm) (Nat.le_of_ble_eq_true rfl) (Nat.le_of_ble_eq_true rfl)
  · rw [if_neg c1] at hF
    refine q_go C tk_X9_draws [(5, 1), (8, 2)] [true] (pc1 := 18) (σ1 := σ) (lv1 := [(0, .ref 229), (1, .int v)]) (st1 := [.int 1, .int 0, .ref 229]) rfl ⟨c1, trivial⟩ ?_
    refine q_callV C hfl mw_X9_isThrown mi_X9_isThrown me_X9_isThrown lk_X9_63 (k_X9_isThrownZ 0 1 σ (by decide)) (rest := []) rfl rfl rfl (by decide) (by decide) rfl (q_dc (z := (18, .invokevirtual 63, 3, 0, 0)) tk_X9_draws 10 rfl) (Nat.le_of_ble_eq_true rfl) ⟨Nat.le_of_ble_eq_true rfl, Nat.le_of_ble_eq_true rfl⟩ ⟨Nat.le_of_ble_eq_true rfl, Nat.le_of_ble_eq_true rfl⟩ ?_
    refine q_nrm 21 [.int 0] 0 0 rfl rfl rfl rfl ?_
    refine q_go C tk_X9_draws [(11, 3)] [false] (pc1 := 26) (σ1 := (q_up σ 229 5 0)) (lv1 := [(0, .ref 229), (1, .int v)]) (st1 := [.ref 229, .ref 229]) rfl ⟨(by decide : (0 : Int32) = 0), trivial⟩ ?_
    generalize e3 : (q_up σ 229 5 0) = σ2
    replace hF := q_let e3 hF
    refine q_callV C hfl mw_X9_isUnprepared mi_X9_isUnprepared me_X9_isUnprepared lk_X9_59 (k_X9_isUnprepared σ2) (rest := [.ref 229]) rfl rfl rfl (by decide) (by decide) rfl (q_dc (z := (26, .invokevirtual 59, 3, 0, 0)) tk_X9_draws 14 rfl) (Nat.le_of_ble_eq_true rfl) ⟨Nat.le_of_ble_eq_true rfl, Nat.le_of_ble_eq_true rfl⟩ ⟨Nat.le_of_ble_eq_true rfl, Nat.le_of_ble_eq_true rfl⟩ ?_
    refine q_nrm 29 [.int (F_X9_isUnprepared σ2), .ref 229] 0 0 rfl rfl rfl rfl ?_
    by_cases c4 : (F_X9_isUnprepared σ2) = 0
    · rw [if_pos c4] at hF
      refine q_go C tk_X9_draws [(15, 5)] [false] (pc1 := 38) (σ1 := σ2) (lv1 := [(0, .ref 229), (1, .int v)]) (st1 := [.int (σ2 230 3), .ref 229]) rfl ⟨c4, rfl, rfl, (by unfold vp_in; decide +kernel), trivial⟩ ?_
      by_cases c5 : (σ2 230 3) = 0
      · rw [if_pos c5] at hF
        refine q_go C tk_X9_draws [(20, 3), (24, 1)] [false] (pc1 := 47) (σ1 := σ2) (lv1 := [(0, .ref 229), (1, .int v)]) (st1 := [.int 2, .int 1, .ref 229]) rfl ⟨c5, trivial⟩ ?_
        refine q_callV C hfl mw_X9_isThrown mi_X9_isThrown me_X9_isThrown lk_X9_63 (k_X9_isThrownN 1 2 σ2 (by decide) (by decide)) (rest := []) rfl rfl rfl (by decide) (by decide) rfl (q_dc (z := (47, .invokevirtual 63, 3, 0, 0)) tk_X9_draws 25 rfl) (Nat.le_of_ble_eq_true rfl) ⟨Nat.le_of_ble_eq_true rfl, Nat.le_of_ble_eq_true rfl⟩ ⟨Nat.le_of_ble_eq_true rfl, Nat.le_of_ble_eq_true rfl⟩ ?_
        refine q_nrm 50 [.int 1] 0 0 rfl rfl rfl rfl ?_
        refine q_go C tk_X9_draws [(26, 2)] [false] (pc1 := 54) (σ1 := (q_up σ2 229 5 2)) (lv1 := [(0, .ref 229), (1, .int v)]) (st1 := [.int 0]) rfl ⟨(by decide : ¬ (1 : Int32) = 0), trivial⟩ ?_
        exact q_iret C hr (q_dc (z := (54, .ireturn, 1, 0, 0)) tk_X9_draws 28 rfl) (congrArg Prod.snd hF) (congrArg (fun z => q_oi z.1) hF.symm) (Nat.le_of_ble_eq_true rfl) (Nat.le_of_ble_eq_true rfl)
      · rw [if_neg c5] at hF
        refine q_go C tk_X9_draws [(20, 1), (23, 2)] [true] (pc1 := 47) (σ1 := σ2) (lv1 := [(0, .ref 229), (1, .int v)]) (st1 := [.int 2, .int 0, .ref 229]) rfl ⟨c5, trivial⟩ ?_
        refine q_callV C hfl mw_X9_isThrown mi_X9_isThrown me_X9_isThrown lk_X9_63 (k_X9_isThrownZ 0 2 σ2 (by decide)) (rest := []) rfl rfl rfl (by decide) (by decide) rfl (q_dc (z := (47, .invokevirtual 63, 3, 0, 0)) tk_X9_draws 25 rfl) (Nat.le_of_ble_eq_true rfl) ⟨Nat.le_of_ble_eq_true rfl, Nat.le_of_ble_eq_true rfl⟩ ⟨Nat.le_of_ble_eq_true rfl, Nat.le_of_ble_eq_true rfl⟩ ?_
        refine q_nrm 50 [.int 0] 0 0 rfl rfl rfl rfl ?_
        refine q_go C tk_X9_draws [(26, 1), (29, 6)] [true] (pc1 := 62) (σ1 := (q_up σ2 229 5 0)) (lv1 := [(4, .int 0), (3, .int 0), (2, .int v), (0, .ref 229), (1, .int v)]) (st1 := []) rfl ⟨(by decide : (0 : Int32) = 0), trivial⟩ ?_
        refine q_lvpick [3, 4, 2, 1, 0] (lv' := [(0, .ref 229), (1, .int v), (2, .int v), (3, .int 0), (4, .int 0)]) rfl ?_
        exact kl_X9_draws_62 v  hfl C hr hT 10 v 0 0 (q_up σ2 229 5 0) rr ((((hP.2 c1) σ2 e3).1 c4).2 c5) hF
    · rw [if_neg c4] at hF
      refine q_go C tk_X9_draws [(15, 1), (21, 2), (24, 1)] [true] (pc1 := 47) (σ1 := σ2) (lv1 := [(0, .ref 229), (1, .int v)]) (st1 := [.int 2, .int 1, .ref 229]) rfl ⟨c4, trivial⟩ ?_
      refine q_callV C hfl mw_X9_isThrown mi_X9_isThrown me_X9_isThrown lk_X9_63 (k_X9_isThrownN 1 2 σ2 (by decide) (by decide)) (rest := []) rfl rfl rfl (by decide) (by decide) rfl (q_dc (z := (47, .invokevirtual 63, 3, 0, 0)) tk_X9_draws 25 rfl) (Nat.le_of_ble_eq_true rfl) ⟨Nat.le_of_ble_eq_true rfl, Nat.le_of_ble_eq_true rfl⟩ ⟨Nat.le_of_ble_eq_true rfl, Nat.le_of_ble_eq_true rfl⟩ ?_
      refine q_nrm 50 [.int 1] 0 0 rfl rfl rfl rfl ?_
      refine q_go C tk_X9_draws [(26, 2)] [false] (pc1 := 54) (σ1 := (q_up σ2 229 5 2)) (lv1 := [(0, .ref 229), (1, .int v)]) (st1 := [.int 0]) rfl ⟨(by decide : ¬ (1 : Int32) = 0), trivial⟩ ?_
      exact q_iret C hr (q_dc (z := (54, .ireturn, 1, 0, 0)) tk_X9_draws 28 rfl) (congrArg Prod.snd hF) (congrArg (fun z => q_oi z.1) hF.symm) (Nat.le_of_ble_eq_true rfl) (Nat.le_of_ble_eq_true rfl)
def F_X9_drawLanes (v : Int32) (σ : q_M) : (Int32) × q_M := (q_L (F_X9_keeps σ) (fun σ1 : q_M => (q_L (F_X9_draws v σ1).2 (fun σ3 : q_M => (q_L (F_X9_ends (F_X9_draws v σ1).1 σ3).2 (fun σ5 : q_M => ((F_X9_ends (F_X9_draws v σ1).1 σ3).1, σ5)))))))
def P_X9_drawLanes (v : Int32) (σ : q_M) : Prop := ((P_X9_keeps σ) ∧ (∀ σ1 : q_M, (F_X9_keeps σ) = σ1 → ((P_X9_draws v σ1) ∧ (∀ σ3 : q_M, (F_X9_draws v σ1).2 = σ3 → ((P_X9_ends (F_X9_draws v σ1).1 σ3) ∧ True)))))
set_option maxRecDepth 100000 in
theorem k_X9_drawLanes {α β : Nat → Nat} {D : va_G} {κ : Nat → ClassId} (v : Int32) (σ : q_M) (hP : P_X9_drawLanes v σ) : q_C α β D κ yX9_drawLanes cX9_drawLanes 2 (Option.some Jvm.ClassFile.FieldType.int) 2 49 0 0 [.ref 229, .int v] σ (q_oi (F_X9_drawLanes v σ).1) (F_X9_drawLanes v σ).2 := by
  refine q_enter (own := RX9) (F := F_X9) (G := G_X9) (by decide +kernel) rfl Fok_X9 Gok_X9 (Nat.le_of_ble_eq_true rfl) (fun p l e s m args below meth c A hfl C hr hT => ?_)
  generalize hF : F_X9_drawLanes v σ = rr
  unfold F_X9_drawLanes at hF
  refine q_go C tk_X9_drawLanes [(0, 1)] [] (pc1 := 1) (σ1 := σ) (lv1 := [(0, .ref 229), (1, .int v)]) (st1 := [.ref 229]) rfl trivial ?_
  refine q_callV C hfl mw_X9_keeps mi_X9_keeps me_X9_keeps lk_X9_56 (k_X9_keeps σ hP.1) (rest := []) rfl rfl rfl (by decide) (by decide) rfl (q_dc (z := (1, .invokevirtual 56, 3, 0, 0)) tk_X9_drawLanes 1 rfl) (Nat.le_of_ble_eq_true rfl) ⟨Nat.le_of_ble_eq_true rfl, Nat.le_of_ble_eq_true rfl⟩ ⟨Nat.le_of_ble_eq_true rfl, Nat.le_of_ble_eq_true rfl⟩ ?_
  refine q_nrm 4 [] 0 0 rfl rfl rfl rfl ?_
  generalize e2 : (F_X9_keeps σ) = σ1
  replace hF := q_let e2 hF
  refine q_go C tk_X9_drawLanes [(2, 3)] [] (pc1 := 7) (σ1 := σ1) (lv1 := [(0, .ref 229), (1, .int v)]) (st1 := [.int v, .ref 229, .ref 229]) rfl trivial ?_
  refine q_callV C hfl mw_X9_draws mi_X9_draws me_X9_draws lk_X9_89 (k_X9_draws v σ1 (hP.2 σ1 e2).1) (rest := [.ref 229]) rfl rfl rfl (by decide) (by decide) rfl (q_dc (z := (7, .invokevirtual 89, 3, 0, 0)) tk_X9_drawLanes 5 rfl) (Nat.le_of_ble_eq_true rfl) ⟨Nat.le_of_ble_eq_true rfl, Nat.le_of_ble_eq_true rfl⟩ ⟨Nat.le_of_ble_eq_true rfl, Nat.le_of_ble_eq_true rfl⟩ ?_
  refine q_nrm 10 [.int (F_X9_draws v σ1).1, .ref 229] 0 0 rfl rfl rfl rfl ?_
  generalize e4 : (F_X9_draws v σ1).2 = σ3
  replace hF := q_let e4 hF
  refine q_callV C hfl mw_X9_ends mi_X9_ends me_X9_ends lk_X9_71 (k_X9_ends (F_X9_draws v σ1).1 σ3 ((hP.2 σ1 e2).2 σ3 e4).1) (rest := []) rfl rfl rfl (by decide) (by decide) rfl (q_dc (z := (10, .invokevirtual 71, 3, 0, 0)) tk_X9_drawLanes 6 rfl) (Nat.le_of_ble_eq_true rfl) ⟨Nat.le_of_ble_eq_true rfl, Nat.le_of_ble_eq_true rfl⟩ ⟨Nat.le_of_ble_eq_true rfl, Nat.le_of_ble_eq_true rfl⟩ ?_
  refine q_nrm 13 [.int (F_X9_ends (F_X9_draws v σ1).1 σ3).1] 0 0 rfl rfl rfl rfl ?_
  generalize e6 : (F_X9_ends (F_X9_draws v σ1).1 σ3).2 = σ5
  replace hF := q_let e6 hF
  exact q_iret C hr (q_dc (z := (13, .ireturn, 1, 0, 0)) tk_X9_drawLanes 7 rfl) (congrArg Prod.snd hF) (congrArg (fun z => q_oi z.1) hF.symm) (Nat.le_of_ble_eq_true rfl) (Nat.le_of_ble_eq_true rfl)
def FL_X9_starts_40  : Nat → Int32 → q_M → (Int32) × q_M
  | 0, v1, τ => (0, τ)
  | nn + 1, v1, τ => (if v1 < (τ 230 3) then (q_L (F_X9_sets v1 6 1 τ) (fun σ4 : q_M => (FL_X9_starts_40  nn (v1 + 1) σ4))) else ((τ 230 3), τ))
def PL_X9_starts_40  : Nat → Int32 → q_M → Prop
  | 0, v1, τ => False
  | nn + 1, v1, τ => ((v1 < (τ 230 3) → ((P_X9_sets v1 6 1 τ) ∧ (∀ σ4 : q_M, (F_X9_sets v1 6 1 τ) = σ4 → (PL_X9_starts_40  nn (v1 + 1) σ4)))) ∧ (¬ v1 < (τ 230 3) → True))
set_option maxRecDepth 100000 in
theorem kl_X9_starts_40 {α β : Nat → Nat} {D : va_G} {κ : Nat → ClassId}  {p : Program} {l : Launch} {e : Env} {s : State} {m : MethodId} {args : Array Value} {below : List Frame} {meth : Method} {c : Code} {A : Nat → Prop} (hfl : l.flags = flags0) (C : q_Cx α β D κ p s m args meth c cX9_starts RX9 F_X9 G_X9 2 A) (hr : meth.sig.returnType = (Option.some Jvm.ClassFile.FieldType.int)) (hT : ∀ x ∈ c.exceptionTable.toList, False) : ∀ (nn : Nat) (v1 : Int32) (τ : q_M) (rr : (Int32) × q_M), PL_X9_starts_40  nn v1 τ → FL_X9_starts_40  nn v1 τ = rr → q_St α β D κ p l e ({ frames := 1, cells := 0, slots := 0, locals := 23 } : Room) s m args below meth c 2 A (vx_MQ below (q_Qc α β D κ A (q_oi rr.1) rr.2) (q_XC α β D κ A (q_oi rr.1) rr.2) args s 0 0 A) 0 0 τ [(0, .ref 229), (1, .int v1)] 40 [] := by
  intro nn
  induction nn with
  | zero => intro v1 τ rr hP; exact hP.elim
  | succ nn ih =>
    intro v1 τ rr hP hF
    unfold FL_X9_starts_40 at hF
    refine q_go C tk_X9_starts [(24, 5)] [] (pc1 := 47) (σ1 := τ) (lv1 := [(0, .ref 229), (1, .int v1)]) (st1 := [.int (τ 230 3), .int v1]) rfl ⟨rfl, rfl, (by unfold vp_in; decide +kernel), trivial⟩ ?_
    by_cases c3 : v1 < (τ 230 3)
    · rw [if_pos c3] at hF
      refine q_go C tk_X9_starts [(29, 5)] [false] (pc1 := 55) (σ1 := τ) (lv1 := [(0, .ref 229), (1, .int v1)]) (st1 := [.int 1, .int 6, .int v1, .ref 229]) rfl ⟨c3, trivial⟩ ?_
      refine q_callV C hfl mw_X9_sets mi_X9_sets me_X9_sets lk_X9_67 (k_X9_sets v1 6 1 τ (hP.1 c3).1) (rest := []) rfl rfl rfl (by decide) (by decide) rfl (q_dc (z := (55, .invokevirtual 67, 3, 0, 0)) tk_X9_starts 34 rfl) (Nat.le_of_ble_eq_true rfl) ⟨Nat.le_of_ble_eq_true rfl, Nat.le_of_ble_eq_true rfl⟩ ⟨Nat.le_of_ble_eq_true rfl, Nat.le_of_ble_eq_true rfl⟩ ?_
      refine q_nrm 58 [] 0 0 rfl rfl rfl rfl ?_
      generalize e5 : (F_X9_sets v1 6 1 τ) = σ4
      replace hF := q_let e5 hF
      refine q_go C tk_X9_starts [(35, 2)] [] (pc1 := 40) (σ1 := σ4) (lv1 := [(1, .int (v1 + 1)), (0, .ref 229)]) (st1 := []) rfl trivial ?_
      refine q_lvpick [1, 0] (lv' := [(0, .ref 229), (1, .int (v1 + 1))]) rfl ?_
      exact ih (v1 + 1) σ4 rr ((hP.1 c3).2 σ4 e5) hF
    · rw [if_neg c3] at hF
      refine q_go C tk_X9_starts [(29, 1), (37, 4)] [true] (pc1 := 70) (σ1 := τ) (lv1 := [(0, .ref 229), (1, .int v1)]) (st1 := [.int (τ 230 3)]) rfl ⟨c3, rfl, rfl, (by unfold vp_in; decide +kernel), trivial⟩ ?_
      exact q_iret C hr (q_dc (z := (70, .ireturn, 1, 0, 0)) tk_X9_starts 41 rfl) (congrArg Prod.snd hF) (congrArg (fun z => q_oi z.1) hF.symm) (Nat.le_of_ble_eq_true rfl) (Nat.le_of_ble_eq_true rfl)
def F_X9_starts (σ : q_M) : (Int32) × q_M := (if (F_X9_isUnprepared σ) = 0 then (if (σ 230 3) = 0 then (0, (q_up σ 229 5 1)) else (FL_X9_starts_40  10 0 (q_up (q_up σ 229 5 0) 230 1 1))) else (0, (q_up σ 229 5 1)))
def P_X9_starts (σ : q_M) : Prop := (((F_X9_isUnprepared σ) = 0 → (((σ 230 3) = 0 → True) ∧ (¬ (σ 230 3) = 0 → (PL_X9_starts_40  10 0 (q_up (q_up σ 229 5 0) 230 1 1))))) ∧ (¬ (F_X9_isUnprepared σ) = 0 → True))
set_option maxRecDepth 100000 in
theorem k_X9_starts {α β : Nat → Nat} {D : va_G} {κ : Nat → ClassId} (σ : q_M) (hP : P_X9_starts σ) : q_C α β D κ yX9_starts cX9_starts 2 (Option.some Jvm.ClassFile.FieldType.int) 1 23 0 0 [.ref 229] σ (q_oi (F_X9_starts σ).1) (F_X9_starts σ).2 := by
  refine q_enter (own := RX9) (F := F_X9) (G := G_X9) (by decide +kernel) rfl Fok_X9 Gok_X9 (Nat.le_of_ble_eq_true rfl) (fun p l e s m args below meth c A hfl C hr hT => ?_)
  generalize hF : F_X9_starts σ = rr
  unfold F_X9_starts at hF
  refine q_go C tk_X9_starts [(0, 2)] [] (pc1 := 2) (σ1 := σ) (lv1 := [(0, .ref 229)]) (st1 := [.ref 229, .ref 229]) rfl trivial ?_
  refine q_callV C hfl mw_X9_isUnprepared mi_X9_isUnprepared me_X9_isUnprepared lk_X9_59 (k_X9_isUnprepared σ) (rest := [.ref 229]) rfl rfl rfl (by decide) (by decide) rfl (q_dc (z := (2, .invokevirtual 59, 3, 0, 0)) tk_X9_starts 2 rfl) (Nat.le_of_ble_eq_true rfl) ⟨Nat.le_of_ble_eq_true rfl, Nat.le_of_ble_eq_true rfl⟩ ⟨Nat.le_of_ble_eq_true rfl, Nat.le_of_ble_eq_true rfl⟩ ?_
  refine q_nrm 5 [.int (F_X9_isUnprepared σ), .ref 229] 0 0 rfl rfl rfl rfl ?_
  by_cases c1 : (F_X9_isUnprepared σ) = 0
  · rw [if_pos c1] at hF
    refine q_go C tk_X9_starts [(3, 5)] [false] (pc1 := 14) (σ1 := σ) (lv1 := [(0, .ref 229)]) (st1 := [.int (σ 230 3), .ref 229]) rfl ⟨c1, rfl, rfl, (by unfold vp_in; decide +kernel), trivial⟩ ?_
    by_cases c2 : (σ 230 3) = 0
    · rw [if_pos c2] at hF
      refine q_go C tk_X9_starts [(8, 3), (12, 1)] [false] (pc1 := 23) (σ1 := σ) (lv1 := [(0, .ref 229)]) (st1 := [.int 1, .int 1, .ref 229]) rfl ⟨c2, trivial⟩ ?_
      refine q_callV C hfl mw_X9_isThrown mi_X9_isThrown me_X9_isThrown lk_X9_63 (k_X9_isThrownN 1 1 σ (by decide) (by decide)) (rest := []) rfl rfl rfl (by decide) (by decide) rfl (q_dc (z := (23, .invokevirtual 63, 3, 0, 0)) tk_X9_starts 13 rfl) (Nat.le_of_ble_eq_true rfl) ⟨Nat.le_of_ble_eq_true rfl, Nat.le_of_ble_eq_true rfl⟩ ⟨Nat.le_of_ble_eq_true rfl, Nat.le_of_ble_eq_true rfl⟩ ?_
      refine q_nrm 26 [.int 1] 0 0 rfl rfl rfl rfl ?_
      refine q_go C tk_X9_starts [(14, 2)] [false] (pc1 := 30) (σ1 := (q_up σ 229 5 1)) (lv1 := [(0, .ref 229)]) (st1 := [.int 0]) rfl ⟨(by decide : ¬ (1 : Int32) = 0), trivial⟩ ?_
      exact q_iret C hr (q_dc (z := (30, .ireturn, 1, 0, 0)) tk_X9_starts 16 rfl) (congrArg Prod.snd hF) (congrArg (fun z => q_oi z.1) hF.symm) (Nat.le_of_ble_eq_true rfl) (Nat.le_of_ble_eq_true rfl)
    · rw [if_neg c2] at hF
      refine q_go C tk_X9_starts [(8, 1), (11, 2)] [true] (pc1 := 23) (σ1 := σ) (lv1 := [(0, .ref 229)]) (st1 := [.int 1, .int 0, .ref 229]) rfl ⟨c2, trivial⟩ ?_
      refine q_callV C hfl mw_X9_isThrown mi_X9_isThrown me_X9_isThrown lk_X9_63 (k_X9_isThrownZ 0 1 σ (by decide)) (rest := []) rfl rfl rfl (by decide) (by decide) rfl (q_dc (z := (23, .invokevirtual 63, 3, 0, 0)) tk_X9_starts 13 rfl) (Nat.le_of_ble_eq_true rfl) ⟨Nat.le_of_ble_eq_true rfl, Nat.le_of_ble_eq_true rfl⟩ ⟨Nat.le_of_ble_eq_true rfl, Nat.le_of_ble_eq_true rfl⟩ ?_
      refine q_nrm 26 [.int 0] 0 0 rfl rfl rfl rfl ?_
      refine q_go C tk_X9_starts [(14, 1), (17, 7)] [true] (pc1 := 40) (σ1 := (q_up (q_up σ 229 5 0) 230 1 1)) (lv1 := [(1, .int 0), (0, .ref 229)]) (st1 := []) rfl ⟨(by decide : (0 : Int32) = 0), rfl, rfl, (by unfold vp_in; decide +kernel), trivial⟩ ?_
      refine q_lvpick [1, 0] (lv' := [(0, .ref 229), (1, .int 0)]) rfl ?_
      exact kl_X9_starts_40   hfl C hr hT 10 0 (q_up (q_up σ 229 5 0) 230 1 1) rr ((hP.1 c1).2 c2) hF
  · rw [if_neg c1] at hF
    refine q_go C tk_X9_starts [(3, 1), (9, 2), (12, 1)] [true] (pc1 := 23) (σ1 := σ) (lv1 := [(0, .ref 229)]) (st1 := [.int 1, .int 1, .ref 229]) rfl ⟨c1, trivial⟩ ?_
    refine q_callV C hfl mw_X9_isThrown mi_X9_isThrown me_X9_isThrown lk_X9_63 (k_X9_isThrownN 1 1 σ (by decide) (by decide)) (rest := []) rfl rfl rfl (by decide) (by decide) rfl (q_dc (z := (23, .invokevirtual 63, 3, 0, 0)) tk_X9_starts 13 rfl) (Nat.le_of_ble_eq_true rfl) ⟨Nat.le_of_ble_eq_true rfl, Nat.le_of_ble_eq_true rfl⟩ ⟨Nat.le_of_ble_eq_true rfl, Nat.le_of_ble_eq_true rfl⟩ ?_
    refine q_nrm 26 [.int 1] 0 0 rfl rfl rfl rfl ?_
    refine q_go C tk_X9_starts [(14, 2)] [false] (pc1 := 30) (σ1 := (q_up σ 229 5 1)) (lv1 := [(0, .ref 229)]) (st1 := [.int 0]) rfl ⟨(by decide : ¬ (1 : Int32) = 0), trivial⟩ ?_
    exact q_iret C hr (q_dc (z := (30, .ireturn, 1, 0, 0)) tk_X9_starts 16 rfl) (congrArg Prod.snd hF) (congrArg (fun z => q_oi z.1) hF.symm) (Nat.le_of_ble_eq_true rfl) (Nat.le_of_ble_eq_true rfl)
def F_X9_start (σ : q_M) : (Int32) × q_M := (q_L (F_X9_keeps σ) (fun σ1 : q_M => (q_L (F_X9_starts σ1).2 (fun σ3 : q_M => (q_L (F_X9_ends (F_X9_starts σ1).1 σ3).2 (fun σ5 : q_M => ((F_X9_ends (F_X9_starts σ1).1 σ3).1, σ5)))))))
def P_X9_start (σ : q_M) : Prop := ((P_X9_keeps σ) ∧ (∀ σ1 : q_M, (F_X9_keeps σ) = σ1 → ((P_X9_starts σ1) ∧ (∀ σ3 : q_M, (F_X9_starts σ1).2 = σ3 → ((P_X9_ends (F_X9_starts σ1).1 σ3) ∧ True)))))
set_option maxRecDepth 100000 in
theorem k_X9_start {α β : Nat → Nat} {D : va_G} {κ : Nat → ClassId} (σ : q_M) (hP : P_X9_start σ) : q_C α β D κ yX9_start cX9_start 1 (Option.some Jvm.ClassFile.FieldType.int) 2 46 0 0 [.ref 229] σ (q_oi (F_X9_start σ).1) (F_X9_start σ).2 := by
  refine q_enter (own := RX9) (F := F_X9) (G := G_X9) (by decide +kernel) rfl Fok_X9 Gok_X9 (Nat.le_of_ble_eq_true rfl) (fun p l e s m args below meth c A hfl C hr hT => ?_)
  generalize hF : F_X9_start σ = rr
  unfold F_X9_start at hF
  refine q_go C tk_X9_start [(0, 1)] [] (pc1 := 1) (σ1 := σ) (lv1 := [(0, .ref 229)]) (st1 := [.ref 229]) rfl trivial ?_
  refine q_callV C hfl mw_X9_keeps mi_X9_keeps me_X9_keeps lk_X9_56 (k_X9_keeps σ hP.1) (rest := []) rfl rfl rfl (by decide) (by decide) rfl (q_dc (z := (1, .invokevirtual 56, 3, 0, 0)) tk_X9_start 1 rfl) (Nat.le_of_ble_eq_true rfl) ⟨Nat.le_of_ble_eq_true rfl, Nat.le_of_ble_eq_true rfl⟩ ⟨Nat.le_of_ble_eq_true rfl, Nat.le_of_ble_eq_true rfl⟩ ?_
  refine q_nrm 4 [] 0 0 rfl rfl rfl rfl ?_
  generalize e2 : (F_X9_keeps σ) = σ1
  replace hF := q_let e2 hF
  refine q_go C tk_X9_start [(2, 2)] [] (pc1 := 6) (σ1 := σ1) (lv1 := [(0, .ref 229)]) (st1 := [.ref 229, .ref 229]) rfl trivial ?_
  refine q_callV C hfl mw_X9_starts mi_X9_starts me_X9_starts lk_X9_92 (k_X9_starts σ1 (hP.2 σ1 e2).1) (rest := [.ref 229]) rfl rfl rfl (by decide) (by decide) rfl (q_dc (z := (6, .invokevirtual 92, 3, 0, 0)) tk_X9_start 4 rfl) (Nat.le_of_ble_eq_true rfl) ⟨Nat.le_of_ble_eq_true rfl, Nat.le_of_ble_eq_true rfl⟩ ⟨Nat.le_of_ble_eq_true rfl, Nat.le_of_ble_eq_true rfl⟩ ?_
  refine q_nrm 9 [.int (F_X9_starts σ1).1, .ref 229] 0 0 rfl rfl rfl rfl ?_
  generalize e4 : (F_X9_starts σ1).2 = σ3
  replace hF := q_let e4 hF
  refine q_callV C hfl mw_X9_ends mi_X9_ends me_X9_ends lk_X9_71 (k_X9_ends (F_X9_starts σ1).1 σ3 ((hP.2 σ1 e2).2 σ3 e4).1) (rest := []) rfl rfl rfl (by decide) (by decide) rfl (q_dc (z := (9, .invokevirtual 71, 3, 0, 0)) tk_X9_start 5 rfl) (Nat.le_of_ble_eq_true rfl) ⟨Nat.le_of_ble_eq_true rfl, Nat.le_of_ble_eq_true rfl⟩ ⟨Nat.le_of_ble_eq_true rfl, Nat.le_of_ble_eq_true rfl⟩ ?_
  refine q_nrm 12 [.int (F_X9_ends (F_X9_starts σ1).1 σ3).1] 0 0 rfl rfl rfl rfl ?_
  generalize e6 : (F_X9_ends (F_X9_starts σ1).1 σ3).2 = σ5
  replace hF := q_let e6 hF
  exact q_iret C hr (q_dc (z := (12, .ireturn, 1, 0, 0)) tk_X9_start 6 rfl) (congrArg Prod.snd hF) (congrArg (fun z => q_oi z.1) hF.symm) (Nat.le_of_ble_eq_true rfl) (Nat.le_of_ble_eq_true rfl)
def F_X9_pass (t : Int32) (σ : q_M) : (Int32) × q_M := (q_L (F_X9_keeps σ) (fun σ1 : q_M => (q_L (F_X9_passes t σ1).2 (fun σ3 : q_M => (q_L (F_X9_ends (F_X9_passes t σ1).1 σ3).2 (fun σ5 : q_M => ((F_X9_ends (F_X9_passes t σ1).1 σ3).1, σ5)))))))
def P_X9_pass (t : Int32) (σ : q_M) : Prop := ((P_X9_keeps σ) ∧ (∀ σ1 : q_M, (F_X9_keeps σ) = σ1 → ((P_X9_passes t σ1) ∧ (∀ σ3 : q_M, (F_X9_passes t σ1).2 = σ3 → ((P_X9_ends (F_X9_passes t σ1).1 σ3) ∧ True)))))
set_option maxRecDepth 100000 in
theorem k_X9_pass {α β : Nat → Nat} {D : va_G} {κ : Nat → ClassId} (t : Int32) (σ : q_M) (hP : P_X9_pass t σ) : q_C α β D κ yX9_pass cX9_pass 2 (Option.some Jvm.ClassFile.FieldType.int) 4 89 0 0 [.ref 229, .int t] σ (q_oi (F_X9_pass t σ).1) (F_X9_pass t σ).2 := by
  refine q_enter (own := RX9) (F := F_X9) (G := G_X9) (by decide +kernel) rfl Fok_X9 Gok_X9 (Nat.le_of_ble_eq_true rfl) (fun p l e s m args below meth c A hfl C hr hT => ?_)
  generalize hF : F_X9_pass t σ = rr
  unfold F_X9_pass at hF
  refine q_go C tk_X9_pass [(0, 1)] [] (pc1 := 1) (σ1 := σ) (lv1 := [(0, .ref 229), (1, .int t)]) (st1 := [.ref 229]) rfl trivial ?_
  refine q_callV C hfl mw_X9_keeps mi_X9_keeps me_X9_keeps lk_X9_56 (k_X9_keeps σ hP.1) (rest := []) rfl rfl rfl (by decide) (by decide) rfl (q_dc (z := (1, .invokevirtual 56, 3, 0, 0)) tk_X9_pass 1 rfl) (Nat.le_of_ble_eq_true rfl) ⟨Nat.le_of_ble_eq_true rfl, Nat.le_of_ble_eq_true rfl⟩ ⟨Nat.le_of_ble_eq_true rfl, Nat.le_of_ble_eq_true rfl⟩ ?_
  refine q_nrm 4 [] 0 0 rfl rfl rfl rfl ?_
  generalize e2 : (F_X9_keeps σ) = σ1
  replace hF := q_let e2 hF
  refine q_go C tk_X9_pass [(2, 3)] [] (pc1 := 7) (σ1 := σ1) (lv1 := [(0, .ref 229), (1, .int t)]) (st1 := [.int t, .ref 229, .ref 229]) rfl trivial ?_
  refine q_callV C hfl mw_X9_passes mi_X9_passes me_X9_passes lk_X9_130 (k_X9_passes t σ1 (hP.2 σ1 e2).1) (rest := [.ref 229]) rfl rfl rfl (by decide) (by decide) rfl (q_dc (z := (7, .invokevirtual 130, 3, 0, 0)) tk_X9_pass 5 rfl) (Nat.le_of_ble_eq_true rfl) ⟨Nat.le_of_ble_eq_true rfl, Nat.le_of_ble_eq_true rfl⟩ ⟨Nat.le_of_ble_eq_true rfl, Nat.le_of_ble_eq_true rfl⟩ ?_
  refine q_nrm 10 [.int (F_X9_passes t σ1).1, .ref 229] 0 0 rfl rfl rfl rfl ?_
  generalize e4 : (F_X9_passes t σ1).2 = σ3
  replace hF := q_let e4 hF
  refine q_callV C hfl mw_X9_ends mi_X9_ends me_X9_ends lk_X9_71 (k_X9_ends (F_X9_passes t σ1).1 σ3 ((hP.2 σ1 e2).2 σ3 e4).1) (rest := []) rfl rfl rfl (by decide) (by decide) rfl (q_dc (z := (10, .invokevirtual 71, 3, 0, 0)) tk_X9_pass 6 rfl) (Nat.le_of_ble_eq_true rfl) ⟨Nat.le_of_ble_eq_true rfl, Nat.le_of_ble_eq_true rfl⟩ ⟨Nat.le_of_ble_eq_true rfl, Nat.le_of_ble_eq_true rfl⟩ ?_
  refine q_nrm 13 [.int (F_X9_ends (F_X9_passes t σ1).1 σ3).1] 0 0 rfl rfl rfl rfl ?_
  generalize e6 : (F_X9_ends (F_X9_passes t σ1).1 σ3).2 = σ5
  replace hF := q_let e6 hF
  exact q_iret C hr (q_dc (z := (13, .ireturn, 1, 0, 0)) tk_X9_pass 7 rfl) (congrArg Prod.snd hF) (congrArg (fun z => q_oi z.1) hF.symm) (Nat.le_of_ble_eq_true rfl) (Nat.le_of_ble_eq_true rfl)
def F_X9_drop (t : Int32) (n : Int32) (σ : q_M) : (Int32) × q_M := (q_L (F_X9_keeps σ) (fun σ1 : q_M => (q_L (F_X9_drops t n σ1).2 (fun σ3 : q_M => (q_L (F_X9_ends (F_X9_drops t n σ1).1 σ3).2 (fun σ5 : q_M => ((F_X9_ends (F_X9_drops t n σ1).1 σ3).1, σ5)))))))
def P_X9_drop (t : Int32) (n : Int32) (σ : q_M) : Prop := ((P_X9_keeps σ) ∧ (∀ σ1 : q_M, (F_X9_keeps σ) = σ1 → ((P_X9_drops t n σ1) ∧ (∀ σ3 : q_M, (F_X9_drops t n σ1).2 = σ3 → ((P_X9_ends (F_X9_drops t n σ1).1 σ3) ∧ True)))))
set_option maxRecDepth 100000 in
theorem k_X9_drop {α β : Nat → Nat} {D : va_G} {κ : Nat → ClassId} (t : Int32) (n : Int32) (σ : q_M) (hP : P_X9_drop t n σ) : q_C α β D κ yX9_drop cX9_drop 3 (Option.some Jvm.ClassFile.FieldType.int) 3 67 0 0 [.ref 229, .int t, .int n] σ (q_oi (F_X9_drop t n σ).1) (F_X9_drop t n σ).2 := by
  refine q_enter (own := RX9) (F := F_X9) (G := G_X9) (by decide +kernel) rfl Fok_X9 Gok_X9 (Nat.le_of_ble_eq_true rfl) (fun p l e s m args below meth c A hfl C hr hT => ?_)
  generalize hF : F_X9_drop t n σ = rr
  unfold F_X9_drop at hF
  refine q_go C tk_X9_drop [(0, 1)] [] (pc1 := 1) (σ1 := σ) (lv1 := [(0, .ref 229), (1, .int t), (2, .int n)]) (st1 := [.ref 229]) rfl trivial ?_
  refine q_callV C hfl mw_X9_keeps mi_X9_keeps me_X9_keeps lk_X9_56 (k_X9_keeps σ hP.1) (rest := []) rfl rfl rfl (by decide) (by decide) rfl (q_dc (z := (1, .invokevirtual 56, 3, 0, 0)) tk_X9_drop 1 rfl) (Nat.le_of_ble_eq_true rfl) ⟨Nat.le_of_ble_eq_true rfl, Nat.le_of_ble_eq_true rfl⟩ ⟨Nat.le_of_ble_eq_true rfl, Nat.le_of_ble_eq_true rfl⟩ ?_
  refine q_nrm 4 [] 0 0 rfl rfl rfl rfl ?_
  generalize e2 : (F_X9_keeps σ) = σ1
  replace hF := q_let e2 hF
  refine q_go C tk_X9_drop [(2, 4)] [] (pc1 := 8) (σ1 := σ1) (lv1 := [(0, .ref 229), (1, .int t), (2, .int n)]) (st1 := [.int n, .int t, .ref 229, .ref 229]) rfl trivial ?_
  refine q_callV C hfl mw_X9_drops mi_X9_drops me_X9_drops lk_X9_136 (k_X9_drops t n σ1 (hP.2 σ1 e2).1) (rest := [.ref 229]) rfl rfl rfl (by decide) (by decide) rfl (q_dc (z := (8, .invokevirtual 136, 3, 0, 0)) tk_X9_drop 6 rfl) (Nat.le_of_ble_eq_true rfl) ⟨Nat.le_of_ble_eq_true rfl, Nat.le_of_ble_eq_true rfl⟩ ⟨Nat.le_of_ble_eq_true rfl, Nat.le_of_ble_eq_true rfl⟩ ?_
  refine q_nrm 11 [.int (F_X9_drops t n σ1).1, .ref 229] 0 0 rfl rfl rfl rfl ?_
  generalize e4 : (F_X9_drops t n σ1).2 = σ3
  replace hF := q_let e4 hF
  refine q_callV C hfl mw_X9_ends mi_X9_ends me_X9_ends lk_X9_71 (k_X9_ends (F_X9_drops t n σ1).1 σ3 ((hP.2 σ1 e2).2 σ3 e4).1) (rest := []) rfl rfl rfl (by decide) (by decide) rfl (q_dc (z := (11, .invokevirtual 71, 3, 0, 0)) tk_X9_drop 7 rfl) (Nat.le_of_ble_eq_true rfl) ⟨Nat.le_of_ble_eq_true rfl, Nat.le_of_ble_eq_true rfl⟩ ⟨Nat.le_of_ble_eq_true rfl, Nat.le_of_ble_eq_true rfl⟩ ?_
  refine q_nrm 14 [.int (F_X9_ends (F_X9_drops t n σ1).1 σ3).1] 0 0 rfl rfl rfl rfl ?_
  generalize e6 : (F_X9_ends (F_X9_drops t n σ1).1 σ3).2 = σ5
  replace hF := q_let e6 hF
  exact q_iret C hr (q_dc (z := (14, .ireturn, 1, 0, 0)) tk_X9_drop 8 rfl) (congrArg Prod.snd hF) (congrArg (fun z => q_oi z.1) hF.symm) (Nat.le_of_ble_eq_true rfl) (Nat.le_of_ble_eq_true rfl)
def F_X9_leaves (t : Int32) (σ : q_M) : (Int32) × q_M := (if (F_X9_isTeam t σ) = 0 then (0, (q_up σ 229 5 1)) else (q_L (q_up σ 229 5 0) (fun σ2 : q_M => (if (F_X9_of t 6 σ2) = 1 then (q_L (q_up σ2 229 5 0) (fun σ5 : q_M => (q_L (F_X9_sets t 6 3 σ5) (fun σ7 : q_M => ((F_X9_inStatus 1 σ7), σ7))))) else (0, (q_up σ2 229 5 2))))))
def P_X9_leaves (t : Int32) (σ : q_M) : Prop := (((F_X9_isTeam t σ) = 0 → True) ∧ (¬ (F_X9_isTeam t σ) = 0 → (∀ σ2 : q_M, (q_up σ 229 5 0) = σ2 → ((P_X9_of t 6 σ2) ∧ (((F_X9_of t 6 σ2) = 1 → (∀ σ5 : q_M, (q_up σ2 229 5 0) = σ5 → ((P_X9_sets t 6 3 σ5) ∧ (∀ σ7 : q_M, (F_X9_sets t 6 3 σ5) = σ7 → ((P_X9_inStatus 1 σ7) ∧ True))))) ∧ (¬ (F_X9_of t 6 σ2) = 1 → True))))))
set_option maxRecDepth 100000 in
theorem k_X9_leaves {α β : Nat → Nat} {D : va_G} {κ : Nat → ClassId} (t : Int32) (σ : q_M) (hP : P_X9_leaves t σ) : q_C α β D κ yX9_leaves cX9_leaves 2 (Option.some Jvm.ClassFile.FieldType.int) 2 45 0 0 [.ref 229, .int t] σ (q_oi (F_X9_leaves t σ).1) (F_X9_leaves t σ).2 := by
  refine q_enter (own := RX9) (F := F_X9) (G := G_X9) (by decide +kernel) rfl Fok_X9 Gok_X9 (Nat.le_of_ble_eq_true rfl) (fun p l e s m args below meth c A hfl C hr hT => ?_)
  generalize hF : F_X9_leaves t σ = rr
  unfold F_X9_leaves at hF
  refine q_go C tk_X9_leaves [(0, 3)] [] (pc1 := 3) (σ1 := σ) (lv1 := [(0, .ref 229), (1, .int t)]) (st1 := [.int t, .ref 229, .ref 229]) rfl trivial ?_
  refine q_callV C hfl mw_X9_isTeam mi_X9_isTeam me_X9_isTeam lk_X9_75 (k_X9_isTeam t σ) (rest := [.ref 229]) rfl rfl rfl (by decide) (by decide) rfl (q_dc (z := (3, .invokevirtual 75, 3, 0, 0)) tk_X9_leaves 3 rfl) (Nat.le_of_ble_eq_true rfl) ⟨Nat.le_of_ble_eq_true rfl, Nat.le_of_ble_eq_true rfl⟩ ⟨Nat.le_of_ble_eq_true rfl, Nat.le_of_ble_eq_true rfl⟩ ?_
  refine q_nrm 6 [.int (F_X9_isTeam t σ), .ref 229] 0 0 rfl rfl rfl rfl ?_
  by_cases c1 : (F_X9_isTeam t σ) = 0
  · rw [if_pos c1] at hF
    refine q_go C tk_X9_leaves [(4, 3), (8, 1)] [false] (pc1 := 15) (σ1 := σ) (lv1 := [(0, .ref 229), (1, .int t)]) (st1 := [.int 1, .int 1, .ref 229]) rfl ⟨c1, trivial⟩ ?_
    refine q_callV C hfl mw_X9_isThrown mi_X9_isThrown me_X9_isThrown lk_X9_63 (k_X9_isThrownN 1 1 σ (by decide) (by decide)) (rest := []) rfl rfl rfl (by decide) (by decide) rfl (q_dc (z := (15, .invokevirtual 63, 3, 0, 0)) tk_X9_leaves 9 rfl) (Nat.le_of_ble_eq_true rfl) ⟨Nat.le_of_ble_eq_true rfl, Nat.le_of_ble_eq_true rfl⟩ ⟨Nat.le_of_ble_eq_true rfl, Nat.le_of_ble_eq_true rfl⟩ ?_
    refine q_nrm 18 [.int 1] 0 0 rfl rfl rfl rfl ?_
    refine q_go C tk_X9_leaves [(10, 1), (24, 1)] [true] (pc1 := 46) (σ1 := (q_up σ 229 5 1)) (lv1 := [(0, .ref 229), (1, .int t)]) (st1 := [.int 0]) rfl ⟨(by decide : ¬ (1 : Int32) = 0), trivial⟩ ?_
    exact q_iret C hr (q_dc (z := (46, .ireturn, 1, 0, 0)) tk_X9_leaves 25 rfl) (congrArg Prod.snd hF) (congrArg (fun z => q_oi z.1) hF.symm) (Nat.le_of_ble_eq_true rfl) (Nat.le_of_ble_eq_true rfl)
  · rw [if_neg c1] at hF
    refine q_go C tk_X9_leaves [(4, 1), (7, 2)] [true] (pc1 := 15) (σ1 := σ) (lv1 := [(0, .ref 229), (1, .int t)]) (st1 := [.int 1, .int 0, .ref 229]) rfl ⟨c1, trivial⟩ ?_
    refine q_callV C hfl mw_X9_isThrown mi_X9_isThrown me_X9_isThrown lk_X9_63 (k_X9_isThrownZ 0 1 σ (by decide)) (rest := []) rfl rfl rfl (by decide) (by decide) rfl (q_dc (z := (15, .invokevirtual 63, 3, 0, 0)) tk_X9_leaves 9 rfl) (Nat.le_of_ble_eq_true rfl) ⟨Nat.le_of_ble_eq_true rfl, Nat.le_of_ble_eq_true rfl⟩ ⟨Nat.le_of_ble_eq_true rfl, Nat.le_of_ble_eq_true rfl⟩ ?_
    refine q_nrm 18 [.int 0] 0 0 rfl rfl rfl rfl ?_
    refine q_go C tk_X9_leaves [(10, 5)] [false] (pc1 := 26) (σ1 := (q_up σ 229 5 0)) (lv1 := [(0, .ref 229), (1, .int t)]) (st1 := [.int 6, .int t, .ref 229, .ref 229]) rfl ⟨(by decide : (0 : Int32) = 0), trivial⟩ ?_
    generalize e3 : (q_up σ 229 5 0) = σ2
    replace hF := q_let e3 hF
    refine q_callV C hfl mw_X9_of mi_X9_of me_X9_of lk_X9_52 (k_X9_of t 6 σ2 ((hP.2 c1) σ2 e3).1) (rest := [.ref 229]) rfl rfl rfl (by decide) (by decide) rfl (q_dc (z := (26, .invokevirtual 52, 3, 0, 0)) tk_X9_leaves 15 rfl) (Nat.le_of_ble_eq_true rfl) ⟨Nat.le_of_ble_eq_true rfl, Nat.le_of_ble_eq_true rfl⟩ ⟨Nat.le_of_ble_eq_true rfl, Nat.le_of_ble_eq_true rfl⟩ ?_
    refine q_nrm 29 [.int (F_X9_of t 6 σ2), .ref 229] 0 0 rfl rfl rfl rfl ?_
    refine q_go C tk_X9_leaves [(16, 1)] [] (pc1 := 30) (σ1 := σ2) (lv1 := [(0, .ref 229), (1, .int t)]) (st1 := [.int 1, .int (F_X9_of t 6 σ2), .ref 229]) rfl trivial ?_
    by_cases c4 : (F_X9_of t 6 σ2) = 1
    · rw [if_pos c4] at hF
      refine q_go C tk_X9_leaves [(17, 1), (20, 2)] [true] (pc1 := 39) (σ1 := σ2) (lv1 := [(0, .ref 229), (1, .int t)]) (st1 := [.int 2, .int 0, .ref 229]) rfl ⟨c4, trivial⟩ ?_
      refine q_callV C hfl mw_X9_isThrown mi_X9_isThrown me_X9_isThrown lk_X9_63 (k_X9_isThrownZ 0 2 σ2 (by decide)) (rest := []) rfl rfl rfl (by decide) (by decide) rfl (q_dc (z := (39, .invokevirtual 63, 3, 0, 0)) tk_X9_leaves 22 rfl) (Nat.le_of_ble_eq_true rfl) ⟨Nat.le_of_ble_eq_true rfl, Nat.le_of_ble_eq_true rfl⟩ ⟨Nat.le_of_ble_eq_true rfl, Nat.le_of_ble_eq_true rfl⟩ ?_
      refine q_nrm 42 [.int 0] 0 0 rfl rfl rfl rfl ?_
      refine q_go C tk_X9_leaves [(23, 1), (26, 4)] [true] (pc1 := 52) (σ1 := (q_up σ2 229 5 0)) (lv1 := [(0, .ref 229), (1, .int t)]) (st1 := [.int 3, .int 6, .int t, .ref 229]) rfl ⟨(by decide : (0 : Int32) = 0), trivial⟩ ?_
      generalize e6 : (q_up σ2 229 5 0) = σ5
      replace hF := q_let e6 hF
      refine q_callV C hfl mw_X9_sets mi_X9_sets me_X9_sets lk_X9_67 (k_X9_sets t 6 3 σ5 ((((hP.2 c1) σ2 e3).2.1 c4) σ5 e6).1) (rest := []) rfl rfl rfl (by decide) (by decide) rfl (q_dc (z := (52, .invokevirtual 67, 3, 0, 0)) tk_X9_leaves 30 rfl) (Nat.le_of_ble_eq_true rfl) ⟨Nat.le_of_ble_eq_true rfl, Nat.le_of_ble_eq_true rfl⟩ ⟨Nat.le_of_ble_eq_true rfl, Nat.le_of_ble_eq_true rfl⟩ ?_
      refine q_nrm 55 [] 0 0 rfl rfl rfl rfl ?_
      generalize e8 : (F_X9_sets t 6 3 σ5) = σ7
      replace hF := q_let e8 hF
      refine q_go C tk_X9_leaves [(31, 2)] [] (pc1 := 57) (σ1 := σ7) (lv1 := [(0, .ref 229), (1, .int t)]) (st1 := [.int 1, .ref 229]) rfl trivial ?_
      refine q_callV C hfl mw_X9_inStatus mi_X9_inStatus me_X9_inStatus lk_X9_109 (k_X9_inStatus 1 σ7 (((((hP.2 c1) σ2 e3).2.1 c4) σ5 e6).2 σ7 e8).1) (rest := []) rfl rfl rfl (by decide) (by decide) rfl (q_dc (z := (57, .invokevirtual 109, 3, 0, 0)) tk_X9_leaves 33 rfl) (Nat.le_of_ble_eq_true rfl) ⟨Nat.le_of_ble_eq_true rfl, Nat.le_of_ble_eq_true rfl⟩ ⟨Nat.le_of_ble_eq_true rfl, Nat.le_of_ble_eq_true rfl⟩ ?_
      refine q_nrm 60 [.int (F_X9_inStatus 1 σ7)] 0 0 rfl rfl rfl rfl ?_
      exact q_iret C hr (q_dc (z := (60, .ireturn, 1, 0, 0)) tk_X9_leaves 34 rfl) (congrArg Prod.snd hF) (congrArg (fun z => q_oi z.1) hF.symm) (Nat.le_of_ble_eq_true rfl) (Nat.le_of_ble_eq_true rfl)
    · rw [if_neg c4] at hF
      refine q_go C tk_X9_leaves [(17, 3), (21, 1)] [false] (pc1 := 39) (σ1 := σ2) (lv1 := [(0, .ref 229), (1, .int t)]) (st1 := [.int 2, .int 1, .ref 229]) rfl ⟨c4, trivial⟩ ?_
      refine q_callV C hfl mw_X9_isThrown mi_X9_isThrown me_X9_isThrown lk_X9_63 (k_X9_isThrownN 1 2 σ2 (by decide) (by decide)) (rest := []) rfl rfl rfl (by decide) (by decide) rfl (q_dc (z := (39, .invokevirtual 63, 3, 0, 0)) tk_X9_leaves 22 rfl) (Nat.le_of_ble_eq_true rfl) ⟨Nat.le_of_ble_eq_true rfl, Nat.le_of_ble_eq_true rfl⟩ ⟨Nat.le_of_ble_eq_true rfl, Nat.le_of_ble_eq_true rfl⟩ ?_
      refine q_nrm 42 [.int 1] 0 0 rfl rfl rfl rfl ?_
      refine q_go C tk_X9_leaves [(23, 2)] [false] (pc1 := 46) (σ1 := (q_up σ2 229 5 2)) (lv1 := [(0, .ref 229), (1, .int t)]) (st1 := [.int 0]) rfl ⟨(by decide : ¬ (1 : Int32) = 0), trivial⟩ ?_
      exact q_iret C hr (q_dc (z := (46, .ireturn, 1, 0, 0)) tk_X9_leaves 25 rfl) (congrArg Prod.snd hF) (congrArg (fun z => q_oi z.1) hF.symm) (Nat.le_of_ble_eq_true rfl) (Nat.le_of_ble_eq_true rfl)
def F_X9_withdraw (t : Int32) (σ : q_M) : (Int32) × q_M := (q_L (F_X9_keeps σ) (fun σ1 : q_M => (q_L (F_X9_leaves t σ1).2 (fun σ3 : q_M => (q_L (F_X9_ends (F_X9_leaves t σ1).1 σ3).2 (fun σ5 : q_M => ((F_X9_ends (F_X9_leaves t σ1).1 σ3).1, σ5)))))))
def P_X9_withdraw (t : Int32) (σ : q_M) : Prop := ((P_X9_keeps σ) ∧ (∀ σ1 : q_M, (F_X9_keeps σ) = σ1 → ((P_X9_leaves t σ1) ∧ (∀ σ3 : q_M, (F_X9_leaves t σ1).2 = σ3 → ((P_X9_ends (F_X9_leaves t σ1).1 σ3) ∧ True)))))
set_option maxRecDepth 100000 in
theorem k_X9_withdraw {α β : Nat → Nat} {D : va_G} {κ : Nat → ClassId} (t : Int32) (σ : q_M) (hP : P_X9_withdraw t σ) : q_C α β D κ yX9_withdraw cX9_withdraw 2 (Option.some Jvm.ClassFile.FieldType.int) 3 66 0 0 [.ref 229, .int t] σ (q_oi (F_X9_withdraw t σ).1) (F_X9_withdraw t σ).2 := by
  refine q_enter (own := RX9) (F := F_X9) (G := G_X9) (by decide +kernel) rfl Fok_X9 Gok_X9 (Nat.le_of_ble_eq_true rfl) (fun p l e s m args below meth c A hfl C hr hT => ?_)
  generalize hF : F_X9_withdraw t σ = rr
  unfold F_X9_withdraw at hF
  refine q_go C tk_X9_withdraw [(0, 1)] [] (pc1 := 1) (σ1 := σ) (lv1 := [(0, .ref 229), (1, .int t)]) (st1 := [.ref 229]) rfl trivial ?_
  refine q_callV C hfl mw_X9_keeps mi_X9_keeps me_X9_keeps lk_X9_56 (k_X9_keeps σ hP.1) (rest := []) rfl rfl rfl (by decide) (by decide) rfl (q_dc (z := (1, .invokevirtual 56, 3, 0, 0)) tk_X9_withdraw 1 rfl) (Nat.le_of_ble_eq_true rfl) ⟨Nat.le_of_ble_eq_true rfl, Nat.le_of_ble_eq_true rfl⟩ ⟨Nat.le_of_ble_eq_true rfl, Nat.le_of_ble_eq_true rfl⟩ ?_
  refine q_nrm 4 [] 0 0 rfl rfl rfl rfl ?_
  generalize e2 : (F_X9_keeps σ) = σ1
  replace hF := q_let e2 hF
  refine q_go C tk_X9_withdraw [(2, 3)] [] (pc1 := 7) (σ1 := σ1) (lv1 := [(0, .ref 229), (1, .int t)]) (st1 := [.int t, .ref 229, .ref 229]) rfl trivial ?_
  refine q_callV C hfl mw_X9_leaves mi_X9_leaves me_X9_leaves lk_X9_139 (k_X9_leaves t σ1 (hP.2 σ1 e2).1) (rest := [.ref 229]) rfl rfl rfl (by decide) (by decide) rfl (q_dc (z := (7, .invokevirtual 139, 3, 0, 0)) tk_X9_withdraw 5 rfl) (Nat.le_of_ble_eq_true rfl) ⟨Nat.le_of_ble_eq_true rfl, Nat.le_of_ble_eq_true rfl⟩ ⟨Nat.le_of_ble_eq_true rfl, Nat.le_of_ble_eq_true rfl⟩ ?_
  refine q_nrm 10 [.int (F_X9_leaves t σ1).1, .ref 229] 0 0 rfl rfl rfl rfl ?_
  generalize e4 : (F_X9_leaves t σ1).2 = σ3
  replace hF := q_let e4 hF
  refine q_callV C hfl mw_X9_ends mi_X9_ends me_X9_ends lk_X9_71 (k_X9_ends (F_X9_leaves t σ1).1 σ3 ((hP.2 σ1 e2).2 σ3 e4).1) (rest := []) rfl rfl rfl (by decide) (by decide) rfl (q_dc (z := (10, .invokevirtual 71, 3, 0, 0)) tk_X9_withdraw 6 rfl) (Nat.le_of_ble_eq_true rfl) ⟨Nat.le_of_ble_eq_true rfl, Nat.le_of_ble_eq_true rfl⟩ ⟨Nat.le_of_ble_eq_true rfl, Nat.le_of_ble_eq_true rfl⟩ ?_
  refine q_nrm 13 [.int (F_X9_ends (F_X9_leaves t σ1).1 σ3).1] 0 0 rfl rfl rfl rfl ?_
  generalize e6 : (F_X9_ends (F_X9_leaves t σ1).1 σ3).2 = σ5
  replace hF := q_let e6 hF
  exact q_iret C hr (q_dc (z := (13, .ireturn, 1, 0, 0)) tk_X9_withdraw 7 rfl) (congrArg Prod.snd hF) (congrArg (fun z => q_oi z.1) hF.symm) (Nat.le_of_ble_eq_true rfl) (Nat.le_of_ble_eq_true rfl)
def F_X9_protest (b : Int32) (a : Int32) (k : Int32) (σ : q_M) : (Int32) × q_M := (q_L (F_X9_keeps σ) (fun σ1 : q_M => (q_L (F_X9_protests b a k σ1).2 (fun σ3 : q_M => (q_L (F_X9_ends (F_X9_protests b a k σ1).1 σ3).2 (fun σ5 : q_M => (if (F_X9_ends (F_X9_protests b a k σ1).1 σ3).1 = 1 then (1, σ5) else (0, σ5))))))))
def P_X9_protest (b : Int32) (a : Int32) (k : Int32) (σ : q_M) : Prop := ((P_X9_keeps σ) ∧ (∀ σ1 : q_M, (F_X9_keeps σ) = σ1 → ((P_X9_protests b a k σ1) ∧ (∀ σ3 : q_M, (F_X9_protests b a k σ1).2 = σ3 → ((P_X9_ends (F_X9_protests b a k σ1).1 σ3) ∧ True)))))
set_option maxRecDepth 100000 in
theorem k_X9_protest {α β : Nat → Nat} {D : va_G} {κ : Nat → ClassId} (b : Int32) (a : Int32) (k : Int32) (σ : q_M) (hP : P_X9_protest b a k σ) : q_C α β D κ yX9_protest cX9_protest 4 (Option.some Jvm.ClassFile.FieldType.boolean) 3 67 0 0 [.ref 229, .int b, .int a, .int k] σ (q_oi (F_X9_protest b a k σ).1) (F_X9_protest b a k σ).2 := by
  refine q_enter (own := RX9) (F := F_X9) (G := G_X9) (by decide +kernel) rfl Fok_X9 Gok_X9 (Nat.le_of_ble_eq_true rfl) (fun p l e s m args below meth c A hfl C hr hT => ?_)
  generalize hF : F_X9_protest b a k σ = rr
  unfold F_X9_protest at hF
  refine q_go C tk_X9_protest [(0, 1)] [] (pc1 := 1) (σ1 := σ) (lv1 := [(0, .ref 229), (1, .int b), (2, .int a), (3, .int k)]) (st1 := [.ref 229]) rfl trivial ?_
  refine q_callV C hfl mw_X9_keeps mi_X9_keeps me_X9_keeps lk_X9_56 (k_X9_keeps σ hP.1) (rest := []) rfl rfl rfl (by decide) (by decide) rfl (q_dc (z := (1, .invokevirtual 56, 3, 0, 0)) tk_X9_protest 1 rfl) (Nat.le_of_ble_eq_true rfl) ⟨Nat.le_of_ble_eq_true rfl, Nat.le_of_ble_eq_true rfl⟩ ⟨Nat.le_of_ble_eq_true rfl, Nat.le_of_ble_eq_true rfl⟩ ?_
  refine q_nrm 4 [] 0 0 rfl rfl rfl rfl ?_
  generalize e2 : (F_X9_keeps σ) = σ1
  replace hF := q_let e2 hF
  refine q_go C tk_X9_protest [(2, 5)] [] (pc1 := 9) (σ1 := σ1) (lv1 := [(0, .ref 229), (1, .int b), (2, .int a), (3, .int k)]) (st1 := [.int k, .int a, .int b, .ref 229, .ref 229]) rfl trivial ?_
  refine q_callV C hfl mw_X9_protests mi_X9_protests me_X9_protests lk_X9_142 (k_X9_protests b a k σ1 (hP.2 σ1 e2).1) (rest := [.ref 229]) rfl rfl rfl (by decide) (by decide) rfl (q_dc (z := (9, .invokevirtual 142, 3, 0, 0)) tk_X9_protest 7 rfl) (Nat.le_of_ble_eq_true rfl) ⟨Nat.le_of_ble_eq_true rfl, Nat.le_of_ble_eq_true rfl⟩ ⟨Nat.le_of_ble_eq_true rfl, Nat.le_of_ble_eq_true rfl⟩ ?_
  refine q_nrm 12 [.int (F_X9_protests b a k σ1).1, .ref 229] 0 0 rfl rfl rfl rfl ?_
  generalize e4 : (F_X9_protests b a k σ1).2 = σ3
  replace hF := q_let e4 hF
  refine q_callV C hfl mw_X9_ends mi_X9_ends me_X9_ends lk_X9_71 (k_X9_ends (F_X9_protests b a k σ1).1 σ3 ((hP.2 σ1 e2).2 σ3 e4).1) (rest := []) rfl rfl rfl (by decide) (by decide) rfl (q_dc (z := (12, .invokevirtual 71, 3, 0, 0)) tk_X9_protest 8 rfl) (Nat.le_of_ble_eq_true rfl) ⟨Nat.le_of_ble_eq_true rfl, Nat.le_of_ble_eq_true rfl⟩ ⟨Nat.le_of_ble_eq_true rfl, Nat.le_of_ble_eq_true rfl⟩ ?_
  refine q_nrm 15 [.int (F_X9_ends (F_X9_protests b a k σ1).1 σ3).1] 0 0 rfl rfl rfl rfl ?_
  generalize e6 : (F_X9_ends (F_X9_protests b a k σ1).1 σ3).2 = σ5
  replace hF := q_let e6 hF
  refine q_go C tk_X9_protest [(9, 1)] [] (pc1 := 16) (σ1 := σ5) (lv1 := [(0, .ref 229), (1, .int b), (2, .int a), (3, .int k)]) (st1 := [.int 1, .int (F_X9_ends (F_X9_protests b a k σ1).1 σ3).1]) rfl trivial ?_
  by_cases c7 : (F_X9_ends (F_X9_protests b a k σ1).1 σ3).1 = 1
  · rw [if_pos c7] at hF
    refine q_go C tk_X9_protest [(10, 3)] [false] (pc1 := 24) (σ1 := σ5) (lv1 := [(0, .ref 229), (1, .int b), (2, .int a), (3, .int k)]) (st1 := [.int 1]) rfl ⟨c7, trivial⟩ ?_
    exact q_zret C hr (q_dc (z := (24, .ireturn, 1, 0, 0)) tk_X9_protest 14 rfl) (by decide +kernel) (congrArg Prod.snd hF) (congrArg (fun z => q_oi z.1) hF.symm) (Nat.le_of_ble_eq_true rfl) (Nat.le_of_ble_eq_true rfl)
  · rw [if_neg c7] at hF
    refine q_go C tk_X9_protest [(10, 1), (13, 1)] [true] (pc1 := 24) (σ1 := σ5) (lv1 := [(0, .ref 229), (1, .int b), (2, .int a), (3, .int k)]) (st1 := [.int 0]) rfl ⟨c7, trivial⟩ ?_
    exact q_zret C hr (q_dc (z := (24, .ireturn, 1, 0, 0)) tk_X9_protest 14 rfl) (by decide +kernel) (congrArg Prod.snd hF) (congrArg (fun z => q_oi z.1) hF.symm) (Nat.le_of_ble_eq_true rfl) (Nat.le_of_ble_eq_true rfl)
def F_X9_runningCount (σ : q_M) : (Int32) × q_M := (q_L (q_up σ 229 5 0) (fun σ1 : q_M => ((F_X9_inStatus 1 σ1), σ1)))
def P_X9_runningCount (σ : q_M) : Prop := (∀ σ1 : q_M, (q_up σ 229 5 0) = σ1 → ((P_X9_inStatus 1 σ1) ∧ True))
set_option maxRecDepth 100000 in
theorem k_X9_runningCount {α β : Nat → Nat} {D : va_G} {κ : Nat → ClassId} (σ : q_M) (hP : P_X9_runningCount σ) : q_C α β D κ yX9_runningCount cX9_runningCount 1 (Option.some Jvm.ClassFile.FieldType.int) 2 45 0 0 [.ref 229] σ (q_oi (F_X9_runningCount σ).1) (F_X9_runningCount σ).2 := by
  refine q_enter (own := RX9) (F := F_X9) (G := G_X9) (by decide +kernel) rfl Fok_X9 Gok_X9 (Nat.le_of_ble_eq_true rfl) (fun p l e s m args below meth c A hfl C hr hT => ?_)
  generalize hF : F_X9_runningCount σ = rr
  unfold F_X9_runningCount at hF
  refine q_go C tk_X9_runningCount [(0, 5)] [] (pc1 := 7) (σ1 := (q_up σ 229 5 0)) (lv1 := [(0, .ref 229)]) (st1 := [.int 1, .ref 229]) rfl ⟨rfl, trivial⟩ ?_
  generalize e2 : (q_up σ 229 5 0) = σ1
  replace hF := q_let e2 hF
  refine q_callV C hfl mw_X9_inStatus mi_X9_inStatus me_X9_inStatus lk_X9_109 (k_X9_inStatus 1 σ1 (hP σ1 e2).1) (rest := []) rfl rfl rfl (by decide) (by decide) rfl (q_dc (z := (7, .invokevirtual 109, 3, 0, 0)) tk_X9_runningCount 5 rfl) (Nat.le_of_ble_eq_true rfl) ⟨Nat.le_of_ble_eq_true rfl, Nat.le_of_ble_eq_true rfl⟩ ⟨Nat.le_of_ble_eq_true rfl, Nat.le_of_ble_eq_true rfl⟩ ?_
  refine q_nrm 10 [.int (F_X9_inStatus 1 σ1)] 0 0 rfl rfl rfl rfl ?_
  exact q_iret C hr (q_dc (z := (10, .ireturn, 1, 0, 0)) tk_X9_runningCount 6 rfl) (congrArg Prod.snd hF) (congrArg (fun z => q_oi z.1) hF.symm) (Nat.le_of_ble_eq_true rfl) (Nat.le_of_ble_eq_true rfl)
def F_X9_isFinished (σ : q_M) : (Int32) × q_M := (q_L (q_up σ 229 5 0) (fun σ1 : q_M => (if (F_X9_isUnprepared σ1) = 0 then (0, σ1) else (if (F_X9_inStatus 1 σ1) = 0 then (1, σ1) else (0, σ1)))))
def P_X9_isFinished (σ : q_M) : Prop := (∀ σ1 : q_M, (q_up σ 229 5 0) = σ1 → (((F_X9_isUnprepared σ1) = 0 → True) ∧ (¬ (F_X9_isUnprepared σ1) = 0 → ((P_X9_inStatus 1 σ1) ∧ True))))
set_option maxRecDepth 100000 in
theorem k_X9_isFinished {α β : Nat → Nat} {D : va_G} {κ : Nat → ClassId} (σ : q_M) (hP : P_X9_isFinished σ) : q_C α β D κ yX9_isFinished cX9_isFinished 1 (Option.some Jvm.ClassFile.FieldType.boolean) 2 45 0 0 [.ref 229] σ (q_oi (F_X9_isFinished σ).1) (F_X9_isFinished σ).2 := by
  refine q_enter (own := RX9) (F := F_X9) (G := G_X9) (by decide +kernel) rfl Fok_X9 Gok_X9 (Nat.le_of_ble_eq_true rfl) (fun p l e s m args below meth c A hfl C hr hT => ?_)
  generalize hF : F_X9_isFinished σ = rr
  unfold F_X9_isFinished at hF
  refine q_go C tk_X9_isFinished [(0, 4)] [] (pc1 := 6) (σ1 := (q_up σ 229 5 0)) (lv1 := [(0, .ref 229)]) (st1 := [.ref 229]) rfl ⟨rfl, trivial⟩ ?_
  generalize e2 : (q_up σ 229 5 0) = σ1
  replace hF := q_let e2 hF
  refine q_callV C hfl mw_X9_isUnprepared mi_X9_isUnprepared me_X9_isUnprepared lk_X9_59 (k_X9_isUnprepared σ1) (rest := []) rfl rfl rfl (by decide) (by decide) rfl (q_dc (z := (6, .invokevirtual 59, 3, 0, 0)) tk_X9_isFinished 4 rfl) (Nat.le_of_ble_eq_true rfl) ⟨Nat.le_of_ble_eq_true rfl, Nat.le_of_ble_eq_true rfl⟩ ⟨Nat.le_of_ble_eq_true rfl, Nat.le_of_ble_eq_true rfl⟩ ?_
  refine q_nrm 9 [.int (F_X9_isUnprepared σ1)] 0 0 rfl rfl rfl rfl ?_
  by_cases c3 : (F_X9_isUnprepared σ1) = 0
  · rw [if_pos c3] at hF
    refine q_go C tk_X9_isFinished [(5, 1), (12, 1)] [true] (pc1 := 25) (σ1 := σ1) (lv1 := [(0, .ref 229)]) (st1 := [.int 0]) rfl ⟨c3, trivial⟩ ?_
    exact q_zret C hr (q_dc (z := (25, .ireturn, 1, 0, 0)) tk_X9_isFinished 13 rfl) (by decide +kernel) (congrArg Prod.snd hF) (congrArg (fun z => q_oi z.1) hF.symm) (Nat.le_of_ble_eq_true rfl) (Nat.le_of_ble_eq_true rfl)
  · rw [if_neg c3] at hF
    refine q_go C tk_X9_isFinished [(5, 3)] [false] (pc1 := 14) (σ1 := σ1) (lv1 := [(0, .ref 229)]) (st1 := [.int 1, .ref 229]) rfl ⟨c3, trivial⟩ ?_
    refine q_callV C hfl mw_X9_inStatus mi_X9_inStatus me_X9_inStatus lk_X9_109 (k_X9_inStatus 1 σ1 ((hP σ1 e2).2 c3).1) (rest := []) rfl rfl rfl (by decide) (by decide) rfl (q_dc (z := (14, .invokevirtual 109, 3, 0, 0)) tk_X9_isFinished 8 rfl) (Nat.le_of_ble_eq_true rfl) ⟨Nat.le_of_ble_eq_true rfl, Nat.le_of_ble_eq_true rfl⟩ ⟨Nat.le_of_ble_eq_true rfl, Nat.le_of_ble_eq_true rfl⟩ ?_
    refine q_nrm 17 [.int (F_X9_inStatus 1 σ1)] 0 0 rfl rfl rfl rfl ?_
    by_cases c4 : (F_X9_inStatus 1 σ1) = 0
    · rw [if_pos c4] at hF
      refine q_go C tk_X9_isFinished [(9, 3)] [false] (pc1 := 25) (σ1 := σ1) (lv1 := [(0, .ref 229)]) (st1 := [.int 1]) rfl ⟨c4, trivial⟩ ?_
      exact q_zret C hr (q_dc (z := (25, .ireturn, 1, 0, 0)) tk_X9_isFinished 13 rfl) (by decide +kernel) (congrArg Prod.snd hF) (congrArg (fun z => q_oi z.1) hF.symm) (Nat.le_of_ble_eq_true rfl) (Nat.le_of_ble_eq_true rfl)
    · rw [if_neg c4] at hF
      refine q_go C tk_X9_isFinished [(9, 1), (12, 1)] [true] (pc1 := 25) (σ1 := σ1) (lv1 := [(0, .ref 229)]) (st1 := [.int 0]) rfl ⟨c4, trivial⟩ ?_
      exact q_zret C hr (q_dc (z := (25, .ireturn, 1, 0, 0)) tk_X9_isFinished 13 rfl) (by decide +kernel) (congrArg Prod.snd hF) (congrArg (fun z => q_oi z.1) hF.symm) (Nat.le_of_ble_eq_true rfl) (Nat.le_of_ble_eq_true rfl)
def FL_X9_teamInLane_2 (q : Int32) : Nat → Int32 → q_M → (Int32) × q_M
  | 0, v2, τ => (0, τ)
  | nn + 1, v2, τ => (if v2 < (τ 230 3) then (if (F_X9_of v2 4 τ) = q then (v2, (q_up τ 229 5 0)) else (FL_X9_teamInLane_2 q nn (v2 + 1) τ)) else (0, (q_up τ 229 5 1)))
def PL_X9_teamInLane_2 (q : Int32) : Nat → Int32 → q_M → Prop
  | 0, v2, τ => False
  | nn + 1, v2, τ => ((v2 < (τ 230 3) → ((P_X9_of v2 4 τ) ∧ (((F_X9_of v2 4 τ) = q → True) ∧ (¬ (F_X9_of v2 4 τ) = q → (PL_X9_teamInLane_2 q nn (v2 + 1) τ))))) ∧ (¬ v2 < (τ 230 3) → True))
set_option maxRecDepth 100000 in
theorem kl_X9_teamInLane_2 {α β : Nat → Nat} {D : va_G} {κ : Nat → ClassId} (q : Int32) {p : Program} {l : Launch} {e : Env} {s : State} {m : MethodId} {args : Array Value} {below : List Frame} {meth : Method} {c : Code} {A : Nat → Prop} (hfl : l.flags = flags0) (C : q_Cx α β D κ p s m args meth c cX9_teamInLane RX9 F_X9 G_X9 3 A) (hr : meth.sig.returnType = (Option.some Jvm.ClassFile.FieldType.int)) (hT : ∀ x ∈ c.exceptionTable.toList, False) : ∀ (nn : Nat) (v2 : Int32) (τ : q_M) (rr : (Int32) × q_M), PL_X9_teamInLane_2 q nn v2 τ → FL_X9_teamInLane_2 q nn v2 τ = rr → q_St α β D κ p l e ({ frames := 1, cells := 0, slots := 0, locals := 22 } : Room) s m args below meth c 3 A (vx_MQ below (q_Qc α β D κ A (q_oi rr.1) rr.2) (q_XC α β D κ A (q_oi rr.1) rr.2) args s 0 0 A) 0 0 τ [(0, .ref 229), (1, .int q), (2, .int v2)] 2 [] := by
  intro nn
  induction nn with
  | zero => intro v2 τ rr hP; exact hP.elim
  | succ nn ih =>
    intro v2 τ rr hP hF
    unfold FL_X9_teamInLane_2 at hF
    refine q_go C tk_X9_teamInLane [(2, 5)] [] (pc1 := 9) (σ1 := τ) (lv1 := [(0, .ref 229), (1, .int q), (2, .int v2)]) (st1 := [.int (τ 230 3), .int v2]) rfl ⟨rfl, rfl, (by unfold vp_in; decide +kernel), trivial⟩ ?_
    by_cases c1 : v2 < (τ 230 3)
    · rw [if_pos c1] at hF
      refine q_go C tk_X9_teamInLane [(7, 4)] [false] (pc1 := 15) (σ1 := τ) (lv1 := [(0, .ref 229), (1, .int q), (2, .int v2)]) (st1 := [.int 4, .int v2, .ref 229]) rfl ⟨c1, trivial⟩ ?_
      refine q_callV C hfl mw_X9_of mi_X9_of me_X9_of lk_X9_52 (k_X9_of v2 4 τ (hP.1 c1).1) (rest := []) rfl rfl rfl (by decide) (by decide) rfl (q_dc (z := (15, .invokevirtual 52, 3, 0, 0)) tk_X9_teamInLane 11 rfl) (Nat.le_of_ble_eq_true rfl) ⟨Nat.le_of_ble_eq_true rfl, Nat.le_of_ble_eq_true rfl⟩ ⟨Nat.le_of_ble_eq_true rfl, Nat.le_of_ble_eq_true rfl⟩ ?_
      refine q_nrm 18 [.int (F_X9_of v2 4 τ)] 0 0 rfl rfl rfl rfl ?_
      refine q_go C tk_X9_teamInLane [(12, 1)] [] (pc1 := 19) (σ1 := τ) (lv1 := [(0, .ref 229), (1, .int q), (2, .int v2)]) (st1 := [.int q, .int (F_X9_of v2 4 τ)]) rfl trivial ?_
      by_cases c2 : (F_X9_of v2 4 τ) = q
      · rw [if_pos c2] at hF
        refine q_go C tk_X9_teamInLane [(13, 5)] [false] (pc1 := 28) (σ1 := (q_up τ 229 5 0)) (lv1 := [(0, .ref 229), (1, .int q), (2, .int v2)]) (st1 := [.int v2]) rfl ⟨c2, rfl, trivial⟩ ?_
        exact q_iret C hr (q_dc (z := (28, .ireturn, 1, 0, 0)) tk_X9_teamInLane 18 rfl) (congrArg Prod.snd hF) (congrArg (fun z => q_oi z.1) hF.symm) (Nat.le_of_ble_eq_true rfl) (Nat.le_of_ble_eq_true rfl)
      · rw [if_neg c2] at hF
        refine q_go C tk_X9_teamInLane [(13, 1), (19, 2)] [true] (pc1 := 2) (σ1 := τ) (lv1 := [(2, .int (v2 + 1)), (0, .ref 229), (1, .int q)]) (st1 := []) rfl ⟨c2, trivial⟩ ?_
        refine q_lvpick [1, 2, 0] (lv' := [(0, .ref 229), (1, .int q), (2, .int (v2 + 1))]) rfl ?_
        exact ih (v2 + 1) τ rr ((hP.1 c1).2.2 c2) hF
    · rw [if_neg c1] at hF
      refine q_go C tk_X9_teamInLane [(7, 1), (21, 4)] [true] (pc1 := 41) (σ1 := (q_up τ 229 5 1)) (lv1 := [(0, .ref 229), (1, .int q), (2, .int v2)]) (st1 := [.int 0]) rfl ⟨c1, rfl, trivial⟩ ?_
      exact q_iret C hr (q_dc (z := (41, .ireturn, 1, 0, 0)) tk_X9_teamInLane 25 rfl) (congrArg Prod.snd hF) (congrArg (fun z => q_oi z.1) hF.symm) (Nat.le_of_ble_eq_true rfl) (Nat.le_of_ble_eq_true rfl)
def F_X9_teamInLane (q : Int32) (σ : q_M) : (Int32) × q_M := (FL_X9_teamInLane_2 q 10 0 σ)
def P_X9_teamInLane (q : Int32) (σ : q_M) : Prop := (PL_X9_teamInLane_2 q 10 0 σ)
set_option maxRecDepth 100000 in
theorem k_X9_teamInLane {α β : Nat → Nat} {D : va_G} {κ : Nat → ClassId} (q : Int32) (σ : q_M) (hP : P_X9_teamInLane q σ) : q_C α β D κ yX9_teamInLane cX9_teamInLane 3 (Option.some Jvm.ClassFile.FieldType.int) 1 22 0 0 [.ref 229, .int q] σ (q_oi (F_X9_teamInLane q σ).1) (F_X9_teamInLane q σ).2 := by
  refine q_enter (own := RX9) (F := F_X9) (G := G_X9) (by decide +kernel) rfl Fok_X9 Gok_X9 (Nat.le_of_ble_eq_true rfl) (fun p l e s m args below meth c A hfl C hr hT => ?_)
  generalize hF : F_X9_teamInLane q σ = rr
  unfold F_X9_teamInLane at hF
  refine q_go C tk_X9_teamInLane [(0, 2)] [] (pc1 := 2) (σ1 := σ) (lv1 := [(2, .int 0), (0, .ref 229), (1, .int q)]) (st1 := []) rfl trivial ?_
  refine q_lvpick [1, 2, 0] (lv' := [(0, .ref 229), (1, .int q), (2, .int 0)]) rfl ?_
  exact kl_X9_teamInLane_2 q  hfl C hr hT 10 0 σ rr hP hF
def FL_X9_splitSum_27 (t : Int32) : Nat → Int32 → Int32 → q_M → (Int32) × q_M
  | 0, v2, v3, τ => (0, τ)
  | nn + 1, v2, v3, τ => (if v3 < 4 then (q_L ((F_X9_of t (14 + v3) τ) - 1) (fun x3 : Int32 => (q_L (if x3 < 0 then 0 else x3) (fun x6 : Int32 => (FL_X9_splitSum_27 t nn (v2 + x6) (v3 + 1) τ))))) else (v2, τ))
def PL_X9_splitSum_27 (t : Int32) : Nat → Int32 → Int32 → q_M → Prop
  | 0, v2, v3, τ => False
  | nn + 1, v2, v3, τ => ((v3 < 4 → ((P_X9_of t (14 + v3) τ) ∧ (∀ x3 : Int32, ((F_X9_of t (14 + v3) τ) - 1) = x3 → (True ∧ (∀ x6 : Int32, (if x3 < 0 then 0 else x3) = x6 → (PL_X9_splitSum_27 t nn (v2 + x6) (v3 + 1) τ)))))) ∧ (¬ v3 < 4 → True))
set_option maxRecDepth 100000 in
theorem kl_X9_splitSum_27 {α β : Nat → Nat} {D : va_G} {κ : Nat → ClassId} (t : Int32) {p : Program} {l : Launch} {e : Env} {s : State} {m : MethodId} {args : Array Value} {below : List Frame} {meth : Method} {c : Code} {A : Nat → Prop} (hfl : l.flags = flags0) (C : q_Cx α β D κ p s m args meth c cX9_splitSum RX9 F_X9 G_X9 5 A) (hr : meth.sig.returnType = (Option.some Jvm.ClassFile.FieldType.int)) (hT : ∀ x ∈ c.exceptionTable.toList, False) : ∀ (nn : Nat) (v2 : Int32) (v3 : Int32) (τ : q_M) (rr : (Int32) × q_M), PL_X9_splitSum_27 t nn v2 v3 τ → FL_X9_splitSum_27 t nn v2 v3 τ = rr → q_St α β D κ p l e ({ frames := 2, cells := 0, slots := 0, locals := 43 } : Room) s m args below meth c 5 A (vx_MQ below (q_Qc α β D κ A (q_oi rr.1) rr.2) (q_XC α β D κ A (q_oi rr.1) rr.2) args s 0 0 A) 0 0 τ [(0, .ref 229), (1, .int t), (2, .int v2), (3, .int v3)] 27 [] := by
  intro nn
  induction nn with
  | zero => intro v2 v3 τ rr hP; exact hP.elim
  | succ nn ih =>
    intro v2 v3 τ rr hP hF
    unfold FL_X9_splitSum_27 at hF
    refine q_go C tk_X9_splitSum [(17, 2)] [] (pc1 := 29) (σ1 := τ) (lv1 := [(0, .ref 229), (1, .int t), (2, .int v2), (3, .int v3)]) (st1 := [.int 4, .int v3]) rfl trivial ?_
    by_cases c2 : v3 < 4
    · rw [if_pos c2] at hF
      refine q_go C tk_X9_splitSum [(19, 6)] [false] (pc1 := 38) (σ1 := τ) (lv1 := [(0, .ref 229), (1, .int t), (2, .int v2), (3, .int v3)]) (st1 := [.int (14 + v3), .int t, .ref 229]) rfl ⟨c2, trivial⟩ ?_
      refine q_callV C hfl mw_X9_of mi_X9_of me_X9_of lk_X9_52 (k_X9_of t (14 + v3) τ (hP.1 c2).1) (rest := []) rfl rfl rfl (by decide) (by decide) rfl (q_dc (z := (38, .invokevirtual 52, 3, 0, 0)) tk_X9_splitSum 25 rfl) (Nat.le_of_ble_eq_true rfl) ⟨Nat.le_of_ble_eq_true rfl, Nat.le_of_ble_eq_true rfl⟩ ⟨Nat.le_of_ble_eq_true rfl, Nat.le_of_ble_eq_true rfl⟩ ?_
      refine q_nrm 41 [.int (F_X9_of t (14 + v3) τ)] 0 0 rfl rfl rfl rfl ?_
      refine q_go C tk_X9_splitSum [(26, 2)] [] (pc1 := 43) (σ1 := τ) (lv1 := [(0, .ref 229), (1, .int t), (2, .int v2), (3, .int v3)]) (st1 := [.int ((F_X9_of t (14 + v3) τ) - 1)]) rfl trivial ?_
      generalize e4 : ((F_X9_of t (14 + v3) τ) - 1) = x3
      replace hF := q_let e4 hF
      refine q_go C tk_X9_splitSum [(28, 3)] [] (pc1 := 48) (σ1 := τ) (lv1 := [(4, .int x3), (0, .ref 229), (1, .int t), (2, .int v2), (3, .int v3)]) (st1 := [.int x3, .int v2]) rfl trivial ?_
      refine q_mrg (v := (if x3 < 0 then 0 else x3)) (M := 57) (σ1 := τ) (lv1 := [(4, .int x3), (0, .ref 229), (1, .int t), (2, .int v2), (3, .int v3)]) (st1 := [.int v2]) (fun x6 e7 => ?_) (fun K => ?_)
      · replace hF := q_let e7 hF
        refine q_go C tk_X9_splitSum [(35, 4)] [] (pc1 := 27) (σ1 := τ) (lv1 := [(3, .int (v3 + 1)), (2, .int (v2 + x6)), (4, .int x3), (0, .ref 229), (1, .int t)]) (st1 := []) rfl trivial ?_
        refine q_lvpick [3, 4, 1, 0] (lv' := [(0, .ref 229), (1, .int t), (2, .int (v2 + x6)), (3, .int (v3 + 1))]) rfl ?_
        exact ih (v2 + x6) (v3 + 1) τ rr (((hP.1 c2).2 x3 e4).2 x6 e7) hF
      · clear hF
        by_cases c5 : x3 < 0
        · skip
          refine q_go C tk_X9_splitSum [(31, 3)] [false] (pc1 := 57) (σ1 := τ) (lv1 := [(4, .int x3), (0, .ref 229), (1, .int t), (2, .int v2), (3, .int v3)]) (st1 := [.int 0, .int v2]) rfl ⟨c5, trivial⟩ ?_
          rw [if_pos c5] at K; exact K
        · skip
          refine q_go C tk_X9_splitSum [(31, 1), (34, 1)] [true] (pc1 := 57) (σ1 := τ) (lv1 := [(4, .int x3), (0, .ref 229), (1, .int t), (2, .int v2), (3, .int v3)]) (st1 := [.int x3, .int v2]) rfl ⟨c5, trivial⟩ ?_
          rw [if_neg c5] at K; exact K
    · rw [if_neg c2] at hF
      refine q_go C tk_X9_splitSum [(19, 1), (39, 1)] [true] (pc1 := 66) (σ1 := τ) (lv1 := [(0, .ref 229), (1, .int t), (2, .int v2), (3, .int v3)]) (st1 := [.int v2]) rfl ⟨c2, trivial⟩ ?_
      exact q_iret C hr (q_dc (z := (66, .ireturn, 1, 0, 0)) tk_X9_splitSum 40 rfl) (congrArg Prod.snd hF) (congrArg (fun z => q_oi z.1) hF.symm) (Nat.le_of_ble_eq_true rfl) (Nat.le_of_ble_eq_true rfl)
def F_X9_splitSum (t : Int32) (σ : q_M) : (Int32) × q_M := (if (F_X9_isTeam t σ) = 0 then (0, (q_up σ 229 5 1)) else (FL_X9_splitSum_27 t 8 0 0 (q_up σ 229 5 0)))
def P_X9_splitSum (t : Int32) (σ : q_M) : Prop := (((F_X9_isTeam t σ) = 0 → True) ∧ (¬ (F_X9_isTeam t σ) = 0 → (PL_X9_splitSum_27 t 8 0 0 (q_up σ 229 5 0))))
set_option maxRecDepth 100000 in
theorem k_X9_splitSum {α β : Nat → Nat} {D : va_G} {κ : Nat → ClassId} (t : Int32) (σ : q_M) (hP : P_X9_splitSum t σ) : q_C α β D κ yX9_splitSum cX9_splitSum 5 (Option.some Jvm.ClassFile.FieldType.int) 2 43 0 0 [.ref 229, .int t] σ (q_oi (F_X9_splitSum t σ).1) (F_X9_splitSum t σ).2 := by
  refine q_enter (own := RX9) (F := F_X9) (G := G_X9) (by decide +kernel) rfl Fok_X9 Gok_X9 (Nat.le_of_ble_eq_true rfl) (fun p l e s m args below meth c A hfl C hr hT => ?_)
  generalize hF : F_X9_splitSum t σ = rr
  unfold F_X9_splitSum at hF
  refine q_go C tk_X9_splitSum [(0, 3)] [] (pc1 := 3) (σ1 := σ) (lv1 := [(0, .ref 229), (1, .int t)]) (st1 := [.int t, .ref 229, .ref 229]) rfl trivial ?_
  refine q_callV C hfl mw_X9_isTeam mi_X9_isTeam me_X9_isTeam lk_X9_75 (k_X9_isTeam t σ) (rest := [.ref 229]) rfl rfl rfl (by decide) (by decide) rfl (q_dc (z := (3, .invokevirtual 75, 3, 0, 0)) tk_X9_splitSum 3 rfl) (Nat.le_of_ble_eq_true rfl) ⟨Nat.le_of_ble_eq_true rfl, Nat.le_of_ble_eq_true rfl⟩ ⟨Nat.le_of_ble_eq_true rfl, Nat.le_of_ble_eq_true rfl⟩ ?_
  refine q_nrm 6 [.int (F_X9_isTeam t σ), .ref 229] 0 0 rfl rfl rfl rfl ?_
  by_cases c1 : (F_X9_isTeam t σ) = 0
  · rw [if_pos c1] at hF
    refine q_go C tk_X9_splitSum [(4, 3), (8, 1)] [false] (pc1 := 15) (σ1 := σ) (lv1 := [(0, .ref 229), (1, .int t)]) (st1 := [.int 1, .int 1, .ref 229]) rfl ⟨c1, trivial⟩ ?_
    refine q_callV C hfl mw_X9_isThrown mi_X9_isThrown me_X9_isThrown lk_X9_63 (k_X9_isThrownN 1 1 σ (by decide) (by decide)) (rest := []) rfl rfl rfl (by decide) (by decide) rfl (q_dc (z := (15, .invokevirtual 63, 3, 0, 0)) tk_X9_splitSum 9 rfl) (Nat.le_of_ble_eq_true rfl) ⟨Nat.le_of_ble_eq_true rfl, Nat.le_of_ble_eq_true rfl⟩ ⟨Nat.le_of_ble_eq_true rfl, Nat.le_of_ble_eq_true rfl⟩ ?_
    refine q_nrm 18 [.int 1] 0 0 rfl rfl rfl rfl ?_
    refine q_go C tk_X9_splitSum [(10, 2)] [false] (pc1 := 22) (σ1 := (q_up σ 229 5 1)) (lv1 := [(0, .ref 229), (1, .int t)]) (st1 := [.int 0]) rfl ⟨(by decide : ¬ (1 : Int32) = 0), trivial⟩ ?_
    exact q_iret C hr (q_dc (z := (22, .ireturn, 1, 0, 0)) tk_X9_splitSum 12 rfl) (congrArg Prod.snd hF) (congrArg (fun z => q_oi z.1) hF.symm) (Nat.le_of_ble_eq_true rfl) (Nat.le_of_ble_eq_true rfl)
  · rw [if_neg c1] at hF
    refine q_go C tk_X9_splitSum [(4, 1), (7, 2)] [true] (pc1 := 15) (σ1 := σ) (lv1 := [(0, .ref 229), (1, .int t)]) (st1 := [.int 1, .int 0, .ref 229]) rfl ⟨c1, trivial⟩ ?_
    refine q_callV C hfl mw_X9_isThrown mi_X9_isThrown me_X9_isThrown lk_X9_63 (k_X9_isThrownZ 0 1 σ (by decide)) (rest := []) rfl rfl rfl (by decide) (by decide) rfl (q_dc (z := (15, .invokevirtual 63, 3, 0, 0)) tk_X9_splitSum 9 rfl) (Nat.le_of_ble_eq_true rfl) ⟨Nat.le_of_ble_eq_true rfl, Nat.le_of_ble_eq_true rfl⟩ ⟨Nat.le_of_ble_eq_true rfl, Nat.le_of_ble_eq_true rfl⟩ ?_
    refine q_nrm 18 [.int 0] 0 0 rfl rfl rfl rfl ?_
    refine q_go C tk_X9_splitSum [(10, 1), (13, 4)] [true] (pc1 := 27) (σ1 := (q_up σ 229 5 0)) (lv1 := [(3, .int 0), (2, .int 0), (0, .ref 229), (1, .int t)]) (st1 := []) rfl ⟨(by decide : (0 : Int32) = 0), trivial⟩ ?_
    refine q_lvpick [2, 3, 1, 0] (lv' := [(0, .ref 229), (1, .int t), (2, .int 0), (3, .int 0)]) rfl ?_
    exact kl_X9_splitSum_27 t  hfl C hr hT 8 0 0 (q_up σ 229 5 0) rr (hP.2 c1) hF
def FL_X9_rank_4 (t : Int32) : Nat → Int32 → Int32 → q_M → Int32
  | 0, v2, v3, τ => 0
  | nn + 1, v2, v3, τ => (if v3 < (τ 230 3) then (q_L (if v3 = t then 0 else (if (F_X9_isAhead v3 t τ) = 0 then 0 else 1)) (fun x4 : Int32 => (FL_X9_rank_4 t nn (v2 + x4) (v3 + 1) τ))) else v2)
def PL_X9_rank_4 (t : Int32) : Nat → Int32 → Int32 → q_M → Prop
  | 0, v2, v3, τ => False
  | nn + 1, v2, v3, τ => ((v3 < (τ 230 3) → (((v3 = t → True) ∧ (¬ v3 = t → ((P_X9_isAhead v3 t τ) ∧ True))) ∧ (∀ x4 : Int32, (if v3 = t then 0 else (if (F_X9_isAhead v3 t τ) = 0 then 0 else 1)) = x4 → (PL_X9_rank_4 t nn (v2 + x4) (v3 + 1) τ)))) ∧ (¬ v3 < (τ 230 3) → True))
set_option maxRecDepth 100000 in
theorem kl_X9_rank_4 {α β : Nat → Nat} {D : va_G} {κ : Nat → ClassId} (t : Int32) {p : Program} {l : Launch} {e : Env} {s : State} {m : MethodId} {args : Array Value} {below : List Frame} {meth : Method} {c : Code} {A : Nat → Prop} (hfl : l.flags = flags0) (C : q_Cx α β D κ p s m args meth c cX9_rank RX9 F_X9 G_X9 4 A) (hr : meth.sig.returnType = (Option.some Jvm.ClassFile.FieldType.int)) (hT : ∀ x ∈ c.exceptionTable.toList, False) : ∀ (nn : Nat) (v2 : Int32) (v3 : Int32) (τ : q_M) (rr : Int32), PL_X9_rank_4 t nn v2 v3 τ → FL_X9_rank_4 t nn v2 v3 τ = rr → q_St α β D κ p l e ({ frames := 3, cells := 0, slots := 0, locals := 67 } : Room) s m args below meth c 4 A (vx_MQ below (q_Qc α β D κ A (q_oi rr) τ) (q_XC α β D κ A (q_oi rr) τ) args s 0 0 A) 0 0 τ [(0, .ref 229), (1, .int t), (2, .int v2), (3, .int v3)] 4 [] := by
  intro nn
  induction nn with
  | zero => intro v2 v3 τ rr hP; exact hP.elim
  | succ nn ih =>
    intro v2 v3 τ rr hP hF
    unfold FL_X9_rank_4 at hF
    refine q_go C tk_X9_rank [(4, 5)] [] (pc1 := 11) (σ1 := τ) (lv1 := [(0, .ref 229), (1, .int t), (2, .int v2), (3, .int v3)]) (st1 := [.int (τ 230 3), .int v3]) rfl ⟨rfl, rfl, (by unfold vp_in; decide +kernel), trivial⟩ ?_
    by_cases c1 : v3 < (τ 230 3)
    · rw [if_pos c1] at hF
      refine q_go C tk_X9_rank [(9, 4)] [false] (pc1 := 17) (σ1 := τ) (lv1 := [(0, .ref 229), (1, .int t), (2, .int v2), (3, .int v3)]) (st1 := [.int t, .int v3, .int v2]) rfl ⟨c1, trivial⟩ ?_
      refine q_mrg (v := (if v3 = t then 0 else (if (F_X9_isAhead v3 t τ) = 0 then 0 else 1))) (M := 34) (σ1 := τ) (lv1 := [(0, .ref 229), (1, .int t), (2, .int v2), (3, .int v3)]) (st1 := [.int v2]) (fun x4 e5 => ?_) (fun K => ?_)
      · replace hF := q_let e5 hF
        refine q_go C tk_X9_rank [(22, 4)] [] (pc1 := 4) (σ1 := τ) (lv1 := [(3, .int (v3 + 1)), (2, .int (v2 + x4)), (0, .ref 229), (1, .int t)]) (st1 := []) rfl trivial ?_
        refine q_lvpick [2, 3, 1, 0] (lv' := [(0, .ref 229), (1, .int t), (2, .int (v2 + x4)), (3, .int (v3 + 1))]) rfl ?_
        exact ih (v2 + x4) (v3 + 1) τ rr ((hP.1 c1).2 x4 e5) hF
      · clear hF
        by_cases c2 : v3 = t
        · skip
          refine q_go C tk_X9_rank [(13, 1), (21, 1)] [true] (pc1 := 34) (σ1 := τ) (lv1 := [(0, .ref 229), (1, .int t), (2, .int v2), (3, .int v3)]) (st1 := [.int 0, .int v2]) rfl ⟨c2, trivial⟩ ?_
          rw [if_pos c2] at K; exact K
        · skip
          refine q_go C tk_X9_rank [(13, 4)] [false] (pc1 := 23) (σ1 := τ) (lv1 := [(0, .ref 229), (1, .int t), (2, .int v2), (3, .int v3)]) (st1 := [.int t, .int v3, .ref 229, .int v2]) rfl ⟨c2, trivial⟩ ?_
          refine q_callV C hfl mw_X9_isAhead mi_X9_isAhead me_X9_isAhead lk_X9_157 (k_X9_isAhead v3 t τ ((hP.1 c1).1.2 c2).1) (rest := [.int v2]) rfl rfl rfl (by decide) (by decide) rfl (q_dc (z := (23, .invokevirtual 157, 3, 0, 0)) tk_X9_rank 17 rfl) (Nat.le_of_ble_eq_true rfl) ⟨Nat.le_of_ble_eq_true rfl, Nat.le_of_ble_eq_true rfl⟩ ⟨Nat.le_of_ble_eq_true rfl, Nat.le_of_ble_eq_true rfl⟩ ?_
          refine q_nrm 26 [.int (F_X9_isAhead v3 t τ), .int v2] 0 0 rfl rfl rfl rfl ?_
          by_cases c3 : (F_X9_isAhead v3 t τ) = 0
          · skip
            refine q_go C tk_X9_rank [(18, 1), (21, 1)] [true] (pc1 := 34) (σ1 := τ) (lv1 := [(0, .ref 229), (1, .int t), (2, .int v2), (3, .int v3)]) (st1 := [.int 0, .int v2]) rfl ⟨c3, trivial⟩ ?_
            rw [if_neg c2, if_pos c3] at K; exact K
          · skip
            refine q_go C tk_X9_rank [(18, 3)] [false] (pc1 := 34) (σ1 := τ) (lv1 := [(0, .ref 229), (1, .int t), (2, .int v2), (3, .int v3)]) (st1 := [.int 1, .int v2]) rfl ⟨c3, trivial⟩ ?_
            rw [if_neg c2, if_neg c3] at K; exact K
    · rw [if_neg c1] at hF
      refine q_go C tk_X9_rank [(9, 1), (26, 1)] [true] (pc1 := 43) (σ1 := τ) (lv1 := [(0, .ref 229), (1, .int t), (2, .int v2), (3, .int v3)]) (st1 := [.int v2]) rfl ⟨c1, trivial⟩ ?_
      exact q_iret C hr (q_dc (z := (43, .ireturn, 1, 0, 0)) tk_X9_rank 27 rfl) rfl (congrArg q_oi hF.symm) (Nat.le_of_ble_eq_true rfl) (Nat.le_of_ble_eq_true rfl)
def F_X9_rank (t : Int32) (σ : q_M) : Int32 := (FL_X9_rank_4 t 10 0 0 σ)
def P_X9_rank (t : Int32) (σ : q_M) : Prop := (PL_X9_rank_4 t 10 0 0 σ)
set_option maxRecDepth 100000 in
theorem k_X9_rank {α β : Nat → Nat} {D : va_G} {κ : Nat → ClassId} (t : Int32) (σ : q_M) (hP : P_X9_rank t σ) : q_C α β D κ yX9_rank cX9_rank 4 (Option.some Jvm.ClassFile.FieldType.int) 3 67 0 0 [.ref 229, .int t] σ (q_oi (F_X9_rank t σ)) σ := by
  refine q_enter (own := RX9) (F := F_X9) (G := G_X9) (by decide +kernel) rfl Fok_X9 Gok_X9 (Nat.le_of_ble_eq_true rfl) (fun p l e s m args below meth c A hfl C hr hT => ?_)
  generalize hF : F_X9_rank t σ = rr
  unfold F_X9_rank at hF
  refine q_go C tk_X9_rank [(0, 4)] [] (pc1 := 4) (σ1 := σ) (lv1 := [(3, .int 0), (2, .int 0), (0, .ref 229), (1, .int t)]) (st1 := []) rfl trivial ?_
  refine q_lvpick [2, 3, 1, 0] (lv' := [(0, .ref 229), (1, .int t), (2, .int 0), (3, .int 0)]) rfl ?_
  exact kl_X9_rank_4 t  hfl C hr hT 10 0 0 σ rr hP hF
def FL_X9_teamAtRank_2 (q : Int32) : Nat → Int32 → q_M → (Int32) × q_M
  | 0, v2, τ => (0, τ)
  | nn + 1, v2, τ => (if v2 < (τ 230 3) then (if (F_X9_rank v2 τ) = q then (v2, (q_up τ 229 5 0)) else (FL_X9_teamAtRank_2 q nn (v2 + 1) τ)) else (0, (q_up τ 229 5 1)))
def PL_X9_teamAtRank_2 (q : Int32) : Nat → Int32 → q_M → Prop
  | 0, v2, τ => False
  | nn + 1, v2, τ => ((v2 < (τ 230 3) → ((P_X9_rank v2 τ) ∧ (((F_X9_rank v2 τ) = q → True) ∧ (¬ (F_X9_rank v2 τ) = q → (PL_X9_teamAtRank_2 q nn (v2 + 1) τ))))) ∧ (¬ v2 < (τ 230 3) → True))
set_option maxRecDepth 100000 in
theorem kl_X9_teamAtRank_2 {α β : Nat → Nat} {D : va_G} {κ : Nat → ClassId} (q : Int32) {p : Program} {l : Launch} {e : Env} {s : State} {m : MethodId} {args : Array Value} {below : List Frame} {meth : Method} {c : Code} {A : Nat → Prop} (hfl : l.flags = flags0) (C : q_Cx α β D κ p s m args meth c cX9_teamAtRank RX9 F_X9 G_X9 3 A) (hr : meth.sig.returnType = (Option.some Jvm.ClassFile.FieldType.int)) (hT : ∀ x ∈ c.exceptionTable.toList, False) : ∀ (nn : Nat) (v2 : Int32) (τ : q_M) (rr : (Int32) × q_M), PL_X9_teamAtRank_2 q nn v2 τ → FL_X9_teamAtRank_2 q nn v2 τ = rr → q_St α β D κ p l e ({ frames := 4, cells := 0, slots := 0, locals := 90 } : Room) s m args below meth c 3 A (vx_MQ below (q_Qc α β D κ A (q_oi rr.1) rr.2) (q_XC α β D κ A (q_oi rr.1) rr.2) args s 0 0 A) 0 0 τ [(0, .ref 229), (1, .int q), (2, .int v2)] 2 [] := by
  intro nn
  induction nn with
  | zero => intro v2 τ rr hP; exact hP.elim
  | succ nn ih =>
    intro v2 τ rr hP hF
    unfold FL_X9_teamAtRank_2 at hF
    refine q_go C tk_X9_teamAtRank [(2, 5)] [] (pc1 := 9) (σ1 := τ) (lv1 := [(0, .ref 229), (1, .int q), (2, .int v2)]) (st1 := [.int (τ 230 3), .int v2]) rfl ⟨rfl, rfl, (by unfold vp_in; decide +kernel), trivial⟩ ?_
    by_cases c1 : v2 < (τ 230 3)
    · rw [if_pos c1] at hF
      refine q_go C tk_X9_teamAtRank [(7, 3)] [false] (pc1 := 14) (σ1 := τ) (lv1 := [(0, .ref 229), (1, .int q), (2, .int v2)]) (st1 := [.int v2, .ref 229]) rfl ⟨c1, trivial⟩ ?_
      refine q_callV C hfl mw_X9_rank mi_X9_rank me_X9_rank lk_X9_161 (k_X9_rank v2 τ (hP.1 c1).1) (rest := []) rfl rfl rfl (by decide) (by decide) rfl (q_dc (z := (14, .invokevirtual 161, 3, 0, 0)) tk_X9_teamAtRank 10 rfl) (Nat.le_of_ble_eq_true rfl) ⟨Nat.le_of_ble_eq_true rfl, Nat.le_of_ble_eq_true rfl⟩ ⟨Nat.le_of_ble_eq_true rfl, Nat.le_of_ble_eq_true rfl⟩ ?_
      refine q_nrm 17 [.int (F_X9_rank v2 τ)] 0 0 rfl rfl rfl rfl ?_
      refine q_go C tk_X9_teamAtRank [(11, 1)] [] (pc1 := 18) (σ1 := τ) (lv1 := [(0, .ref 229), (1, .int q), (2, .int v2)]) (st1 := [.int q, .int (F_X9_rank v2 τ)]) rfl trivial ?_
      by_cases c2 : (F_X9_rank v2 τ) = q
      · rw [if_pos c2] at hF
        refine q_go C tk_X9_teamAtRank [(12, 5)] [false] (pc1 := 27) (σ1 := (q_up τ 229 5 0)) (lv1 := [(0, .ref 229), (1, .int q), (2, .int v2)]) (st1 := [.int v2]) rfl ⟨c2, rfl, trivial⟩ ?_
        exact q_iret C hr (q_dc (z := (27, .ireturn, 1, 0, 0)) tk_X9_teamAtRank 17 rfl) (congrArg Prod.snd hF) (congrArg (fun z => q_oi z.1) hF.symm) (Nat.le_of_ble_eq_true rfl) (Nat.le_of_ble_eq_true rfl)
      · rw [if_neg c2] at hF
        refine q_go C tk_X9_teamAtRank [(12, 1), (18, 2)] [true] (pc1 := 2) (σ1 := τ) (lv1 := [(2, .int (v2 + 1)), (0, .ref 229), (1, .int q)]) (st1 := []) rfl ⟨c2, trivial⟩ ?_
        refine q_lvpick [1, 2, 0] (lv' := [(0, .ref 229), (1, .int q), (2, .int (v2 + 1))]) rfl ?_
        exact ih (v2 + 1) τ rr ((hP.1 c1).2.2 c2) hF
    · rw [if_neg c1] at hF
      refine q_go C tk_X9_teamAtRank [(7, 1), (20, 4)] [true] (pc1 := 40) (σ1 := (q_up τ 229 5 1)) (lv1 := [(0, .ref 229), (1, .int q), (2, .int v2)]) (st1 := [.int 0]) rfl ⟨c1, rfl, trivial⟩ ?_
      exact q_iret C hr (q_dc (z := (40, .ireturn, 1, 0, 0)) tk_X9_teamAtRank 24 rfl) (congrArg Prod.snd hF) (congrArg (fun z => q_oi z.1) hF.symm) (Nat.le_of_ble_eq_true rfl) (Nat.le_of_ble_eq_true rfl)
def F_X9_teamAtRank (q : Int32) (σ : q_M) : (Int32) × q_M := (FL_X9_teamAtRank_2 q 10 0 σ)
def P_X9_teamAtRank (q : Int32) (σ : q_M) : Prop := (PL_X9_teamAtRank_2 q 10 0 σ)
set_option maxRecDepth 100000 in
theorem k_X9_teamAtRank {α β : Nat → Nat} {D : va_G} {κ : Nat → ClassId} (q : Int32) (σ : q_M) (hP : P_X9_teamAtRank q σ) : q_C α β D κ yX9_teamAtRank cX9_teamAtRank 3 (Option.some Jvm.ClassFile.FieldType.int) 4 90 0 0 [.ref 229, .int q] σ (q_oi (F_X9_teamAtRank q σ).1) (F_X9_teamAtRank q σ).2 := by
  refine q_enter (own := RX9) (F := F_X9) (G := G_X9) (by decide +kernel) rfl Fok_X9 Gok_X9 (Nat.le_of_ble_eq_true rfl) (fun p l e s m args below meth c A hfl C hr hT => ?_)
  generalize hF : F_X9_teamAtRank q σ = rr
  unfold F_X9_teamAtRank at hF
  refine q_go C tk_X9_teamAtRank [(0, 2)] [] (pc1 := 2) (σ1 := σ) (lv1 := [(2, .int 0), (0, .ref 229), (1, .int q)]) (st1 := []) rfl trivial ?_
  refine q_lvpick [1, 2, 0] (lv' := [(0, .ref 229), (1, .int q), (2, .int 0)]) rfl ?_
  exact kl_X9_teamAtRank_2 q  hfl C hr hT 10 0 σ rr hP hF
def F_X9_rankOf (t : Int32) (σ : q_M) : (Int32) × q_M := (if (F_X9_isTeam t σ) = 0 then (0, (q_up σ 229 5 1)) else (q_L (q_up σ 229 5 0) (fun σ2 : q_M => ((F_X9_rank t σ2), σ2))))
def P_X9_rankOf (t : Int32) (σ : q_M) : Prop := (((F_X9_isTeam t σ) = 0 → True) ∧ (¬ (F_X9_isTeam t σ) = 0 → (∀ σ2 : q_M, (q_up σ 229 5 0) = σ2 → ((P_X9_rank t σ2) ∧ True))))
set_option maxRecDepth 100000 in
theorem k_X9_rankOf {α β : Nat → Nat} {D : va_G} {κ : Nat → ClassId} (t : Int32) (σ : q_M) (hP : P_X9_rankOf t σ) : q_C α β D κ yX9_rankOf cX9_rankOf 2 (Option.some Jvm.ClassFile.FieldType.int) 4 90 0 0 [.ref 229, .int t] σ (q_oi (F_X9_rankOf t σ).1) (F_X9_rankOf t σ).2 := by
  refine q_enter (own := RX9) (F := F_X9) (G := G_X9) (by decide +kernel) rfl Fok_X9 Gok_X9 (Nat.le_of_ble_eq_true rfl) (fun p l e s m args below meth c A hfl C hr hT => ?_)
  generalize hF : F_X9_rankOf t σ = rr
  unfold F_X9_rankOf at hF
  refine q_go C tk_X9_rankOf [(0, 3)] [] (pc1 := 3) (σ1 := σ) (lv1 := [(0, .ref 229), (1, .int t)]) (st1 := [.int t, .ref 229, .ref 229]) rfl trivial ?_
  refine q_callV C hfl mw_X9_isTeam mi_X9_isTeam me_X9_isTeam lk_X9_75 (k_X9_isTeam t σ) (rest := [.ref 229]) rfl rfl rfl (by decide) (by decide) rfl (q_dc (z := (3, .invokevirtual 75, 3, 0, 0)) tk_X9_rankOf 3 rfl) (Nat.le_of_ble_eq_true rfl) ⟨Nat.le_of_ble_eq_true rfl, Nat.le_of_ble_eq_true rfl⟩ ⟨Nat.le_of_ble_eq_true rfl, Nat.le_of_ble_eq_true rfl⟩ ?_
  refine q_nrm 6 [.int (F_X9_isTeam t σ), .ref 229] 0 0 rfl rfl rfl rfl ?_
  by_cases c1 : (F_X9_isTeam t σ) = 0
  · rw [if_pos c1] at hF
    refine q_go C tk_X9_rankOf [(4, 3), (8, 1)] [false] (pc1 := 15) (σ1 := σ) (lv1 := [(0, .ref 229), (1, .int t)]) (st1 := [.int 1, .int 1, .ref 229]) rfl ⟨c1, trivial⟩ ?_
    refine q_callV C hfl mw_X9_isThrown mi_X9_isThrown me_X9_isThrown lk_X9_63 (k_X9_isThrownN 1 1 σ (by decide) (by decide)) (rest := []) rfl rfl rfl (by decide) (by decide) rfl (q_dc (z := (15, .invokevirtual 63, 3, 0, 0)) tk_X9_rankOf 9 rfl) (Nat.le_of_ble_eq_true rfl) ⟨Nat.le_of_ble_eq_true rfl, Nat.le_of_ble_eq_true rfl⟩ ⟨Nat.le_of_ble_eq_true rfl, Nat.le_of_ble_eq_true rfl⟩ ?_
    refine q_nrm 18 [.int 1] 0 0 rfl rfl rfl rfl ?_
    refine q_go C tk_X9_rankOf [(10, 3)] [false] (pc1 := 30) (σ1 := (q_up σ 229 5 1)) (lv1 := [(0, .ref 229), (1, .int t)]) (st1 := [.int 0]) rfl ⟨(by decide : ¬ (1 : Int32) = 0), trivial⟩ ?_
    exact q_iret C hr (q_dc (z := (30, .ireturn, 1, 0, 0)) tk_X9_rankOf 16 rfl) (congrArg Prod.snd hF) (congrArg (fun z => q_oi z.1) hF.symm) (Nat.le_of_ble_eq_true rfl) (Nat.le_of_ble_eq_true rfl)
  · rw [if_neg c1] at hF
    refine q_go C tk_X9_rankOf [(4, 1), (7, 2)] [true] (pc1 := 15) (σ1 := σ) (lv1 := [(0, .ref 229), (1, .int t)]) (st1 := [.int 1, .int 0, .ref 229]) rfl ⟨c1, trivial⟩ ?_
    refine q_callV C hfl mw_X9_isThrown mi_X9_isThrown me_X9_isThrown lk_X9_63 (k_X9_isThrownZ 0 1 σ (by decide)) (rest := []) rfl rfl rfl (by decide) (by decide) rfl (q_dc (z := (15, .invokevirtual 63, 3, 0, 0)) tk_X9_rankOf 9 rfl) (Nat.le_of_ble_eq_true rfl) ⟨Nat.le_of_ble_eq_true rfl, Nat.le_of_ble_eq_true rfl⟩ ⟨Nat.le_of_ble_eq_true rfl, Nat.le_of_ble_eq_true rfl⟩ ?_
    refine q_nrm 18 [.int 0] 0 0 rfl rfl rfl rfl ?_
    refine q_go C tk_X9_rankOf [(10, 1), (13, 2)] [true] (pc1 := 27) (σ1 := (q_up σ 229 5 0)) (lv1 := [(0, .ref 229), (1, .int t)]) (st1 := [.int t, .ref 229]) rfl ⟨(by decide : (0 : Int32) = 0), trivial⟩ ?_
    generalize e3 : (q_up σ 229 5 0) = σ2
    replace hF := q_let e3 hF
    refine q_callV C hfl mw_X9_rank mi_X9_rank me_X9_rank lk_X9_161 (k_X9_rank t σ2 ((hP.2 c1) σ2 e3).1) (rest := []) rfl rfl rfl (by decide) (by decide) rfl (q_dc (z := (27, .invokevirtual 161, 3, 0, 0)) tk_X9_rankOf 15 rfl) (Nat.le_of_ble_eq_true rfl) ⟨Nat.le_of_ble_eq_true rfl, Nat.le_of_ble_eq_true rfl⟩ ⟨Nat.le_of_ble_eq_true rfl, Nat.le_of_ble_eq_true rfl⟩ ?_
    refine q_nrm 30 [.int (F_X9_rank t σ2)] 0 0 rfl rfl rfl rfl ?_
    exact q_iret C hr (q_dc (z := (30, .ireturn, 1, 0, 0)) tk_X9_rankOf 16 rfl) (congrArg Prod.snd hF) (congrArg (fun z => q_oi z.1) hF.symm) (Nat.le_of_ble_eq_true rfl) (Nat.le_of_ble_eq_true rfl)
def FL_X9_reach_60 (t : Int32) (g : Int32) (n : Int32) : Nat → Int32 → Int32 → q_M → (Int32) × q_M
  | 0, v4, v5, τ => (0, τ)
  | nn + 1, v4, v5, τ => (if v5 < n then (q_L (v4 + (F_X9_step (F_X9_of t (0 + g) τ) v5 τ)) (fun x7 : Int32 => (FL_X9_reach_60 t g n nn x7 (v5 + 1) τ))) else (v4, τ))
def PL_X9_reach_60 (t : Int32) (g : Int32) (n : Int32) : Nat → Int32 → Int32 → q_M → Prop
  | 0, v4, v5, τ => False
  | nn + 1, v4, v5, τ => ((v5 < n → ((P_X9_of t (0 + g) τ) ∧ (∀ x7 : Int32, (v4 + (F_X9_step (F_X9_of t (0 + g) τ) v5 τ)) = x7 → (PL_X9_reach_60 t g n nn x7 (v5 + 1) τ)))) ∧ (¬ v5 < n → True))
set_option maxRecDepth 100000 in
theorem kl_X9_reach_60 {α β : Nat → Nat} {D : va_G} {κ : Nat → ClassId} (t : Int32) (g : Int32) (n : Int32) {p : Program} {l : Launch} {e : Env} {s : State} {m : MethodId} {args : Array Value} {below : List Frame} {meth : Method} {c : Code} {A : Nat → Prop} (hfl : l.flags = flags0) (C : q_Cx α β D κ p s m args meth c cX9_reach RX9 F_X9 G_X9 6 A) (hr : meth.sig.returnType = (Option.some Jvm.ClassFile.FieldType.int)) (hT : ∀ x ∈ c.exceptionTable.toList, False) : ∀ (nn : Nat) (v4 : Int32) (v5 : Int32) (τ : q_M) (rr : (Int32) × q_M), PL_X9_reach_60 t g n nn v4 v5 τ → FL_X9_reach_60 t g n nn v4 v5 τ = rr → q_St α β D κ p l e ({ frames := 2, cells := 0, slots := 0, locals := 43 } : Room) s m args below meth c 6 A (vx_MQ below (q_Qc α β D κ A (q_oi rr.1) rr.2) (q_XC α β D κ A (q_oi rr.1) rr.2) args s 0 0 A) 0 0 τ [(0, .ref 229), (1, .int t), (2, .int g), (3, .int n), (4, .int v4), (5, .int v5)] 60 [] := by
  intro nn
  induction nn with
  | zero => intro v4 v5 τ rr hP; exact hP.elim
  | succ nn ih =>
    intro v4 v5 τ rr hP hF
    unfold FL_X9_reach_60 at hF
    refine q_go C tk_X9_reach [(32, 2)] [] (pc1 := 63) (σ1 := τ) (lv1 := [(0, .ref 229), (1, .int t), (2, .int g), (3, .int n), (4, .int v4), (5, .int v5)]) (st1 := [.int n, .int v5]) rfl trivial ?_
    by_cases c6 : v5 < n
    · rw [if_pos c6] at hF
      refine q_go C tk_X9_reach [(34, 7)] [false] (pc1 := 73) (σ1 := τ) (lv1 := [(0, .ref 229), (1, .int t), (2, .int g), (3, .int n), (4, .int v4), (5, .int v5)]) (st1 := [.int (0 + g), .int t, .ref 229, .int v4]) rfl ⟨c6, trivial⟩ ?_
      refine q_callV C hfl mw_X9_of mi_X9_of me_X9_of lk_X9_52 (k_X9_of t (0 + g) τ (hP.1 c6).1) (rest := [.int v4]) rfl rfl rfl (by decide) (by decide) rfl (q_dc (z := (73, .invokevirtual 52, 3, 0, 0)) tk_X9_reach 41 rfl) (Nat.le_of_ble_eq_true rfl) ⟨Nat.le_of_ble_eq_true rfl, Nat.le_of_ble_eq_true rfl⟩ ⟨Nat.le_of_ble_eq_true rfl, Nat.le_of_ble_eq_true rfl⟩ ?_
      refine q_nrm 76 [.int (F_X9_of t (0 + g) τ), .int v4] 0 0 rfl rfl rfl rfl ?_
      refine q_go C tk_X9_reach [(42, 1)] [] (pc1 := 78) (σ1 := τ) (lv1 := [(0, .ref 229), (1, .int t), (2, .int g), (3, .int n), (4, .int v4), (5, .int v5)]) (st1 := [.int v5, .int (F_X9_of t (0 + g) τ), .int v4]) rfl trivial ?_
      refine q_callS C hfl mw_X9_step ms_X9_step lk_X9_99 (k_X9_step (F_X9_of t (0 + g) τ) v5 τ) (rest := [.int v4]) rfl rfl (q_dc (z := (78, .invokestatic 99, 3, 0, 0)) tk_X9_reach 43 rfl) (Nat.le_of_ble_eq_true rfl) ⟨Nat.le_of_ble_eq_true rfl, Nat.le_of_ble_eq_true rfl⟩ ⟨Nat.le_of_ble_eq_true rfl, Nat.le_of_ble_eq_true rfl⟩ ?_
      refine q_nrm 81 [.int (F_X9_step (F_X9_of t (0 + g) τ) v5 τ), .int v4] 0 0 rfl rfl rfl rfl ?_
      refine q_go C tk_X9_reach [(44, 1)] [] (pc1 := 82) (σ1 := τ) (lv1 := [(0, .ref 229), (1, .int t), (2, .int g), (3, .int n), (4, .int v4), (5, .int v5)]) (st1 := [.int (v4 + (F_X9_step (F_X9_of t (0 + g) τ) v5 τ))]) rfl trivial ?_
      generalize e8 : (v4 + (F_X9_step (F_X9_of t (0 + g) τ) v5 τ)) = x7
      replace hF := q_let e8 hF
      refine q_go C tk_X9_reach [(45, 3)] [] (pc1 := 60) (σ1 := τ) (lv1 := [(5, .int (v5 + 1)), (4, .int x7), (0, .ref 229), (1, .int t), (2, .int g), (3, .int n)]) (st1 := []) rfl trivial ?_
      refine q_lvpick [2, 3, 4, 5, 1, 0] (lv' := [(0, .ref 229), (1, .int t), (2, .int g), (3, .int n), (4, .int x7), (5, .int (v5 + 1))]) rfl ?_
      exact ih x7 (v5 + 1) τ rr ((hP.1 c6).2 x7 e8) hF
    · rw [if_neg c6] at hF
      refine q_go C tk_X9_reach [(34, 1), (48, 1)] [true] (pc1 := 92) (σ1 := τ) (lv1 := [(0, .ref 229), (1, .int t), (2, .int g), (3, .int n), (4, .int v4), (5, .int v5)]) (st1 := [.int v4]) rfl ⟨c6, trivial⟩ ?_
      exact q_iret C hr (q_dc (z := (92, .ireturn, 1, 0, 0)) tk_X9_reach 49 rfl) (congrArg Prod.snd hF) (congrArg (fun z => q_oi z.1) hF.symm) (Nat.le_of_ble_eq_true rfl) (Nat.le_of_ble_eq_true rfl)
def F_X9_reach (t : Int32) (g : Int32) (n : Int32) (σ : q_M) : (Int32) × q_M := (if (F_X9_isTeam t σ) = 0 then (0, (q_up σ 229 5 1)) else (if (F_X9_isLeg g σ) = 0 then (0, (q_up σ 229 5 1)) else (q_L (q_up σ 229 5 0) (fun σ3 : q_M => (if (F_X9_isIn n 0 999 σ3) = 0 then (0, (q_up σ3 229 5 2)) else (FL_X9_reach_60 t g n 1010 0 0 (q_up σ3 229 5 0)))))))
def P_X9_reach (t : Int32) (g : Int32) (n : Int32) (σ : q_M) : Prop := (((F_X9_isTeam t σ) = 0 → True) ∧ (¬ (F_X9_isTeam t σ) = 0 → (((F_X9_isLeg g σ) = 0 → True) ∧ (¬ (F_X9_isLeg g σ) = 0 → (∀ σ3 : q_M, (q_up σ 229 5 0) = σ3 → (((F_X9_isIn n 0 999 σ3) = 0 → True) ∧ (¬ (F_X9_isIn n 0 999 σ3) = 0 → (PL_X9_reach_60 t g n 1010 0 0 (q_up σ3 229 5 0)))))))))
set_option maxRecDepth 100000 in
theorem k_X9_reach {α β : Nat → Nat} {D : va_G} {κ : Nat → ClassId} (t : Int32) (g : Int32) (n : Int32) (σ : q_M) (hP : P_X9_reach t g n σ) : q_C α β D κ yX9_reach cX9_reach 6 (Option.some Jvm.ClassFile.FieldType.int) 2 43 0 0 [.ref 229, .int t, .int g, .int n] σ (q_oi (F_X9_reach t g n σ).1) (F_X9_reach t g n σ).2 := by
  refine q_enter (own := RX9) (F := F_X9) (G := G_X9) (by decide +kernel) rfl Fok_X9 Gok_X9 (Nat.le_of_ble_eq_true rfl) (fun p l e s m args below meth c A hfl C hr hT => ?_)
  generalize hF : F_X9_reach t g n σ = rr
  unfold F_X9_reach at hF
  refine q_go C tk_X9_reach [(0, 3)] [] (pc1 := 3) (σ1 := σ) (lv1 := [(0, .ref 229), (1, .int t), (2, .int g), (3, .int n)]) (st1 := [.int t, .ref 229, .ref 229]) rfl trivial ?_
  refine q_callV C hfl mw_X9_isTeam mi_X9_isTeam me_X9_isTeam lk_X9_75 (k_X9_isTeam t σ) (rest := [.ref 229]) rfl rfl rfl (by decide) (by decide) rfl (q_dc (z := (3, .invokevirtual 75, 3, 0, 0)) tk_X9_reach 3 rfl) (Nat.le_of_ble_eq_true rfl) ⟨Nat.le_of_ble_eq_true rfl, Nat.le_of_ble_eq_true rfl⟩ ⟨Nat.le_of_ble_eq_true rfl, Nat.le_of_ble_eq_true rfl⟩ ?_
  refine q_nrm 6 [.int (F_X9_isTeam t σ), .ref 229] 0 0 rfl rfl rfl rfl ?_
  by_cases c1 : (F_X9_isTeam t σ) = 0
  · rw [if_pos c1] at hF
    refine q_go C tk_X9_reach [(4, 1), (8, 2), (11, 1)] [true] (pc1 := 22) (σ1 := σ) (lv1 := [(0, .ref 229), (1, .int t), (2, .int g), (3, .int n)]) (st1 := [.int 1, .int 1, .ref 229]) rfl ⟨c1, trivial⟩ ?_
    refine q_callV C hfl mw_X9_isThrown mi_X9_isThrown me_X9_isThrown lk_X9_63 (k_X9_isThrownN 1 1 σ (by decide) (by decide)) (rest := []) rfl rfl rfl (by decide) (by decide) rfl (q_dc (z := (22, .invokevirtual 63, 3, 0, 0)) tk_X9_reach 12 rfl) (Nat.le_of_ble_eq_true rfl) ⟨Nat.le_of_ble_eq_true rfl, Nat.le_of_ble_eq_true rfl⟩ ⟨Nat.le_of_ble_eq_true rfl, Nat.le_of_ble_eq_true rfl⟩ ?_
    refine q_nrm 25 [.int 1] 0 0 rfl rfl rfl rfl ?_
    refine q_go C tk_X9_reach [(13, 1), (26, 1)] [true] (pc1 := 53) (σ1 := (q_up σ 229 5 1)) (lv1 := [(0, .ref 229), (1, .int t), (2, .int g), (3, .int n)]) (st1 := [.int 0]) rfl ⟨(by decide : ¬ (1 : Int32) = 0), trivial⟩ ?_
    exact q_iret C hr (q_dc (z := (53, .ireturn, 1, 0, 0)) tk_X9_reach 27 rfl) (congrArg Prod.snd hF) (congrArg (fun z => q_oi z.1) hF.symm) (Nat.le_of_ble_eq_true rfl) (Nat.le_of_ble_eq_true rfl)
  · rw [if_neg c1] at hF
    refine q_go C tk_X9_reach [(4, 2)] [false] (pc1 := 10) (σ1 := σ) (lv1 := [(0, .ref 229), (1, .int t), (2, .int g), (3, .int n)]) (st1 := [.int g, .ref 229]) rfl ⟨c1, trivial⟩ ?_
    refine q_callS C hfl mw_X9_isLeg ms_X9_isLeg lk_X9_79 (k_X9_isLeg g σ) (rest := [.ref 229]) rfl rfl (q_dc (z := (10, .invokestatic 79, 3, 0, 0)) tk_X9_reach 6 rfl) (Nat.le_of_ble_eq_true rfl) ⟨Nat.le_of_ble_eq_true rfl, Nat.le_of_ble_eq_true rfl⟩ ⟨Nat.le_of_ble_eq_true rfl, Nat.le_of_ble_eq_true rfl⟩ ?_
    refine q_nrm 13 [.int (F_X9_isLeg g σ), .ref 229] 0 0 rfl rfl rfl rfl ?_
    by_cases c2 : (F_X9_isLeg g σ) = 0
    · rw [if_pos c2] at hF
      refine q_go C tk_X9_reach [(7, 3), (11, 1)] [false] (pc1 := 22) (σ1 := σ) (lv1 := [(0, .ref 229), (1, .int t), (2, .int g), (3, .int n)]) (st1 := [.int 1, .int 1, .ref 229]) rfl ⟨c2, trivial⟩ ?_
      refine q_callV C hfl mw_X9_isThrown mi_X9_isThrown me_X9_isThrown lk_X9_63 (k_X9_isThrownN 1 1 σ (by decide) (by decide)) (rest := []) rfl rfl rfl (by decide) (by decide) rfl (q_dc (z := (22, .invokevirtual 63, 3, 0, 0)) tk_X9_reach 12 rfl) (Nat.le_of_ble_eq_true rfl) ⟨Nat.le_of_ble_eq_true rfl, Nat.le_of_ble_eq_true rfl⟩ ⟨Nat.le_of_ble_eq_true rfl, Nat.le_of_ble_eq_true rfl⟩ ?_
      refine q_nrm 25 [.int 1] 0 0 rfl rfl rfl rfl ?_
      refine q_go C tk_X9_reach [(13, 1), (26, 1)] [true] (pc1 := 53) (σ1 := (q_up σ 229 5 1)) (lv1 := [(0, .ref 229), (1, .int t), (2, .int g), (3, .int n)]) (st1 := [.int 0]) rfl ⟨(by decide : ¬ (1 : Int32) = 0), trivial⟩ ?_
      exact q_iret C hr (q_dc (z := (53, .ireturn, 1, 0, 0)) tk_X9_reach 27 rfl) (congrArg Prod.snd hF) (congrArg (fun z => q_oi z.1) hF.symm) (Nat.le_of_ble_eq_true rfl) (Nat.le_of_ble_eq_true rfl)
    · rw [if_neg c2] at hF
      refine q_go C tk_X9_reach [(7, 1), (10, 2)] [true] (pc1 := 22) (σ1 := σ) (lv1 := [(0, .ref 229), (1, .int t), (2, .int g), (3, .int n)]) (st1 := [.int 1, .int 0, .ref 229]) rfl ⟨c2, trivial⟩ ?_
      refine q_callV C hfl mw_X9_isThrown mi_X9_isThrown me_X9_isThrown lk_X9_63 (k_X9_isThrownZ 0 1 σ (by decide)) (rest := []) rfl rfl rfl (by decide) (by decide) rfl (q_dc (z := (22, .invokevirtual 63, 3, 0, 0)) tk_X9_reach 12 rfl) (Nat.le_of_ble_eq_true rfl) ⟨Nat.le_of_ble_eq_true rfl, Nat.le_of_ble_eq_true rfl⟩ ⟨Nat.le_of_ble_eq_true rfl, Nat.le_of_ble_eq_true rfl⟩ ?_
      refine q_nrm 25 [.int 0] 0 0 rfl rfl rfl rfl ?_
      refine q_go C tk_X9_reach [(13, 5)] [false] (pc1 := 34) (σ1 := (q_up σ 229 5 0)) (lv1 := [(0, .ref 229), (1, .int t), (2, .int g), (3, .int n)]) (st1 := [.int 999, .int 0, .int n, .ref 229]) rfl ⟨(by decide : (0 : Int32) = 0), trivial⟩ ?_
      generalize e4 : (q_up σ 229 5 0) = σ3
      replace hF := q_let e4 hF
      refine q_callS C hfl mw_X9_isIn ms_X9_isIn lk_X9_48 (k_X9_isIn n 0 999 σ3) (rest := [.ref 229]) rfl rfl (q_dc (z := (34, .invokestatic 48, 3, 0, 0)) tk_X9_reach 18 rfl) (Nat.le_of_ble_eq_true rfl) ⟨Nat.le_of_ble_eq_true rfl, Nat.le_of_ble_eq_true rfl⟩ ⟨Nat.le_of_ble_eq_true rfl, Nat.le_of_ble_eq_true rfl⟩ ?_
      refine q_nrm 37 [.int (F_X9_isIn n 0 999 σ3), .ref 229] 0 0 rfl rfl rfl rfl ?_
      by_cases c5 : (F_X9_isIn n 0 999 σ3) = 0
      · rw [if_pos c5] at hF
        refine q_go C tk_X9_reach [(19, 3), (23, 1)] [false] (pc1 := 46) (σ1 := σ3) (lv1 := [(0, .ref 229), (1, .int t), (2, .int g), (3, .int n)]) (st1 := [.int 2, .int 1, .ref 229]) rfl ⟨c5, trivial⟩ ?_
        refine q_callV C hfl mw_X9_isThrown mi_X9_isThrown me_X9_isThrown lk_X9_63 (k_X9_isThrownN 1 2 σ3 (by decide) (by decide)) (rest := []) rfl rfl rfl (by decide) (by decide) rfl (q_dc (z := (46, .invokevirtual 63, 3, 0, 0)) tk_X9_reach 24 rfl) (Nat.le_of_ble_eq_true rfl) ⟨Nat.le_of_ble_eq_true rfl, Nat.le_of_ble_eq_true rfl⟩ ⟨Nat.le_of_ble_eq_true rfl, Nat.le_of_ble_eq_true rfl⟩ ?_
        refine q_nrm 49 [.int 1] 0 0 rfl rfl rfl rfl ?_
        refine q_go C tk_X9_reach [(25, 2)] [false] (pc1 := 53) (σ1 := (q_up σ3 229 5 2)) (lv1 := [(0, .ref 229), (1, .int t), (2, .int g), (3, .int n)]) (st1 := [.int 0]) rfl ⟨(by decide : ¬ (1 : Int32) = 0), trivial⟩ ?_
        exact q_iret C hr (q_dc (z := (53, .ireturn, 1, 0, 0)) tk_X9_reach 27 rfl) (congrArg Prod.snd hF) (congrArg (fun z => q_oi z.1) hF.symm) (Nat.le_of_ble_eq_true rfl) (Nat.le_of_ble_eq_true rfl)
      · rw [if_neg c5] at hF
        refine q_go C tk_X9_reach [(19, 1), (22, 2)] [true] (pc1 := 46) (σ1 := σ3) (lv1 := [(0, .ref 229), (1, .int t), (2, .int g), (3, .int n)]) (st1 := [.int 2, .int 0, .ref 229]) rfl ⟨c5, trivial⟩ ?_
        refine q_callV C hfl mw_X9_isThrown mi_X9_isThrown me_X9_isThrown lk_X9_63 (k_X9_isThrownZ 0 2 σ3 (by decide)) (rest := []) rfl rfl rfl (by decide) (by decide) rfl (q_dc (z := (46, .invokevirtual 63, 3, 0, 0)) tk_X9_reach 24 rfl) (Nat.le_of_ble_eq_true rfl) ⟨Nat.le_of_ble_eq_true rfl, Nat.le_of_ble_eq_true rfl⟩ ⟨Nat.le_of_ble_eq_true rfl, Nat.le_of_ble_eq_true rfl⟩ ?_
        refine q_nrm 49 [.int 0] 0 0 rfl rfl rfl rfl ?_
        refine q_go C tk_X9_reach [(25, 1), (28, 4)] [true] (pc1 := 60) (σ1 := (q_up σ3 229 5 0)) (lv1 := [(5, .int 0), (4, .int 0), (0, .ref 229), (1, .int t), (2, .int g), (3, .int n)]) (st1 := []) rfl ⟨(by decide : (0 : Int32) = 0), trivial⟩ ?_
        refine q_lvpick [2, 3, 4, 5, 1, 0] (lv' := [(0, .ref 229), (1, .int t), (2, .int g), (3, .int n), (4, .int 0), (5, .int 0)]) rfl ?_
        exact kl_X9_reach_60 t g n  hfl C hr hT 1010 0 0 (q_up σ3 229 5 0) rr ((((hP.2 c1).2 c2) σ3 e4).2 c5) hF
def F_X9_reachByStretches (t : Int32) (g : Int32) (n : Int32) (σ : q_M) : (Int32) × q_M := (q_L (F_X9_reach t g n σ).2 (fun σ1 : q_M => ((F_X9_reach t g n σ).1, σ1)))
def P_X9_reachByStretches (t : Int32) (g : Int32) (n : Int32) (σ : q_M) : Prop := ((P_X9_reach t g n σ) ∧ True)
set_option maxRecDepth 100000 in
theorem k_X9_reachByStretches {α β : Nat → Nat} {D : va_G} {κ : Nat → ClassId} (t : Int32) (g : Int32) (n : Int32) (σ : q_M) (hP : P_X9_reachByStretches t g n σ) : q_C α β D κ yX9_reachByStretches cX9_reachByStretches 4 (Option.some Jvm.ClassFile.FieldType.int) 3 68 0 0 [.ref 229, .int t, .int g, .int n] σ (q_oi (F_X9_reachByStretches t g n σ).1) (F_X9_reachByStretches t g n σ).2 := by
  refine q_enter (own := RX9) (F := F_X9) (G := G_X9) (by decide +kernel) rfl Fok_X9 Gok_X9 (Nat.le_of_ble_eq_true rfl) (fun p l e s m args below meth c A hfl C hr hT => ?_)
  generalize hF : F_X9_reachByStretches t g n σ = rr
  unfold F_X9_reachByStretches at hF
  refine q_go C tk_X9_reachByStretches [(0, 4)] [] (pc1 := 4) (σ1 := σ) (lv1 := [(0, .ref 229), (1, .int t), (2, .int g), (3, .int n)]) (st1 := [.int n, .int g, .int t, .ref 229]) rfl trivial ?_
  refine q_callV C hfl mw_X9_reach mi_X9_reach me_X9_reach lk_X9_164 (k_X9_reach t g n σ hP.1) (rest := []) rfl rfl rfl (by decide) (by decide) rfl (q_dc (z := (4, .invokevirtual 164, 3, 0, 0)) tk_X9_reachByStretches 4 rfl) (Nat.le_of_ble_eq_true rfl) ⟨Nat.le_of_ble_eq_true rfl, Nat.le_of_ble_eq_true rfl⟩ ⟨Nat.le_of_ble_eq_true rfl, Nat.le_of_ble_eq_true rfl⟩ ?_
  refine q_nrm 7 [.int (F_X9_reach t g n σ).1] 0 0 rfl rfl rfl rfl ?_
  generalize e2 : (F_X9_reach t g n σ).2 = σ1
  replace hF := q_let e2 hF
  exact q_iret C hr (q_dc (z := (7, .ireturn, 1, 0, 0)) tk_X9_reachByStretches 5 rfl) (congrArg Prod.snd hF) (congrArg (fun z => q_oi z.1) hF.symm) (Nat.le_of_ble_eq_true rfl) (Nat.le_of_ble_eq_true rfl)
def FL_X9_secondsToZone_99 (t : Int32) : Nat → Int32 → Int32 → Int32 → Int32 → q_M → (Int32) × q_M
  | 0, v2, v3, v4, v5, τ => (0, τ)
  | nn + 1, v2, v3, v4, v5, τ => (if v3 < ((F_X9_endOf v2 τ) - 100) then (q_L (v3 + (F_X9_step (F_X9_of t (0 + v2) τ) v4 τ)) (fun x17 : Int32 => (FL_X9_secondsToZone_99 t nn v2 x17 (v4 + 1) (v5 + 1) τ))) else (if v5 = 0 then (0, τ) else ((v5 + (F_X9_of t 10 τ)), τ)))
def PL_X9_secondsToZone_99 (t : Int32) : Nat → Int32 → Int32 → Int32 → Int32 → q_M → Prop
  | 0, v2, v3, v4, v5, τ => False
  | nn + 1, v2, v3, v4, v5, τ => ((v3 < ((F_X9_endOf v2 τ) - 100) → ((P_X9_of t (0 + v2) τ) ∧ (∀ x17 : Int32, (v3 + (F_X9_step (F_X9_of t (0 + v2) τ) v4 τ)) = x17 → (PL_X9_secondsToZone_99 t nn v2 x17 (v4 + 1) (v5 + 1) τ)))) ∧ (¬ v3 < ((F_X9_endOf v2 τ) - 100) → ((v5 = 0 → True) ∧ (¬ v5 = 0 → ((P_X9_of t 10 τ) ∧ True)))))
set_option maxRecDepth 100000 in
theorem kl_X9_secondsToZone_99 {α β : Nat → Nat} {D : va_G} {κ : Nat → ClassId} (t : Int32) {p : Program} {l : Launch} {e : Env} {s : State} {m : MethodId} {args : Array Value} {below : List Frame} {meth : Method} {c : Code} {A : Nat → Prop} (hfl : l.flags = flags0) (C : q_Cx α β D κ p s m args meth c cX9_secondsToZone RX9 F_X9 G_X9 6 A) (hr : meth.sig.returnType = (Option.some Jvm.ClassFile.FieldType.int)) (hT : ∀ x ∈ c.exceptionTable.toList, False) : ∀ (nn : Nat) (v2 : Int32) (v3 : Int32) (v4 : Int32) (v5 : Int32) (τ : q_M) (rr : (Int32) × q_M), PL_X9_secondsToZone_99 t nn v2 v3 v4 v5 τ → FL_X9_secondsToZone_99 t nn v2 v3 v4 v5 τ = rr → q_St α β D κ p l e ({ frames := 2, cells := 0, slots := 0, locals := 43 } : Room) s m args below meth c 6 A (vx_MQ below (q_Qc α β D κ A (q_oi rr.1) rr.2) (q_XC α β D κ A (q_oi rr.1) rr.2) args s 0 0 A) 0 0 τ [(0, .ref 229), (1, .int t), (2, .int v2), (3, .int v3), (4, .int v4), (5, .int v5)] 99 [] := by
  intro nn
  induction nn with
  | zero => intro v2 v3 v4 v5 τ rr hP; exact hP.elim
  | succ nn ih =>
    intro v2 v3 v4 v5 τ rr hP hF
    unfold FL_X9_secondsToZone_99 at hF
    refine q_go C tk_X9_secondsToZone [(56, 3)] [] (pc1 := 102) (σ1 := τ) (lv1 := [(0, .ref 229), (1, .int t), (2, .int v2), (3, .int v3), (4, .int v4), (5, .int v5)]) (st1 := [.int v2, .ref 229, .int v3]) rfl trivial ?_
    refine q_callV C hfl mw_X9_endOf mi_X9_endOf me_X9_endOf lk_X9_96 (k_X9_endOf v2 τ) (rest := [.int v3]) rfl rfl rfl (by decide) (by decide) rfl (q_dc (z := (102, .invokevirtual 96, 3, 0, 0)) tk_X9_secondsToZone 59 rfl) (Nat.le_of_ble_eq_true rfl) ⟨Nat.le_of_ble_eq_true rfl, Nat.le_of_ble_eq_true rfl⟩ ⟨Nat.le_of_ble_eq_true rfl, Nat.le_of_ble_eq_true rfl⟩ ?_
    refine q_nrm 105 [.int (F_X9_endOf v2 τ), .int v3] 0 0 rfl rfl rfl rfl ?_
    refine q_go C tk_X9_secondsToZone [(60, 2)] [] (pc1 := 108) (σ1 := τ) (lv1 := [(0, .ref 229), (1, .int t), (2, .int v2), (3, .int v3), (4, .int v4), (5, .int v5)]) (st1 := [.int ((F_X9_endOf v2 τ) - 100), .int v3]) rfl trivial ?_
    by_cases c16 : v3 < ((F_X9_endOf v2 τ) - 100)
    · rw [if_pos c16] at hF
      refine q_go C tk_X9_secondsToZone [(62, 7)] [false] (pc1 := 117) (σ1 := τ) (lv1 := [(0, .ref 229), (1, .int t), (2, .int v2), (3, .int v3), (4, .int v4), (5, .int v5)]) (st1 := [.int (0 + v2), .int t, .ref 229, .int v3]) rfl ⟨c16, trivial⟩ ?_
      refine q_callV C hfl mw_X9_of mi_X9_of me_X9_of lk_X9_52 (k_X9_of t (0 + v2) τ (hP.1 c16).1) (rest := [.int v3]) rfl rfl rfl (by decide) (by decide) rfl (q_dc (z := (117, .invokevirtual 52, 3, 0, 0)) tk_X9_secondsToZone 69 rfl) (Nat.le_of_ble_eq_true rfl) ⟨Nat.le_of_ble_eq_true rfl, Nat.le_of_ble_eq_true rfl⟩ ⟨Nat.le_of_ble_eq_true rfl, Nat.le_of_ble_eq_true rfl⟩ ?_
      refine q_nrm 120 [.int (F_X9_of t (0 + v2) τ), .int v3] 0 0 rfl rfl rfl rfl ?_
      refine q_go C tk_X9_secondsToZone [(70, 1)] [] (pc1 := 122) (σ1 := τ) (lv1 := [(0, .ref 229), (1, .int t), (2, .int v2), (3, .int v3), (4, .int v4), (5, .int v5)]) (st1 := [.int v4, .int (F_X9_of t (0 + v2) τ), .int v3]) rfl trivial ?_
      refine q_callS C hfl mw_X9_step ms_X9_step lk_X9_99 (k_X9_step (F_X9_of t (0 + v2) τ) v4 τ) (rest := [.int v3]) rfl rfl (q_dc (z := (122, .invokestatic 99, 3, 0, 0)) tk_X9_secondsToZone 71 rfl) (Nat.le_of_ble_eq_true rfl) ⟨Nat.le_of_ble_eq_true rfl, Nat.le_of_ble_eq_true rfl⟩ ⟨Nat.le_of_ble_eq_true rfl, Nat.le_of_ble_eq_true rfl⟩ ?_
      refine q_nrm 125 [.int (F_X9_step (F_X9_of t (0 + v2) τ) v4 τ), .int v3] 0 0 rfl rfl rfl rfl ?_
      refine q_go C tk_X9_secondsToZone [(72, 1)] [] (pc1 := 126) (σ1 := τ) (lv1 := [(0, .ref 229), (1, .int t), (2, .int v2), (3, .int v3), (4, .int v4), (5, .int v5)]) (st1 := [.int (v3 + (F_X9_step (F_X9_of t (0 + v2) τ) v4 τ))]) rfl trivial ?_
      generalize e18 : (v3 + (F_X9_step (F_X9_of t (0 + v2) τ) v4 τ)) = x17
      replace hF := q_let e18 hF
      refine q_go C tk_X9_secondsToZone [(73, 4)] [] (pc1 := 99) (σ1 := τ) (lv1 := [(5, .int (v5 + 1)), (4, .int (v4 + 1)), (3, .int x17), (0, .ref 229), (1, .int t), (2, .int v2)]) (st1 := []) rfl trivial ?_
      refine q_lvpick [3, 4, 5, 2, 1, 0] (lv' := [(0, .ref 229), (1, .int t), (2, .int v2), (3, .int x17), (4, .int (v4 + 1)), (5, .int (v5 + 1))]) rfl ?_
      exact ih v2 x17 (v4 + 1) (v5 + 1) τ rr ((hP.1 c16).2 x17 e18) hF
    · rw [if_neg c16] at hF
      refine q_go C tk_X9_secondsToZone [(62, 1), (77, 1)] [true] (pc1 := 138) (σ1 := τ) (lv1 := [(0, .ref 229), (1, .int t), (2, .int v2), (3, .int v3), (4, .int v4), (5, .int v5)]) (st1 := [.int v5]) rfl ⟨c16, trivial⟩ ?_
      by_cases c19 : v5 = 0
      · rw [if_pos c19] at hF
        refine q_go C tk_X9_secondsToZone [(78, 3)] [false] (pc1 := 155) (σ1 := τ) (lv1 := [(0, .ref 229), (1, .int t), (2, .int v2), (3, .int v3), (4, .int v4), (5, .int v5)]) (st1 := [.int 0]) rfl ⟨c19, trivial⟩ ?_
        exact q_iret C hr (q_dc (z := (155, .ireturn, 1, 0, 0)) tk_X9_secondsToZone 87 rfl) (congrArg Prod.snd hF) (congrArg (fun z => q_oi z.1) hF.symm) (Nat.le_of_ble_eq_true rfl) (Nat.le_of_ble_eq_true rfl)
      · rw [if_neg c19] at hF
        refine q_go C tk_X9_secondsToZone [(78, 1), (81, 4)] [true] (pc1 := 151) (σ1 := τ) (lv1 := [(0, .ref 229), (1, .int t), (2, .int v2), (3, .int v3), (4, .int v4), (5, .int v5)]) (st1 := [.int 10, .int t, .ref 229, .int v5]) rfl ⟨c19, trivial⟩ ?_
        refine q_callV C hfl mw_X9_of mi_X9_of me_X9_of lk_X9_52 (k_X9_of t 10 τ ((hP.2 c16).2 c19).1) (rest := [.int v5]) rfl rfl rfl (by decide) (by decide) rfl (q_dc (z := (151, .invokevirtual 52, 3, 0, 0)) tk_X9_secondsToZone 85 rfl) (Nat.le_of_ble_eq_true rfl) ⟨Nat.le_of_ble_eq_true rfl, Nat.le_of_ble_eq_true rfl⟩ ⟨Nat.le_of_ble_eq_true rfl, Nat.le_of_ble_eq_true rfl⟩ ?_
        refine q_nrm 154 [.int (F_X9_of t 10 τ), .int v5] 0 0 rfl rfl rfl rfl ?_
        refine q_go C tk_X9_secondsToZone [(86, 1)] [] (pc1 := 155) (σ1 := τ) (lv1 := [(0, .ref 229), (1, .int t), (2, .int v2), (3, .int v3), (4, .int v4), (5, .int v5)]) (st1 := [.int (v5 + (F_X9_of t 10 τ))]) rfl trivial ?_
        exact q_iret C hr (q_dc (z := (155, .ireturn, 1, 0, 0)) tk_X9_secondsToZone 87 rfl) (congrArg Prod.snd hF) (congrArg (fun z => q_oi z.1) hF.symm) (Nat.le_of_ble_eq_true rfl) (Nat.le_of_ble_eq_true rfl)
def F_X9_secondsToZone (t : Int32) (σ : q_M) : (Int32) × q_M := (if (F_X9_isTeam t σ) = 0 then (0, (q_up σ 229 5 1)) else (q_L (q_up σ 229 5 0) (fun σ2 : q_M => (if (F_X9_of t 6 σ2) = 1 then (q_L (q_up σ2 229 5 0) (fun σ5 : q_M => (if (F_X9_of t 8 σ5) = 3 then (0, (q_up σ5 229 5 3)) else (q_L (q_up σ5 229 5 0) (fun σ8 : q_M => (q_L (F_X9_of t 8 σ8) (fun x10 : Int32 => (q_L (F_X9_of t 7 σ8) (fun x12 : Int32 => (q_L (F_X9_of t 9 σ8) (fun x14 : Int32 => (FL_X9_secondsToZone_99 t 2010 x10 x12 x14 0 σ8)))))))))))) else (0, (q_up σ2 229 5 2))))))
def P_X9_secondsToZone (t : Int32) (σ : q_M) : Prop := (((F_X9_isTeam t σ) = 0 → True) ∧ (¬ (F_X9_isTeam t σ) = 0 → (∀ σ2 : q_M, (q_up σ 229 5 0) = σ2 → ((P_X9_of t 6 σ2) ∧ (((F_X9_of t 6 σ2) = 1 → (∀ σ5 : q_M, (q_up σ2 229 5 0) = σ5 → ((P_X9_of t 8 σ5) ∧ (((F_X9_of t 8 σ5) = 3 → True) ∧ (¬ (F_X9_of t 8 σ5) = 3 → (∀ σ8 : q_M, (q_up σ5 229 5 0) = σ8 → ((P_X9_of t 8 σ8) ∧ (∀ x10 : Int32, (F_X9_of t 8 σ8) = x10 → ((P_X9_of t 7 σ8) ∧ (∀ x12 : Int32, (F_X9_of t 7 σ8) = x12 → ((P_X9_of t 9 σ8) ∧ (∀ x14 : Int32, (F_X9_of t 9 σ8) = x14 → (PL_X9_secondsToZone_99 t 2010 x10 x12 x14 0 σ8))))))))))))) ∧ (¬ (F_X9_of t 6 σ2) = 1 → True))))))
set_option maxRecDepth 100000 in
theorem k_X9_secondsToZone {α β : Nat → Nat} {D : va_G} {κ : Nat → ClassId} (t : Int32) (σ : q_M) (hP : P_X9_secondsToZone t σ) : q_C α β D κ yX9_secondsToZone cX9_secondsToZone 6 (Option.some Jvm.ClassFile.FieldType.int) 2 43 0 0 [.ref 229, .int t] σ (q_oi (F_X9_secondsToZone t σ).1) (F_X9_secondsToZone t σ).2 := by
  refine q_enter (own := RX9) (F := F_X9) (G := G_X9) (by decide +kernel) rfl Fok_X9 Gok_X9 (Nat.le_of_ble_eq_true rfl) (fun p l e s m args below meth c A hfl C hr hT => ?_)
  generalize hF : F_X9_secondsToZone t σ = rr
  unfold F_X9_secondsToZone at hF
  refine q_go C tk_X9_secondsToZone [(0, 3)] [] (pc1 := 3) (σ1 := σ) (lv1 := [(0, .ref 229), (1, .int t)]) (st1 := [.int t, .ref 229, .ref 229]) rfl trivial ?_
  refine q_callV C hfl mw_X9_isTeam mi_X9_isTeam me_X9_isTeam lk_X9_75 (k_X9_isTeam t σ) (rest := [.ref 229]) rfl rfl rfl (by decide) (by decide) rfl (q_dc (z := (3, .invokevirtual 75, 3, 0, 0)) tk_X9_secondsToZone 3 rfl) (Nat.le_of_ble_eq_true rfl) ⟨Nat.le_of_ble_eq_true rfl, Nat.le_of_ble_eq_true rfl⟩ ⟨Nat.le_of_ble_eq_true rfl, Nat.le_of_ble_eq_true rfl⟩ ?_
  refine q_nrm 6 [.int (F_X9_isTeam t σ), .ref 229] 0 0 rfl rfl rfl rfl ?_
  by_cases c1 : (F_X9_isTeam t σ) = 0
  · rw [if_pos c1] at hF
    refine q_go C tk_X9_secondsToZone [(4, 3), (8, 1)] [false] (pc1 := 15) (σ1 := σ) (lv1 := [(0, .ref 229), (1, .int t)]) (st1 := [.int 1, .int 1, .ref 229]) rfl ⟨c1, trivial⟩ ?_
    refine q_callV C hfl mw_X9_isThrown mi_X9_isThrown me_X9_isThrown lk_X9_63 (k_X9_isThrownN 1 1 σ (by decide) (by decide)) (rest := []) rfl rfl rfl (by decide) (by decide) rfl (q_dc (z := (15, .invokevirtual 63, 3, 0, 0)) tk_X9_secondsToZone 9 rfl) (Nat.le_of_ble_eq_true rfl) ⟨Nat.le_of_ble_eq_true rfl, Nat.le_of_ble_eq_true rfl⟩ ⟨Nat.le_of_ble_eq_true rfl, Nat.le_of_ble_eq_true rfl⟩ ?_
    refine q_nrm 18 [.int 1] 0 0 rfl rfl rfl rfl ?_
    refine q_go C tk_X9_secondsToZone [(10, 1), (37, 1)] [true] (pc1 := 70) (σ1 := (q_up σ 229 5 1)) (lv1 := [(0, .ref 229), (1, .int t)]) (st1 := [.int 0]) rfl ⟨(by decide : ¬ (1 : Int32) = 0), trivial⟩ ?_
    exact q_iret C hr (q_dc (z := (70, .ireturn, 1, 0, 0)) tk_X9_secondsToZone 38 rfl) (congrArg Prod.snd hF) (congrArg (fun z => q_oi z.1) hF.symm) (Nat.le_of_ble_eq_true rfl) (Nat.le_of_ble_eq_true rfl)
  · rw [if_neg c1] at hF
    refine q_go C tk_X9_secondsToZone [(4, 1), (7, 2)] [true] (pc1 := 15) (σ1 := σ) (lv1 := [(0, .ref 229), (1, .int t)]) (st1 := [.int 1, .int 0, .ref 229]) rfl ⟨c1, trivial⟩ ?_
    refine q_callV C hfl mw_X9_isThrown mi_X9_isThrown me_X9_isThrown lk_X9_63 (k_X9_isThrownZ 0 1 σ (by decide)) (rest := []) rfl rfl rfl (by decide) (by decide) rfl (q_dc (z := (15, .invokevirtual 63, 3, 0, 0)) tk_X9_secondsToZone 9 rfl) (Nat.le_of_ble_eq_true rfl) ⟨Nat.le_of_ble_eq_true rfl, Nat.le_of_ble_eq_true rfl⟩ ⟨Nat.le_of_ble_eq_true rfl, Nat.le_of_ble_eq_true rfl⟩ ?_
    refine q_nrm 18 [.int 0] 0 0 rfl rfl rfl rfl ?_
    refine q_go C tk_X9_secondsToZone [(10, 5)] [false] (pc1 := 26) (σ1 := (q_up σ 229 5 0)) (lv1 := [(0, .ref 229), (1, .int t)]) (st1 := [.int 6, .int t, .ref 229, .ref 229]) rfl ⟨(by decide : (0 : Int32) = 0), trivial⟩ ?_
    generalize e3 : (q_up σ 229 5 0) = σ2
    replace hF := q_let e3 hF
    refine q_callV C hfl mw_X9_of mi_X9_of me_X9_of lk_X9_52 (k_X9_of t 6 σ2 ((hP.2 c1) σ2 e3).1) (rest := [.ref 229]) rfl rfl rfl (by decide) (by decide) rfl (q_dc (z := (26, .invokevirtual 52, 3, 0, 0)) tk_X9_secondsToZone 15 rfl) (Nat.le_of_ble_eq_true rfl) ⟨Nat.le_of_ble_eq_true rfl, Nat.le_of_ble_eq_true rfl⟩ ⟨Nat.le_of_ble_eq_true rfl, Nat.le_of_ble_eq_true rfl⟩ ?_
    refine q_nrm 29 [.int (F_X9_of t 6 σ2), .ref 229] 0 0 rfl rfl rfl rfl ?_
    refine q_go C tk_X9_secondsToZone [(16, 1)] [] (pc1 := 30) (σ1 := σ2) (lv1 := [(0, .ref 229), (1, .int t)]) (st1 := [.int 1, .int (F_X9_of t 6 σ2), .ref 229]) rfl trivial ?_
    by_cases c4 : (F_X9_of t 6 σ2) = 1
    · rw [if_pos c4] at hF
      refine q_go C tk_X9_secondsToZone [(17, 1), (20, 2)] [true] (pc1 := 39) (σ1 := σ2) (lv1 := [(0, .ref 229), (1, .int t)]) (st1 := [.int 2, .int 0, .ref 229]) rfl ⟨c4, trivial⟩ ?_
      refine q_callV C hfl mw_X9_isThrown mi_X9_isThrown me_X9_isThrown lk_X9_63 (k_X9_isThrownZ 0 2 σ2 (by decide)) (rest := []) rfl rfl rfl (by decide) (by decide) rfl (q_dc (z := (39, .invokevirtual 63, 3, 0, 0)) tk_X9_secondsToZone 22 rfl) (Nat.le_of_ble_eq_true rfl) ⟨Nat.le_of_ble_eq_true rfl, Nat.le_of_ble_eq_true rfl⟩ ⟨Nat.le_of_ble_eq_true rfl, Nat.le_of_ble_eq_true rfl⟩ ?_
      refine q_nrm 42 [.int 0] 0 0 rfl rfl rfl rfl ?_
      refine q_go C tk_X9_secondsToZone [(23, 5)] [false] (pc1 := 50) (σ1 := (q_up σ2 229 5 0)) (lv1 := [(0, .ref 229), (1, .int t)]) (st1 := [.int 8, .int t, .ref 229, .ref 229]) rfl ⟨(by decide : (0 : Int32) = 0), trivial⟩ ?_
      generalize e6 : (q_up σ2 229 5 0) = σ5
      replace hF := q_let e6 hF
      refine q_callV C hfl mw_X9_of mi_X9_of me_X9_of lk_X9_52 (k_X9_of t 8 σ5 ((((hP.2 c1) σ2 e3).2.1 c4) σ5 e6).1) (rest := [.ref 229]) rfl rfl rfl (by decide) (by decide) rfl (q_dc (z := (50, .invokevirtual 52, 3, 0, 0)) tk_X9_secondsToZone 28 rfl) (Nat.le_of_ble_eq_true rfl) ⟨Nat.le_of_ble_eq_true rfl, Nat.le_of_ble_eq_true rfl⟩ ⟨Nat.le_of_ble_eq_true rfl, Nat.le_of_ble_eq_true rfl⟩ ?_
      refine q_nrm 53 [.int (F_X9_of t 8 σ5), .ref 229] 0 0 rfl rfl rfl rfl ?_
      refine q_go C tk_X9_secondsToZone [(29, 1)] [] (pc1 := 54) (σ1 := σ5) (lv1 := [(0, .ref 229), (1, .int t)]) (st1 := [.int 3, .int (F_X9_of t 8 σ5), .ref 229]) rfl trivial ?_
      by_cases c7 : (F_X9_of t 8 σ5) = 3
      · rw [if_pos c7] at hF
        refine q_go C tk_X9_secondsToZone [(30, 3), (34, 1)] [false] (pc1 := 63) (σ1 := σ5) (lv1 := [(0, .ref 229), (1, .int t)]) (st1 := [.int 3, .int 1, .ref 229]) rfl ⟨c7, trivial⟩ ?_
        refine q_callV C hfl mw_X9_isThrown mi_X9_isThrown me_X9_isThrown lk_X9_63 (k_X9_isThrownN 1 3 σ5 (by decide) (by decide)) (rest := []) rfl rfl rfl (by decide) (by decide) rfl (q_dc (z := (63, .invokevirtual 63, 3, 0, 0)) tk_X9_secondsToZone 35 rfl) (Nat.le_of_ble_eq_true rfl) ⟨Nat.le_of_ble_eq_true rfl, Nat.le_of_ble_eq_true rfl⟩ ⟨Nat.le_of_ble_eq_true rfl, Nat.le_of_ble_eq_true rfl⟩ ?_
        refine q_nrm 66 [.int 1] 0 0 rfl rfl rfl rfl ?_
        refine q_go C tk_X9_secondsToZone [(36, 2)] [false] (pc1 := 70) (σ1 := (q_up σ5 229 5 3)) (lv1 := [(0, .ref 229), (1, .int t)]) (st1 := [.int 0]) rfl ⟨(by decide : ¬ (1 : Int32) = 0), trivial⟩ ?_
        exact q_iret C hr (q_dc (z := (70, .ireturn, 1, 0, 0)) tk_X9_secondsToZone 38 rfl) (congrArg Prod.snd hF) (congrArg (fun z => q_oi z.1) hF.symm) (Nat.le_of_ble_eq_true rfl) (Nat.le_of_ble_eq_true rfl)
      · rw [if_neg c7] at hF
        refine q_go C tk_X9_secondsToZone [(30, 1), (33, 2)] [true] (pc1 := 63) (σ1 := σ5) (lv1 := [(0, .ref 229), (1, .int t)]) (st1 := [.int 3, .int 0, .ref 229]) rfl ⟨c7, trivial⟩ ?_
        refine q_callV C hfl mw_X9_isThrown mi_X9_isThrown me_X9_isThrown lk_X9_63 (k_X9_isThrownZ 0 3 σ5 (by decide)) (rest := []) rfl rfl rfl (by decide) (by decide) rfl (q_dc (z := (63, .invokevirtual 63, 3, 0, 0)) tk_X9_secondsToZone 35 rfl) (Nat.le_of_ble_eq_true rfl) ⟨Nat.le_of_ble_eq_true rfl, Nat.le_of_ble_eq_true rfl⟩ ⟨Nat.le_of_ble_eq_true rfl, Nat.le_of_ble_eq_true rfl⟩ ?_
        refine q_nrm 66 [.int 0] 0 0 rfl rfl rfl rfl ?_
        refine q_go C tk_X9_secondsToZone [(36, 1), (39, 3)] [true] (pc1 := 75) (σ1 := (q_up σ5 229 5 0)) (lv1 := [(0, .ref 229), (1, .int t)]) (st1 := [.int 8, .int t, .ref 229]) rfl ⟨(by decide : (0 : Int32) = 0), trivial⟩ ?_
        generalize e9 : (q_up σ5 229 5 0) = σ8
        replace hF := q_let e9 hF
        refine q_callV C hfl mw_X9_of mi_X9_of me_X9_of lk_X9_52 (k_X9_of t 8 σ8 ((((((hP.2 c1) σ2 e3).2.1 c4) σ5 e6).2.2 c7) σ8 e9).1) (rest := []) rfl rfl rfl (by decide) (by decide) rfl (q_dc (z := (75, .invokevirtual 52, 3, 0, 0)) tk_X9_secondsToZone 42 rfl) (Nat.le_of_ble_eq_true rfl) ⟨Nat.le_of_ble_eq_true rfl, Nat.le_of_ble_eq_true rfl⟩ ⟨Nat.le_of_ble_eq_true rfl, Nat.le_of_ble_eq_true rfl⟩ ?_
        refine q_nrm 78 [.int (F_X9_of t 8 σ8)] 0 0 rfl rfl rfl rfl ?_
        generalize e11 : (F_X9_of t 8 σ8) = x10
        replace hF := q_let e11 hF
        refine q_go C tk_X9_secondsToZone [(43, 4)] [] (pc1 := 83) (σ1 := σ8) (lv1 := [(2, .int x10), (0, .ref 229), (1, .int t)]) (st1 := [.int 7, .int t, .ref 229]) rfl trivial ?_
        refine q_callV C hfl mw_X9_of mi_X9_of me_X9_of lk_X9_52 (k_X9_of t 7 σ8 (((((((hP.2 c1) σ2 e3).2.1 c4) σ5 e6).2.2 c7) σ8 e9).2 x10 e11).1) (rest := []) rfl rfl rfl (by decide) (by decide) rfl (q_dc (z := (83, .invokevirtual 52, 3, 0, 0)) tk_X9_secondsToZone 47 rfl) (Nat.le_of_ble_eq_true rfl) ⟨Nat.le_of_ble_eq_true rfl, Nat.le_of_ble_eq_true rfl⟩ ⟨Nat.le_of_ble_eq_true rfl, Nat.le_of_ble_eq_true rfl⟩ ?_
        refine q_nrm 86 [.int (F_X9_of t 7 σ8)] 0 0 rfl rfl rfl rfl ?_
        generalize e13 : (F_X9_of t 7 σ8) = x12
        replace hF := q_let e13 hF
        refine q_go C tk_X9_secondsToZone [(48, 4)] [] (pc1 := 91) (σ1 := σ8) (lv1 := [(3, .int x12), (2, .int x10), (0, .ref 229), (1, .int t)]) (st1 := [.int 9, .int t, .ref 229]) rfl trivial ?_
        refine q_callV C hfl mw_X9_of mi_X9_of me_X9_of lk_X9_52 (k_X9_of t 9 σ8 ((((((((hP.2 c1) σ2 e3).2.1 c4) σ5 e6).2.2 c7) σ8 e9).2 x10 e11).2 x12 e13).1) (rest := []) rfl rfl rfl (by decide) (by decide) rfl (q_dc (z := (91, .invokevirtual 52, 3, 0, 0)) tk_X9_secondsToZone 52 rfl) (Nat.le_of_ble_eq_true rfl) ⟨Nat.le_of_ble_eq_true rfl, Nat.le_of_ble_eq_true rfl⟩ ⟨Nat.le_of_ble_eq_true rfl, Nat.le_of_ble_eq_true rfl⟩ ?_
        refine q_nrm 94 [.int (F_X9_of t 9 σ8)] 0 0 rfl rfl rfl rfl ?_
        generalize e15 : (F_X9_of t 9 σ8) = x14
        replace hF := q_let e15 hF
        refine q_go C tk_X9_secondsToZone [(53, 3)] [] (pc1 := 99) (σ1 := σ8) (lv1 := [(5, .int 0), (4, .int x14), (3, .int x12), (2, .int x10), (0, .ref 229), (1, .int t)]) (st1 := []) rfl trivial ?_
        refine q_lvpick [4, 5, 3, 2, 1, 0] (lv' := [(0, .ref 229), (1, .int t), (2, .int x10), (3, .int x12), (4, .int x14), (5, .int 0)]) rfl ?_
        exact kl_X9_secondsToZone_99 t  hfl C hr hT 2010 x10 x12 x14 0 σ8 rr (((((((((hP.2 c1) σ2 e3).2.1 c4) σ5 e6).2.2 c7) σ8 e9).2 x10 e11).2 x12 e13).2 x14 e15) hF
    · rw [if_neg c4] at hF
      refine q_go C tk_X9_secondsToZone [(17, 3), (21, 1)] [false] (pc1 := 39) (σ1 := σ2) (lv1 := [(0, .ref 229), (1, .int t)]) (st1 := [.int 2, .int 1, .ref 229]) rfl ⟨c4, trivial⟩ ?_
      refine q_callV C hfl mw_X9_isThrown mi_X9_isThrown me_X9_isThrown lk_X9_63 (k_X9_isThrownN 1 2 σ2 (by decide) (by decide)) (rest := []) rfl rfl rfl (by decide) (by decide) rfl (q_dc (z := (39, .invokevirtual 63, 3, 0, 0)) tk_X9_secondsToZone 22 rfl) (Nat.le_of_ble_eq_true rfl) ⟨Nat.le_of_ble_eq_true rfl, Nat.le_of_ble_eq_true rfl⟩ ⟨Nat.le_of_ble_eq_true rfl, Nat.le_of_ble_eq_true rfl⟩ ?_
      refine q_nrm 42 [.int 1] 0 0 rfl rfl rfl rfl ?_
      refine q_go C tk_X9_secondsToZone [(23, 1), (37, 1)] [true] (pc1 := 70) (σ1 := (q_up σ2 229 5 2)) (lv1 := [(0, .ref 229), (1, .int t)]) (st1 := [.int 0]) rfl ⟨(by decide : ¬ (1 : Int32) = 0), trivial⟩ ?_
      exact q_iret C hr (q_dc (z := (70, .ireturn, 1, 0, 0)) tk_X9_secondsToZone 38 rfl) (congrArg Prod.snd hF) (congrArg (fun z => q_oi z.1) hF.symm) (Nat.le_of_ble_eq_true rfl) (Nat.le_of_ble_eq_true rfl)
def F_X9_save (σ : q_M) : (Int32) × q_M := (q_L (q_up σ 229 5 0) (fun σ1 : q_M => (q_L (F_X9_copies 230 0 232 0 σ1) (fun σ3 : q_M => ((σ3 230 2), (q_up σ3 229 11 1))))))
def P_X9_save (σ : q_M) : Prop := (∀ σ1 : q_M, (q_up σ 229 5 0) = σ1 → ((P_X9_copies 230 0 232 0 σ1) ∧ True))
set_option maxRecDepth 100000 in
theorem k_X9_save {α β : Nat → Nat} {D : va_G} {κ : Nat → ClassId} (σ : q_M) (hP : P_X9_save σ) : q_C α β D κ yX9_save cX9_save 1 (Option.some Jvm.ClassFile.FieldType.int) 1 24 0 0 [.ref 229] σ (q_oi (F_X9_save σ).1) (F_X9_save σ).2 := by
  refine q_enter (own := RX9) (F := F_X9) (G := G_X9) (by decide +kernel) rfl Fok_X9 Gok_X9 (Nat.le_of_ble_eq_true rfl) (fun p l e s m args below meth c A hfl C hr hT => ?_)
  generalize hF : F_X9_save σ = rr
  unfold F_X9_save at hF
  refine q_go C tk_X9_save [(0, 9)] [] (pc1 := 15) (σ1 := (q_up σ 229 5 0)) (lv1 := [(0, .ref 229)]) (st1 := [.int 0, .ref 232, .int 0, .ref 230]) rfl ⟨rfl, rfl, rfl, trivial⟩ ?_
  generalize e2 : (q_up σ 229 5 0) = σ1
  replace hF := q_let e2 hF
  refine q_callS C hfl mw_X9_copies ms_X9_copies lk_X9_41 (k_X9_copies 230 0 232 0 σ1 rfl rfl (hP σ1 e2).1) (rest := []) rfl rfl (q_dc (z := (15, .invokestatic 41, 3, 0, 0)) tk_X9_save 9 rfl) (Nat.le_of_ble_eq_true rfl) ⟨Nat.le_of_ble_eq_true rfl, Nat.le_of_ble_eq_true rfl⟩ ⟨Nat.le_of_ble_eq_true rfl, Nat.le_of_ble_eq_true rfl⟩ ?_
  refine q_nrm 18 [] 0 0 rfl rfl rfl rfl ?_
  generalize e4 : (F_X9_copies 230 0 232 0 σ1) = σ3
  replace hF := q_let e4 hF
  refine q_go C tk_X9_save [(10, 7)] [] (pc1 := 29) (σ1 := (q_up σ3 229 11 1)) (lv1 := [(0, .ref 229)]) (st1 := [.int (σ3 230 2)]) rfl ⟨rfl, (by decide), rfl, rfl, (by unfold vp_in; decide +kernel), trivial⟩ ?_
  exact q_iret C hr (q_dc (z := (29, .ireturn, 1, 0, 0)) tk_X9_save 17 rfl) (congrArg Prod.snd hF) (congrArg (fun z => q_oi z.1) hF.symm) (Nat.le_of_ble_eq_true rfl) (Nat.le_of_ble_eq_true rfl)
def F_X9_undo (σ : q_M) : (Int32) × q_M := (if (σ 229 4) = 0 then (0, (q_up σ 229 5 1)) else (q_L (q_up (q_up σ 229 5 0) 229 4 ((σ 229 4) - 1)) (fun σ2 : q_M => (q_L (F_X9_copies 233 (118 * ((σ 229 4) - 1)) 230 0 σ2) (fun σ4 : q_M => ((σ4 229 4), σ4))))))
def P_X9_undo (σ : q_M) : Prop := (((σ 229 4) = 0 → True) ∧ (¬ (σ 229 4) = 0 → (∀ σ2 : q_M, (q_up (q_up σ 229 5 0) 229 4 ((σ 229 4) - 1)) = σ2 → ((P_X9_copies 233 (118 * ((σ 229 4) - 1)) 230 0 σ2) ∧ True))))
set_option maxRecDepth 100000 in
theorem k_X9_undo {α β : Nat → Nat} {D : va_G} {κ : Nat → ClassId} (σ : q_M) (hP : P_X9_undo σ) : q_C α β D κ yX9_undo cX9_undo 1 (Option.some Jvm.ClassFile.FieldType.int) 1 24 0 0 [.ref 229] σ (q_oi (F_X9_undo σ).1) (F_X9_undo σ).2 := by
  refine q_enter (own := RX9) (F := F_X9) (G := G_X9) (by decide +kernel) rfl Fok_X9 Gok_X9 (Nat.le_of_ble_eq_true rfl) (fun p l e s m args below meth c A hfl C hr hT => ?_)
  generalize hF : F_X9_undo σ = rr
  unfold F_X9_undo at hF
  refine q_go C tk_X9_undo [(0, 3)] [] (pc1 := 5) (σ1 := σ) (lv1 := [(0, .ref 229)]) (st1 := [.int (σ 229 4), .ref 229]) rfl ⟨rfl, trivial⟩ ?_
  by_cases c1 : (σ 229 4) = 0
  · rw [if_pos c1] at hF
    refine q_go C tk_X9_undo [(3, 3), (7, 1)] [false] (pc1 := 14) (σ1 := σ) (lv1 := [(0, .ref 229)]) (st1 := [.int 1, .int 1, .ref 229]) rfl ⟨c1, trivial⟩ ?_
    refine q_callV C hfl mw_X9_isThrown mi_X9_isThrown me_X9_isThrown lk_X9_63 (k_X9_isThrownN 1 1 σ (by decide) (by decide)) (rest := []) rfl rfl rfl (by decide) (by decide) rfl (q_dc (z := (14, .invokevirtual 63, 3, 0, 0)) tk_X9_undo 8 rfl) (Nat.le_of_ble_eq_true rfl) ⟨Nat.le_of_ble_eq_true rfl, Nat.le_of_ble_eq_true rfl⟩ ⟨Nat.le_of_ble_eq_true rfl, Nat.le_of_ble_eq_true rfl⟩ ?_
    refine q_nrm 17 [.int 1] 0 0 rfl rfl rfl rfl ?_
    refine q_go C tk_X9_undo [(9, 2)] [false] (pc1 := 21) (σ1 := (q_up σ 229 5 1)) (lv1 := [(0, .ref 229)]) (st1 := [.int 0]) rfl ⟨(by decide : ¬ (1 : Int32) = 0), trivial⟩ ?_
    exact q_iret C hr (q_dc (z := (21, .ireturn, 1, 0, 0)) tk_X9_undo 11 rfl) (congrArg Prod.snd hF) (congrArg (fun z => q_oi z.1) hF.symm) (Nat.le_of_ble_eq_true rfl) (Nat.le_of_ble_eq_true rfl)
  · rw [if_neg c1] at hF
    refine q_go C tk_X9_undo [(3, 1), (6, 2)] [true] (pc1 := 14) (σ1 := σ) (lv1 := [(0, .ref 229)]) (st1 := [.int 1, .int 0, .ref 229]) rfl ⟨c1, trivial⟩ ?_
    refine q_callV C hfl mw_X9_isThrown mi_X9_isThrown me_X9_isThrown lk_X9_63 (k_X9_isThrownZ 0 1 σ (by decide)) (rest := []) rfl rfl rfl (by decide) (by decide) rfl (q_dc (z := (14, .invokevirtual 63, 3, 0, 0)) tk_X9_undo 8 rfl) (Nat.le_of_ble_eq_true rfl) ⟨Nat.le_of_ble_eq_true rfl, Nat.le_of_ble_eq_true rfl⟩ ⟨Nat.le_of_ble_eq_true rfl, Nat.le_of_ble_eq_true rfl⟩ ?_
    refine q_nrm 17 [.int 0] 0 0 rfl rfl rfl rfl ?_
    refine q_go C tk_X9_undo [(9, 1), (12, 15)] [true] (pc1 := 48) (σ1 := (q_up (q_up σ 229 5 0) 229 4 ((σ 229 4) - 1))) (lv1 := [(0, .ref 229)]) (st1 := [.int 0, .ref 230, .int (118 * ((σ 229 4) - 1)), .ref 233]) rfl ⟨(by decide : (0 : Int32) = 0), rfl, rfl, rfl, rfl, rfl, trivial⟩ ?_
    generalize e3 : (q_up (q_up σ 229 5 0) 229 4 ((σ 229 4) - 1)) = σ2
    replace hF := q_let e3 hF
    refine q_callS C hfl mw_X9_copies ms_X9_copies lk_X9_41 (k_X9_copies 233 (118 * ((σ 229 4) - 1)) 230 0 σ2 rfl rfl ((hP.2 c1) σ2 e3).1) (rest := []) rfl rfl (q_dc (z := (48, .invokestatic 41, 3, 0, 0)) tk_X9_undo 27 rfl) (Nat.le_of_ble_eq_true rfl) ⟨Nat.le_of_ble_eq_true rfl, Nat.le_of_ble_eq_true rfl⟩ ⟨Nat.le_of_ble_eq_true rfl, Nat.le_of_ble_eq_true rfl⟩ ?_
    refine q_nrm 51 [] 0 0 rfl rfl rfl rfl ?_
    generalize e5 : (F_X9_copies 233 (118 * ((σ 229 4) - 1)) 230 0 σ2) = σ4
    replace hF := q_let e5 hF
    refine q_go C tk_X9_undo [(28, 2)] [] (pc1 := 55) (σ1 := σ4) (lv1 := [(0, .ref 229)]) (st1 := [.int (σ4 229 4)]) rfl ⟨rfl, trivial⟩ ?_
    exact q_iret C hr (q_dc (z := (55, .ireturn, 1, 0, 0)) tk_X9_undo 30 rfl) (congrArg Prod.snd hF) (congrArg (fun z => q_oi z.1) hF.symm) (Nat.le_of_ble_eq_true rfl) (Nat.le_of_ble_eq_true rfl)
def F_X9_restore (σ : q_M) : (Int32) × q_M := (if (σ 229 11) = 0 then (0, (q_up σ 229 5 1)) else (q_L (q_up σ 229 5 0) (fun σ2 : q_M => (q_L (F_X9_copies 232 0 230 0 σ2) (fun σ4 : q_M => ((σ4 230 2), (q_up σ4 229 4 0)))))))
def P_X9_restore (σ : q_M) : Prop := (((σ 229 11) = 0 → True) ∧ (¬ (σ 229 11) = 0 → (∀ σ2 : q_M, (q_up σ 229 5 0) = σ2 → ((P_X9_copies 232 0 230 0 σ2) ∧ True))))
set_option maxRecDepth 100000 in
theorem k_X9_restore {α β : Nat → Nat} {D : va_G} {κ : Nat → ClassId} (σ : q_M) (hP : P_X9_restore σ) : q_C α β D κ yX9_restore cX9_restore 1 (Option.some Jvm.ClassFile.FieldType.int) 1 24 0 0 [.ref 229] σ (q_oi (F_X9_restore σ).1) (F_X9_restore σ).2 := by
  refine q_enter (own := RX9) (F := F_X9) (G := G_X9) (by decide +kernel) rfl Fok_X9 Gok_X9 (Nat.le_of_ble_eq_true rfl) (fun p l e s m args below meth c A hfl C hr hT => ?_)
  generalize hF : F_X9_restore σ = rr
  unfold F_X9_restore at hF
  refine q_go C tk_X9_restore [(0, 3)] [] (pc1 := 5) (σ1 := σ) (lv1 := [(0, .ref 229)]) (st1 := [.int (σ 229 11), .ref 229]) rfl ⟨rfl, trivial⟩ ?_
  by_cases c1 : (σ 229 11) = 0
  · rw [if_pos c1] at hF
    refine q_go C tk_X9_restore [(3, 3), (7, 1)] [false] (pc1 := 14) (σ1 := σ) (lv1 := [(0, .ref 229)]) (st1 := [.int 1, .int 1, .ref 229]) rfl ⟨c1, trivial⟩ ?_
    refine q_callV C hfl mw_X9_isThrown mi_X9_isThrown me_X9_isThrown lk_X9_63 (k_X9_isThrownN 1 1 σ (by decide) (by decide)) (rest := []) rfl rfl rfl (by decide) (by decide) rfl (q_dc (z := (14, .invokevirtual 63, 3, 0, 0)) tk_X9_restore 8 rfl) (Nat.le_of_ble_eq_true rfl) ⟨Nat.le_of_ble_eq_true rfl, Nat.le_of_ble_eq_true rfl⟩ ⟨Nat.le_of_ble_eq_true rfl, Nat.le_of_ble_eq_true rfl⟩ ?_
    refine q_nrm 17 [.int 1] 0 0 rfl rfl rfl rfl ?_
    refine q_go C tk_X9_restore [(9, 2)] [false] (pc1 := 21) (σ1 := (q_up σ 229 5 1)) (lv1 := [(0, .ref 229)]) (st1 := [.int 0]) rfl ⟨(by decide : ¬ (1 : Int32) = 0), trivial⟩ ?_
    exact q_iret C hr (q_dc (z := (21, .ireturn, 1, 0, 0)) tk_X9_restore 11 rfl) (congrArg Prod.snd hF) (congrArg (fun z => q_oi z.1) hF.symm) (Nat.le_of_ble_eq_true rfl) (Nat.le_of_ble_eq_true rfl)
  · rw [if_neg c1] at hF
    refine q_go C tk_X9_restore [(3, 1), (6, 2)] [true] (pc1 := 14) (σ1 := σ) (lv1 := [(0, .ref 229)]) (st1 := [.int 1, .int 0, .ref 229]) rfl ⟨c1, trivial⟩ ?_
    refine q_callV C hfl mw_X9_isThrown mi_X9_isThrown me_X9_isThrown lk_X9_63 (k_X9_isThrownZ 0 1 σ (by decide)) (rest := []) rfl rfl rfl (by decide) (by decide) rfl (q_dc (z := (14, .invokevirtual 63, 3, 0, 0)) tk_X9_restore 8 rfl) (Nat.le_of_ble_eq_true rfl) ⟨Nat.le_of_ble_eq_true rfl, Nat.le_of_ble_eq_true rfl⟩ ⟨Nat.le_of_ble_eq_true rfl, Nat.le_of_ble_eq_true rfl⟩ ?_
    refine q_nrm 17 [.int 0] 0 0 rfl rfl rfl rfl ?_
    refine q_go C tk_X9_restore [(9, 1), (12, 6)] [true] (pc1 := 32) (σ1 := (q_up σ 229 5 0)) (lv1 := [(0, .ref 229)]) (st1 := [.int 0, .ref 230, .int 0, .ref 232]) rfl ⟨(by decide : (0 : Int32) = 0), rfl, rfl, trivial⟩ ?_
    generalize e3 : (q_up σ 229 5 0) = σ2
    replace hF := q_let e3 hF
    refine q_callS C hfl mw_X9_copies ms_X9_copies lk_X9_41 (k_X9_copies 232 0 230 0 σ2 rfl rfl ((hP.2 c1) σ2 e3).1) (rest := []) rfl rfl (q_dc (z := (32, .invokestatic 41, 3, 0, 0)) tk_X9_restore 18 rfl) (Nat.le_of_ble_eq_true rfl) ⟨Nat.le_of_ble_eq_true rfl, Nat.le_of_ble_eq_true rfl⟩ ⟨Nat.le_of_ble_eq_true rfl, Nat.le_of_ble_eq_true rfl⟩ ?_
    refine q_nrm 35 [] 0 0 rfl rfl rfl rfl ?_
    generalize e5 : (F_X9_copies 232 0 230 0 σ2) = σ4
    replace hF := q_let e5 hF
    refine q_go C tk_X9_restore [(19, 7)] [] (pc1 := 46) (σ1 := (q_up σ4 229 4 0)) (lv1 := [(0, .ref 229)]) (st1 := [.int (σ4 230 2)]) rfl ⟨rfl, rfl, rfl, (by unfold vp_in; decide +kernel), trivial⟩ ?_
    exact q_iret C hr (q_dc (z := (46, .ireturn, 1, 0, 0)) tk_X9_restore 26 rfl) (congrArg Prod.snd hF) (congrArg (fun z => q_oi z.1) hF.symm) (Nat.le_of_ble_eq_true rfl) (Nat.le_of_ble_eq_true rfl)
