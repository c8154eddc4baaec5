/-! The model, method by method. -/
def F_X9_isIn (v : Int32) (a : Int32) (b : Int32) (σ : q_M) : Int32 := (if v < a then 0 else (if b < v then 0 else 1))
set_option maxRecDepth 100000 in
theorem k_X9_isIn {α β : Nat → Nat} {D : va_G} {κ : Nat → ClassId} (v : Int32) (a : Int32) (b : Int32) (σ : q_M) : q_C α β D κ yX9_isIn cX9_isIn 3 (Option.some Jvm.ClassFile.FieldType.boolean) 0 0 0 0 [.int v, .int a, .int b] σ (q_oi (F_X9_isIn v a b σ)) σ := by
  refine q_enter (own := RX9) (F := F_X9) (G := G_X9) (by decide +kernel) rfl Fok_X9 Gok_X9 (Nat.le_of_ble_eq_true rfl) (fun p l e s m args below meth c A hfl C hr hT => ?_)
  generalize hF : F_X9_isIn v a b σ = rr
  unfold F_X9_isIn at hF
  refine q_go C tk_X9_isIn [(0, 2)] [] (pc1 := 2) (σ1 := σ) (lv1 := [(0, .int v), (1, .int a), (2, .int b)]) (st1 := [.int a, .int v]) rfl trivial ?_
  by_cases c1 : v < a
  · rw [if_pos c1] at hF
    refine q_go C tk_X9_isIn [(2, 1), (8, 1)] [true] (pc1 := 15) (σ1 := σ) (lv1 := [(0, .int v), (1, .int a), (2, .int b)]) (st1 := [.int 0]) rfl ⟨c1, trivial⟩ ?_
    exact q_zret C hr (q_dc (z := (15, .ireturn, 1, 0, 0)) tk_X9_isIn 9 rfl) (by decide +kernel) rfl (congrArg q_oi hF.symm) (Nat.le_of_ble_eq_true rfl) (Nat.le_of_ble_eq_true rfl)
  · rw [if_neg c1] at hF
    refine q_go C tk_X9_isIn [(2, 3)] [false] (pc1 := 7) (σ1 := σ) (lv1 := [(0, .int v), (1, .int a), (2, .int b)]) (st1 := [.int b, .int v]) rfl ⟨c1, trivial⟩ ?_
    by_cases c2 : b < v
    · rw [if_pos c2] at hF
      refine q_go C tk_X9_isIn [(5, 1), (8, 1)] [true] (pc1 := 15) (σ1 := σ) (lv1 := [(0, .int v), (1, .int a), (2, .int b)]) (st1 := [.int 0]) rfl ⟨c2, trivial⟩ ?_
      exact q_zret C hr (q_dc (z := (15, .ireturn, 1, 0, 0)) tk_X9_isIn 9 rfl) (by decide +kernel) rfl (congrArg q_oi hF.symm) (Nat.le_of_ble_eq_true rfl) (Nat.le_of_ble_eq_true rfl)
    · rw [if_neg c2] at hF
      refine q_go C tk_X9_isIn [(5, 3)] [false] (pc1 := 15) (σ1 := σ) (lv1 := [(0, .int v), (1, .int a), (2, .int b)]) (st1 := [.int 1]) rfl ⟨c2, trivial⟩ ?_
      exact q_zret C hr (q_dc (z := (15, .ireturn, 1, 0, 0)) tk_X9_isIn 9 rfl) (by decide +kernel) rfl (congrArg q_oi hF.symm) (Nat.le_of_ble_eq_true rfl) (Nat.le_of_ble_eq_true rfl)
theorem z_X9_isIn {v : Int32} {a : Int32} {b : Int32} {σ : q_M} : (F_X9_isIn v a b σ) = 0 ∨ (F_X9_isIn v a b σ) = 1 := by
  unfold F_X9_isIn
  try simp only [q_L]
  repeat' split
  all_goals first | exact Or.inl rfl | exact Or.inr rfl | exact rfl
def F_X9_isThrown (b : Int32) (n : Int32) (σ : q_M) : (Int32) × q_M := (q_L (if b = 0 then 0 else n) (fun x2 : Int32 => (b, (q_up σ 229 5 x2))))
set_option maxRecDepth 100000 in
theorem k_X9_isThrown {α β : Nat → Nat} {D : va_G} {κ : Nat → ClassId} (b : Int32) (n : Int32) (σ : q_M) (h_b : b = 0 ∨ b = 1) : q_C α β D κ yX9_isThrown cX9_isThrown 3 (Option.some Jvm.ClassFile.FieldType.boolean) 0 0 0 0 [.ref 229, .int b, .int n] σ (q_oi (F_X9_isThrown b n σ).1) (F_X9_isThrown b n σ).2 := by
  refine q_enter (own := RX9) (F := F_X9) (G := G_X9) (by decide +kernel) rfl Fok_X9 Gok_X9 (Nat.le_of_ble_eq_true rfl) (fun p l e s m args below meth c A hfl C hr hT => ?_)
  generalize hF : F_X9_isThrown b n σ = rr
  unfold F_X9_isThrown at hF
  refine q_go C tk_X9_isThrown [(0, 2)] [] (pc1 := 2) (σ1 := σ) (lv1 := [(0, .ref 229), (1, .int b), (2, .int n)]) (st1 := [.int b, .ref 229]) rfl trivial ?_
  refine q_mrg (v := (if b = 0 then 0 else n)) (M := 10) (σ1 := σ) (lv1 := [(0, .ref 229), (1, .int b), (2, .int n)]) (st1 := [.ref 229]) (fun x2 e3 => ?_) (fun K => ?_)
  · replace hF := q_let e3 hF
    refine q_go C tk_X9_isThrown [(6, 2)] [] (pc1 := 14) (σ1 := (q_up σ 229 5 x2)) (lv1 := [(0, .ref 229), (1, .int b), (2, .int n)]) (st1 := [.int b]) rfl ⟨rfl, trivial⟩ ?_
    exact q_zret C hr (q_dc (z := (14, .ireturn, 1, 0, 0)) tk_X9_isThrown 8 rfl) (q_zb h_b).1 (congrArg Prod.snd hF) (congrArg (fun z => q_oi z.1) hF.symm) (Nat.le_of_ble_eq_true rfl) (Nat.le_of_ble_eq_true rfl)
  · clear hF
    by_cases c1 : b = 0
    · skip
      refine q_go C tk_X9_isThrown [(2, 1), (5, 1)] [true] (pc1 := 10) (σ1 := σ) (lv1 := [(0, .ref 229), (1, .int b), (2, .int n)]) (st1 := [.int 0, .ref 229]) rfl ⟨c1, trivial⟩ ?_
      rw [if_pos c1] at K; exact K
    · skip
      refine q_go C tk_X9_isThrown [(2, 3)] [false] (pc1 := 10) (σ1 := σ) (lv1 := [(0, .ref 229), (1, .int b), (2, .int n)]) (st1 := [.int n, .ref 229]) rfl ⟨c1, trivial⟩ ?_
      rw [if_neg c1] at K; exact K
theorem z_X9_isThrown {b : Int32} {n : Int32} {σ : q_M} (h_b : b = 0 ∨ b = 1) : (F_X9_isThrown b n σ).1 = 0 ∨ (F_X9_isThrown b n σ).1 = 1 := by
  unfold F_X9_isThrown
  try simp only [q_L]
  repeat' split
  all_goals first | exact Or.inl rfl | exact Or.inr rfl | exact rfl | exact h_b
theorem k_X9_isThrownZ {α β : Nat → Nat} {D : va_G} {κ : Nat → ClassId} (b : Int32) (n : Int32) (σ : q_M) (h : b = 0) : q_C α β D κ yX9_isThrown cX9_isThrown 3 (Option.some Jvm.ClassFile.FieldType.boolean) 0 0 0 0 [.ref 229, .int b, .int n] σ (q_oi b) (q_up σ 229 5 0) := by
  have k := k_X9_isThrown (α := α) (β := β) (D := D) (κ := κ) b n σ (Or.inl h)
  simp only [F_X9_isThrown, if_pos h] at k
  exact k
theorem k_X9_isThrownN {α β : Nat → Nat} {D : va_G} {κ : Nat → ClassId} (b : Int32) (n : Int32) (σ : q_M) (h : ¬ b = 0) (hb : b = 0 ∨ b = 1) : q_C α β D κ yX9_isThrown cX9_isThrown 3 (Option.some Jvm.ClassFile.FieldType.boolean) 0 0 0 0 [.ref 229, .int b, .int n] σ (q_oi b) (q_up σ 229 5 n) := by
  have k := k_X9_isThrown (α := α) (β := β) (D := D) (κ := κ) b n σ hb
  simp only [F_X9_isThrown, if_neg h] at k
  exact k
def F_X9_of (t : Int32) (w : Int32) (σ : q_M) : Int32 := (σ 230 (((4 + (19 * t)) + w)).toNatClampNeg)
def P_X9_of (t : Int32) (w : Int32) (σ : q_M) : Prop := (vp_in ((4 + (19 * t)) + w) (q_len 230) ∧ True)
set_option maxRecDepth 100000 in
theorem k_X9_of {α β : Nat → Nat} {D : va_G} {κ : Nat → ClassId} (t : Int32) (w : Int32) (σ : q_M) (hP : P_X9_of t w σ) : q_C α β D κ yX9_of cX9_of 3 (Option.some Jvm.ClassFile.FieldType.int) 0 0 0 0 [.ref 229, .int t, .int w] σ (q_oi (F_X9_of t w σ)) σ := by
  refine q_enter (own := RX9) (F := F_X9) (G := G_X9) (by decide +kernel) rfl Fok_X9 Gok_X9 (Nat.le_of_ble_eq_true rfl) (fun p l e s m args below meth c A hfl C hr hT => ?_)
  generalize hF : F_X9_of t w σ = rr
  unfold F_X9_of at hF
  refine q_go C tk_X9_of [(0, 10)] [] (pc1 := 13) (σ1 := σ) (lv1 := [(0, .ref 229), (1, .int t), (2, .int w)]) (st1 := [.int (σ 230 (((4 + (19 * t)) + w)).toNatClampNeg)]) rfl ⟨rfl, rfl, hP.1, trivial⟩ ?_
  exact q_iret C hr (q_dc (z := (13, .ireturn, 1, 0, 0)) tk_X9_of 10 rfl) rfl (congrArg q_oi hF.symm) (Nat.le_of_ble_eq_true rfl) (Nat.le_of_ble_eq_true rfl)
def F_X9_sets (t : Int32) (w : Int32) (v : Int32) (σ : q_M) : q_M := (q_up σ 230 (((4 + (19 * t)) + w)).toNatClampNeg v)
def P_X9_sets (t : Int32) (w : Int32) (v : Int32) (σ : q_M) : Prop := (vp_in ((4 + (19 * t)) + w) (q_len 230) ∧ True)
set_option maxRecDepth 100000 in
theorem k_X9_sets {α β : Nat → Nat} {D : va_G} {κ : Nat → ClassId} (t : Int32) (w : Int32) (v : Int32) (σ : q_M) (hP : P_X9_sets t w v σ) : q_C α β D κ yX9_sets cX9_sets 4 (Option.none : Option Jvm.ClassFile.FieldType) 0 0 0 0 [.ref 229, .int t, .int w, .int v] σ q_ov (F_X9_sets t w v σ) := by
  refine q_enter (own := RX9) (F := F_X9) (G := G_X9) (by decide +kernel) rfl Fok_X9 Gok_X9 (Nat.le_of_ble_eq_true rfl) (fun p l e s m args below meth c A hfl C hr hT => ?_)
  generalize hF : F_X9_sets t w v σ = rr
  unfold F_X9_sets at hF
  refine q_go C tk_X9_sets [(0, 11)] [] (pc1 := 14) (σ1 := (q_up σ 230 (((4 + (19 * t)) + w)).toNatClampNeg v)) (lv1 := [(0, .ref 229), (1, .int t), (2, .int w), (3, .int v)]) (st1 := []) rfl ⟨rfl, rfl, hP.1, trivial⟩ ?_
  exact q_vret C hr (q_dc (z := (14, .return_, 1, 0, 0)) tk_X9_sets 11 rfl) hF rfl (Nat.le_of_ble_eq_true rfl) (Nat.le_of_ble_eq_true rfl)
def F_X9_isTeam (t : Int32) (σ : q_M) : Int32 := (F_X9_isIn t 0 ((σ 230 3) - 1) σ)
set_option maxRecDepth 100000 in
theorem k_X9_isTeam {α β : Nat → Nat} {D : va_G} {κ : Nat → ClassId} (t : Int32) (σ : q_M) : q_C α β D κ yX9_isTeam cX9_isTeam 2 (Option.some Jvm.ClassFile.FieldType.boolean) 1 22 0 0 [.ref 229, .int t] σ (q_oi (F_X9_isTeam t σ)) σ := by
  refine q_enter (own := RX9) (F := F_X9) (G := G_X9) (by decide +kernel) rfl Fok_X9 Gok_X9 (Nat.le_of_ble_eq_true rfl) (fun p l e s m args below meth c A hfl C hr hT => ?_)
  generalize hF : F_X9_isTeam t σ = rr
  unfold F_X9_isTeam at hF
  refine q_go C tk_X9_isTeam [(0, 8)] [] (pc1 := 10) (σ1 := σ) (lv1 := [(0, .ref 229), (1, .int t)]) (st1 := [.int ((σ 230 3) - 1), .int 0, .int t]) rfl ⟨rfl, rfl, (by unfold vp_in; decide +kernel), trivial⟩ ?_
  refine q_callS C hfl mw_X9_isIn ms_X9_isIn lk_X9_48 (k_X9_isIn t 0 ((σ 230 3) - 1) σ) (rest := []) rfl rfl (q_dc (z := (10, .invokestatic 48, 3, 0, 0)) tk_X9_isTeam 8 rfl) (Nat.le_of_ble_eq_true rfl) ⟨Nat.le_of_ble_eq_true rfl, Nat.le_of_ble_eq_true rfl⟩ ⟨Nat.le_of_ble_eq_true rfl, Nat.le_of_ble_eq_true rfl⟩ ?_
  refine q_nrm 13 [.int (F_X9_isIn t 0 ((σ 230 3) - 1) σ)] 0 0 rfl rfl rfl rfl ?_
  exact q_zret C hr (q_dc (z := (13, .ireturn, 1, 0, 0)) tk_X9_isTeam 9 rfl) (q_zb (z_X9_isIn)).1 rfl (congrArg q_oi hF.symm) (Nat.le_of_ble_eq_true rfl) (Nat.le_of_ble_eq_true rfl)
theorem z_X9_isTeam {t : Int32} {σ : q_M} : (F_X9_isTeam t σ) = 0 ∨ (F_X9_isTeam t σ) = 1 := by
  unfold F_X9_isTeam
  try simp only [q_L]
  repeat' split
  all_goals first | exact Or.inl rfl | exact Or.inr rfl | exact z_X9_isIn
def F_X9_isLeg (g : Int32) (σ : q_M) : Int32 := (F_X9_isIn g 0 3 σ)
set_option maxRecDepth 100000 in
theorem k_X9_isLeg {α β : Nat → Nat} {D : va_G} {κ : Nat → ClassId} (g : Int32) (σ : q_M) : q_C α β D κ yX9_isLeg cX9_isLeg 1 (Option.some Jvm.ClassFile.FieldType.boolean) 1 22 0 0 [.int g] σ (q_oi (F_X9_isLeg g σ)) σ := by
  refine q_enter (own := RX9) (F := F_X9) (G := G_X9) (by decide +kernel) rfl Fok_X9 Gok_X9 (Nat.le_of_ble_eq_true rfl) (fun p l e s m args below meth c A hfl C hr hT => ?_)
  generalize hF : F_X9_isLeg g σ = rr
  unfold F_X9_isLeg at hF
  refine q_go C tk_X9_isLeg [(0, 3)] [] (pc1 := 3) (σ1 := σ) (lv1 := [(0, .int g)]) (st1 := [.int 3, .int 0, .int g]) rfl trivial ?_
  refine q_callS C hfl mw_X9_isIn ms_X9_isIn lk_X9_48 (k_X9_isIn g 0 3 σ) (rest := []) rfl rfl (q_dc (z := (3, .invokestatic 48, 3, 0, 0)) tk_X9_isLeg 3 rfl) (Nat.le_of_ble_eq_true rfl) ⟨Nat.le_of_ble_eq_true rfl, Nat.le_of_ble_eq_true rfl⟩ ⟨Nat.le_of_ble_eq_true rfl, Nat.le_of_ble_eq_true rfl⟩ ?_
  refine q_nrm 6 [.int (F_X9_isIn g 0 3 σ)] 0 0 rfl rfl rfl rfl ?_
  exact q_zret C hr (q_dc (z := (6, .ireturn, 1, 0, 0)) tk_X9_isLeg 4 rfl) (q_zb (z_X9_isIn)).1 rfl (congrArg q_oi hF.symm) (Nat.le_of_ble_eq_true rfl) (Nat.le_of_ble_eq_true rfl)
theorem z_X9_isLeg {g : Int32} {σ : q_M} : (F_X9_isLeg g σ) = 0 ∨ (F_X9_isLeg g σ) = 1 := by
  unfold F_X9_isLeg
  try simp only [q_L]
  repeat' split
  all_goals first | exact Or.inl rfl | exact Or.inr rfl | exact z_X9_isIn
def F_X9_isUnprepared (σ : q_M) : Int32 := (if (σ 230 1) = 1 then 1 else 0)
set_option maxRecDepth 100000 in
theorem k_X9_isUnprepared {α β : Nat → Nat} {D : va_G} {κ : Nat → ClassId} (σ : q_M) : q_C α β D κ yX9_isUnprepared cX9_isUnprepared 1 (Option.some Jvm.ClassFile.FieldType.boolean) 0 0 0 0 [.ref 229] σ (q_oi (F_X9_isUnprepared σ)) σ := by
  refine q_enter (own := RX9) (F := F_X9) (G := G_X9) (by decide +kernel) rfl Fok_X9 Gok_X9 (Nat.le_of_ble_eq_true rfl) (fun p l e s m args below meth c A hfl C hr hT => ?_)
  generalize hF : F_X9_isUnprepared σ = rr
  unfold F_X9_isUnprepared at hF
  refine q_go C tk_X9_isUnprepared [(0, 5)] [] (pc1 := 7) (σ1 := σ) (lv1 := [(0, .ref 229)]) (st1 := [.int 1, .int (σ 230 1)]) rfl ⟨rfl, rfl, (by unfold vp_in; decide +kernel), trivial⟩ ?_
  by_cases c1 : (σ 230 1) = 1
  · rw [if_pos c1] at hF
    refine q_go C tk_X9_isUnprepared [(5, 3)] [false] (pc1 := 15) (σ1 := σ) (lv1 := [(0, .ref 229)]) (st1 := [.int 1]) rfl ⟨c1, trivial⟩ ?_
    exact q_zret C hr (q_dc (z := (15, .ireturn, 1, 0, 0)) tk_X9_isUnprepared 9 rfl) (by decide +kernel) rfl (congrArg q_oi hF.symm) (Nat.le_of_ble_eq_true rfl) (Nat.le_of_ble_eq_true rfl)
  · rw [if_neg c1] at hF
    refine q_go C tk_X9_isUnprepared [(5, 1), (8, 1)] [true] (pc1 := 15) (σ1 := σ) (lv1 := [(0, .ref 229)]) (st1 := [.int 0]) rfl ⟨c1, trivial⟩ ?_
    exact q_zret C hr (q_dc (z := (15, .ireturn, 1, 0, 0)) tk_X9_isUnprepared 9 rfl) (by decide +kernel) rfl (congrArg q_oi hF.symm) (Nat.le_of_ble_eq_true rfl) (Nat.le_of_ble_eq_true rfl)
theorem z_X9_isUnprepared {σ : q_M} : (F_X9_isUnprepared σ) = 0 ∨ (F_X9_isUnprepared σ) = 1 := by
  unfold F_X9_isUnprepared
  try simp only [q_L]
  repeat' split
  all_goals first | exact Or.inl rfl | exact Or.inr rfl | exact rfl
def F_X9_step (v : Int32) (n : Int32) (σ : q_M) : Int32 := (q_L (v - (n / 10)) (fun x1 : Int32 => (if x1 < 10 then 10 else x1)))
set_option maxRecDepth 100000 in
theorem k_X9_step {α β : Nat → Nat} {D : va_G} {κ : Nat → ClassId} (v : Int32) (n : Int32) (σ : q_M) : q_C α β D κ yX9_step cX9_step 3 (Option.some Jvm.ClassFile.FieldType.int) 0 0 0 0 [.int v, .int n] σ (q_oi (F_X9_step v n σ)) σ := by
  refine q_enter (own := RX9) (F := F_X9) (G := G_X9) (by decide +kernel) rfl Fok_X9 Gok_X9 (Nat.le_of_ble_eq_true rfl) (fun p l e s m args below meth c A hfl C hr hT => ?_)
  generalize hF : F_X9_step v n σ = rr
  unfold F_X9_step at hF
  refine q_go C tk_X9_step [(0, 5)] [] (pc1 := 6) (σ1 := σ) (lv1 := [(0, .int v), (1, .int n)]) (st1 := [.int (v - (n / 10))]) rfl ⟨(by decide), trivial⟩ ?_
  generalize e2 : (v - (n / 10)) = x1
  replace hF := q_let e2 hF
  refine q_go C tk_X9_step [(5, 3)] [] (pc1 := 10) (σ1 := σ) (lv1 := [(2, .int x1), (0, .int v), (1, .int n)]) (st1 := [.int 10, .int x1]) rfl trivial ?_
  by_cases c3 : x1 < 10
  · rw [if_pos c3] at hF
    refine q_go C tk_X9_step [(8, 3)] [false] (pc1 := 19) (σ1 := σ) (lv1 := [(2, .int x1), (0, .int v), (1, .int n)]) (st1 := [.int 10]) rfl ⟨c3, trivial⟩ ?_
    exact q_iret C hr (q_dc (z := (19, .ireturn, 1, 0, 0)) tk_X9_step 12 rfl) rfl (congrArg q_oi hF.symm) (Nat.le_of_ble_eq_true rfl) (Nat.le_of_ble_eq_true rfl)
  · rw [if_neg c3] at hF
    refine q_go C tk_X9_step [(8, 1), (11, 1)] [true] (pc1 := 19) (σ1 := σ) (lv1 := [(2, .int x1), (0, .int v), (1, .int n)]) (st1 := [.int x1]) rfl ⟨c3, trivial⟩ ?_
    exact q_iret C hr (q_dc (z := (19, .ireturn, 1, 0, 0)) tk_X9_step 12 rfl) rfl (congrArg q_oi hF.symm) (Nat.le_of_ble_eq_true rfl) (Nat.le_of_ble_eq_true rfl)
def F_X9_endOf (g : Int32) (σ : q_M) : Int32 := ((g + 1) * (σ 230 0))
set_option maxRecDepth 100000 in
theorem k_X9_endOf {α β : Nat → Nat} {D : va_G} {κ : Nat → ClassId} (g : Int32) (σ : q_M) : q_C α β D κ yX9_endOf cX9_endOf 2 (Option.some Jvm.ClassFile.FieldType.int) 0 0 0 0 [.ref 229, .int g] σ (q_oi (F_X9_endOf g σ)) σ := by
  refine q_enter (own := RX9) (F := F_X9) (G := G_X9) (by decide +kernel) rfl Fok_X9 Gok_X9 (Nat.le_of_ble_eq_true rfl) (fun p l e s m args below meth c A hfl C hr hT => ?_)
  generalize hF : F_X9_endOf g σ = rr
  unfold F_X9_endOf at hF
  refine q_go C tk_X9_endOf [(0, 8)] [] (pc1 := 10) (σ1 := σ) (lv1 := [(0, .ref 229), (1, .int g)]) (st1 := [.int ((g + 1) * (σ 230 0))]) rfl ⟨rfl, rfl, (by unfold vp_in; decide +kernel), trivial⟩ ?_
  exact q_iret C hr (q_dc (z := (10, .ireturn, 1, 0, 0)) tk_X9_endOf 8 rfl) rfl (congrArg q_oi hF.symm) (Nat.le_of_ble_eq_true rfl) (Nat.le_of_ble_eq_true rfl)
def F_X9_speeds (t : Int32) (g : Int32) (v : Int32) (σ : q_M) : (Int32) × q_M := (if (F_X9_isTeam t σ) = 0 then (0, (q_up σ 229 5 1)) else (if (F_X9_isLeg g σ) = 0 then (0, (q_up σ 229 5 1)) else (q_L (q_up σ 229 5 0) (fun σ3 : q_M => (if (F_X9_isIn v 20 99 σ3) = 0 then (0, (q_up σ3 229 5 2)) else (q_L (q_up σ3 229 5 0) (fun σ6 : q_M => (if (F_X9_isUnprepared σ6) = 0 then (q_L (q_up σ6 229 5 0) (fun σ9 : q_M => (q_L (F_X9_of t (0 + g) σ9) (fun x11 : Int32 => (q_L (F_X9_sets t (0 + g) v σ9) (fun σ13 : q_M => (x11, σ13))))))) else (0, (q_up σ6 229 5 3))))))))))
def P_X9_speeds (t : Int32) (g : Int32) (v : Int32) (σ : q_M) : Prop := (((F_X9_isTeam t σ) = 0 → True) ∧ (¬ (F_X9_isTeam t σ) = 0 → (((F_X9_isLeg g σ) = 0 → True) ∧ (¬ (F_X9_isLeg g σ) = 0 → (∀ σ3 : q_M, (q_up σ 229 5 0) = σ3 → (((F_X9_isIn v 20 99 σ3) = 0 → True) ∧ (¬ (F_X9_isIn v 20 99 σ3) = 0 → (∀ σ6 : q_M, (q_up σ3 229 5 0) = σ6 → (((F_X9_isUnprepared σ6) = 0 → (∀ σ9 : q_M, (q_up σ6 229 5 0) = σ9 → ((P_X9_of t (0 + g) σ9) ∧ (∀ x11 : Int32, (F_X9_of t (0 + g) σ9) = x11 → ((P_X9_sets t (0 + g) v σ9) ∧ True))))) ∧ (¬ (F_X9_isUnprepared σ6) = 0 → True))))))))))
set_option maxRecDepth 100000 in
theorem k_X9_speeds {α β : Nat → Nat} {D : va_G} {κ : Nat → ClassId} (t : Int32) (g : Int32) (v : Int32) (σ : q_M) (hP : P_X9_speeds t g v σ) : q_C α β D κ yX9_speeds cX9_speeds 5 (Option.some Jvm.ClassFile.FieldType.int) 2 43 0 0 [.ref 229, .int t, .int g, .int v] σ (q_oi (F_X9_speeds t g v σ).1) (F_X9_speeds t g v σ).2 := by
  refine q_enter (own := RX9) (F := F_X9) (G := G_X9) (by decide +kernel) rfl Fok_X9 Gok_X9 (Nat.le_of_ble_eq_true rfl) (fun p l e s m args below meth c A hfl C hr hT => ?_)
  generalize hF : F_X9_speeds t g v σ = rr
  unfold F_X9_speeds at hF
  refine q_go C tk_X9_speeds [(0, 3)] [] (pc1 := 3) (σ1 := σ) (lv1 := [(0, .ref 229), (1, .int t), (2, .int g), (3, .int v)]) (st1 := [.int t, .ref 229, .ref 229]) rfl trivial ?_
  refine q_callV C hfl mw_X9_isTeam mi_X9_isTeam me_X9_isTeam lk_X9_75 (k_X9_isTeam t σ) (rest := [.ref 229]) rfl rfl rfl (by decide) (by decide) rfl (q_dc (z := (3, .invokevirtual 75, 3, 0, 0)) tk_X9_speeds 3 rfl) (Nat.le_of_ble_eq_true rfl) ⟨Nat.le_of_ble_eq_true rfl, Nat.le_of_ble_eq_true rfl⟩ ⟨Nat.le_of_ble_eq_true rfl, Nat.le_of_ble_eq_true rfl⟩ ?_
  refine q_nrm 6 [.int (F_X9_isTeam t σ), .ref 229] 0 0 rfl rfl rfl rfl ?_
  by_cases c1 : (F_X9_isTeam t σ) = 0
  · rw [if_pos c1] at hF
    refine q_go C tk_X9_speeds [(4, 1), (8, 2), (11, 1)] [true] (pc1 := 22) (σ1 := σ) (lv1 := [(0, .ref 229), (1, .int t), (2, .int g), (3, .int v)]) (st1 := [.int 1, .int 1, .ref 229]) rfl ⟨c1, trivial⟩ ?_
    refine q_callV C hfl mw_X9_isThrown mi_X9_isThrown me_X9_isThrown lk_X9_63 (k_X9_isThrownN 1 1 σ (by decide) (by decide)) (rest := []) rfl rfl rfl (by decide) (by decide) rfl (q_dc (z := (22, .invokevirtual 63, 3, 0, 0)) tk_X9_speeds 12 rfl) (Nat.le_of_ble_eq_true rfl) ⟨Nat.le_of_ble_eq_true rfl, Nat.le_of_ble_eq_true rfl⟩ ⟨Nat.le_of_ble_eq_true rfl, Nat.le_of_ble_eq_true rfl⟩ ?_
    refine q_nrm 25 [.int 1] 0 0 rfl rfl rfl rfl ?_
    refine q_go C tk_X9_speeds [(13, 1), (32, 1)] [true] (pc1 := 65) (σ1 := (q_up σ 229 5 1)) (lv1 := [(0, .ref 229), (1, .int t), (2, .int g), (3, .int v)]) (st1 := [.int 0]) rfl ⟨(by decide : ¬ (1 : Int32) = 0), trivial⟩ ?_
    exact q_iret C hr (q_dc (z := (65, .ireturn, 1, 0, 0)) tk_X9_speeds 33 rfl) (congrArg Prod.snd hF) (congrArg (fun z => q_oi z.1) hF.symm) (Nat.le_of_ble_eq_true rfl) (Nat.le_of_ble_eq_true rfl)
  · rw [if_neg c1] at hF
    refine q_go C tk_X9_speeds [(4, 2)] [false] (pc1 := 10) (σ1 := σ) (lv1 := [(0, .ref 229), (1, .int t), (2, .int g), (3, .int v)]) (st1 := [.int g, .ref 229]) rfl ⟨c1, trivial⟩ ?_
    refine q_callS C hfl mw_X9_isLeg ms_X9_isLeg lk_X9_79 (k_X9_isLeg g σ) (rest := [.ref 229]) rfl rfl (q_dc (z := (10, .invokestatic 79, 3, 0, 0)) tk_X9_speeds 6 rfl) (Nat.le_of_ble_eq_true rfl) ⟨Nat.le_of_ble_eq_true rfl, Nat.le_of_ble_eq_true rfl⟩ ⟨Nat.le_of_ble_eq_true rfl, Nat.le_of_ble_eq_true rfl⟩ ?_
    refine q_nrm 13 [.int (F_X9_isLeg g σ), .ref 229] 0 0 rfl rfl rfl rfl ?_
    by_cases c2 : (F_X9_isLeg g σ) = 0
    · rw [if_pos c2] at hF
      refine q_go C tk_X9_speeds [(7, 3), (11, 1)] [false] (pc1 := 22) (σ1 := σ) (lv1 := [(0, .ref 229), (1, .int t), (2, .int g), (3, .int v)]) (st1 := [.int 1, .int 1, .ref 229]) rfl ⟨c2, trivial⟩ ?_
      refine q_callV C hfl mw_X9_isThrown mi_X9_isThrown me_X9_isThrown lk_X9_63 (k_X9_isThrownN 1 1 σ (by decide) (by decide)) (rest := []) rfl rfl rfl (by decide) (by decide) rfl (q_dc (z := (22, .invokevirtual 63, 3, 0, 0)) tk_X9_speeds 12 rfl) (Nat.le_of_ble_eq_true rfl) ⟨Nat.le_of_ble_eq_true rfl, Nat.le_of_ble_eq_true rfl⟩ ⟨Nat.le_of_ble_eq_true rfl, Nat.le_of_ble_eq_true rfl⟩ ?_
      refine q_nrm 25 [.int 1] 0 0 rfl rfl rfl rfl ?_
      refine q_go C tk_X9_speeds [(13, 1), (32, 1)] [true] (pc1 := 65) (σ1 := (q_up σ 229 5 1)) (lv1 := [(0, .ref 229), (1, .int t), (2, .int g), (3, .int v)]) (st1 := [.int 0]) rfl ⟨(by decide : ¬ (1 : Int32) = 0), trivial⟩ ?_
      exact q_iret C hr (q_dc (z := (65, .ireturn, 1, 0, 0)) tk_X9_speeds 33 rfl) (congrArg Prod.snd hF) (congrArg (fun z => q_oi z.1) hF.symm) (Nat.le_of_ble_eq_true rfl) (Nat.le_of_ble_eq_true rfl)
    · rw [if_neg c2] at hF
      refine q_go C tk_X9_speeds [(7, 1), (10, 2)] [true] (pc1 := 22) (σ1 := σ) (lv1 := [(0, .ref 229), (1, .int t), (2, .int g), (3, .int v)]) (st1 := [.int 1, .int 0, .ref 229]) rfl ⟨c2, trivial⟩ ?_
      refine q_callV C hfl mw_X9_isThrown mi_X9_isThrown me_X9_isThrown lk_X9_63 (k_X9_isThrownZ 0 1 σ (by decide)) (rest := []) rfl rfl rfl (by decide) (by decide) rfl (q_dc (z := (22, .invokevirtual 63, 3, 0, 0)) tk_X9_speeds 12 rfl) (Nat.le_of_ble_eq_true rfl) ⟨Nat.le_of_ble_eq_true rfl, Nat.le_of_ble_eq_true rfl⟩ ⟨Nat.le_of_ble_eq_true rfl, Nat.le_of_ble_eq_true rfl⟩ ?_
      refine q_nrm 25 [.int 0] 0 0 rfl rfl rfl rfl ?_
      refine q_go C tk_X9_speeds [(13, 5)] [false] (pc1 := 34) (σ1 := (q_up σ 229 5 0)) (lv1 := [(0, .ref 229), (1, .int t), (2, .int g), (3, .int v)]) (st1 := [.int 99, .int 20, .int v, .ref 229]) rfl ⟨(by decide : (0 : Int32) = 0), trivial⟩ ?_
      generalize e4 : (q_up σ 229 5 0) = σ3
      replace hF := q_let e4 hF
      refine q_callS C hfl mw_X9_isIn ms_X9_isIn lk_X9_48 (k_X9_isIn v 20 99 σ3) (rest := [.ref 229]) rfl rfl (q_dc (z := (34, .invokestatic 48, 3, 0, 0)) tk_X9_speeds 18 rfl) (Nat.le_of_ble_eq_true rfl) ⟨Nat.le_of_ble_eq_true rfl, Nat.le_of_ble_eq_true rfl⟩ ⟨Nat.le_of_ble_eq_true rfl, Nat.le_of_ble_eq_true rfl⟩ ?_
      refine q_nrm 37 [.int (F_X9_isIn v 20 99 σ3), .ref 229] 0 0 rfl rfl rfl rfl ?_
      by_cases c5 : (F_X9_isIn v 20 99 σ3) = 0
      · rw [if_pos c5] at hF
        refine q_go C tk_X9_speeds [(19, 3), (23, 1)] [false] (pc1 := 46) (σ1 := σ3) (lv1 := [(0, .ref 229), (1, .int t), (2, .int g), (3, .int v)]) (st1 := [.int 2, .int 1, .ref 229]) rfl ⟨c5, trivial⟩ ?_
        refine q_callV C hfl mw_X9_isThrown mi_X9_isThrown me_X9_isThrown lk_X9_63 (k_X9_isThrownN 1 2 σ3 (by decide) (by decide)) (rest := []) rfl rfl rfl (by decide) (by decide) rfl (q_dc (z := (46, .invokevirtual 63, 3, 0, 0)) tk_X9_speeds 24 rfl) (Nat.le_of_ble_eq_true rfl) ⟨Nat.le_of_ble_eq_true rfl, Nat.le_of_ble_eq_true rfl⟩ ⟨Nat.le_of_ble_eq_true rfl, Nat.le_of_ble_eq_true rfl⟩ ?_
        refine q_nrm 49 [.int 1] 0 0 rfl rfl rfl rfl ?_
        refine q_go C tk_X9_speeds [(25, 1), (32, 1)] [true] (pc1 := 65) (σ1 := (q_up σ3 229 5 2)) (lv1 := [(0, .ref 229), (1, .int t), (2, .int g), (3, .int v)]) (st1 := [.int 0]) rfl ⟨(by decide : ¬ (1 : Int32) = 0), trivial⟩ ?_
        exact q_iret C hr (q_dc (z := (65, .ireturn, 1, 0, 0)) tk_X9_speeds 33 rfl) (congrArg Prod.snd hF) (congrArg (fun z => q_oi z.1) hF.symm) (Nat.le_of_ble_eq_true rfl) (Nat.le_of_ble_eq_true rfl)
      · rw [if_neg c5] at hF
        refine q_go C tk_X9_speeds [(19, 1), (22, 2)] [true] (pc1 := 46) (σ1 := σ3) (lv1 := [(0, .ref 229), (1, .int t), (2, .int g), (3, .int v)]) (st1 := [.int 2, .int 0, .ref 229]) rfl ⟨c5, trivial⟩ ?_
        refine q_callV C hfl mw_X9_isThrown mi_X9_isThrown me_X9_isThrown lk_X9_63 (k_X9_isThrownZ 0 2 σ3 (by decide)) (rest := []) rfl rfl rfl (by decide) (by decide) rfl (q_dc (z := (46, .invokevirtual 63, 3, 0, 0)) tk_X9_speeds 24 rfl) (Nat.le_of_ble_eq_true rfl) ⟨Nat.le_of_ble_eq_true rfl, Nat.le_of_ble_eq_true rfl⟩ ⟨Nat.le_of_ble_eq_true rfl, Nat.le_of_ble_eq_true rfl⟩ ?_
        refine q_nrm 49 [.int 0] 0 0 rfl rfl rfl rfl ?_
        refine q_go C tk_X9_speeds [(25, 3)] [false] (pc1 := 54) (σ1 := (q_up σ3 229 5 0)) (lv1 := [(0, .ref 229), (1, .int t), (2, .int g), (3, .int v)]) (st1 := [.ref 229, .ref 229]) rfl ⟨(by decide : (0 : Int32) = 0), trivial⟩ ?_
        generalize e7 : (q_up σ3 229 5 0) = σ6
        replace hF := q_let e7 hF
        refine q_callV C hfl mw_X9_isUnprepared mi_X9_isUnprepared me_X9_isUnprepared lk_X9_59 (k_X9_isUnprepared σ6) (rest := [.ref 229]) rfl rfl rfl (by decide) (by decide) rfl (q_dc (z := (54, .invokevirtual 59, 3, 0, 0)) tk_X9_speeds 28 rfl) (Nat.le_of_ble_eq_true rfl) ⟨Nat.le_of_ble_eq_true rfl, Nat.le_of_ble_eq_true rfl⟩ ⟨Nat.le_of_ble_eq_true rfl, Nat.le_of_ble_eq_true rfl⟩ ?_
        refine q_nrm 57 [.int (F_X9_isUnprepared σ6), .ref 229] 0 0 rfl rfl rfl rfl ?_
        refine q_go C tk_X9_speeds [(29, 1)] [] (pc1 := 58) (σ1 := σ6) (lv1 := [(0, .ref 229), (1, .int t), (2, .int g), (3, .int v)]) (st1 := [.int 3, .int (F_X9_isUnprepared σ6), .ref 229]) rfl trivial ?_
        by_cases c8 : (F_X9_isUnprepared σ6) = 0
        · rw [if_pos c8] at hF
          refine q_callV C hfl mw_X9_isThrown mi_X9_isThrown me_X9_isThrown lk_X9_63 (k_X9_isThrownZ (F_X9_isUnprepared σ6) 3 σ6 c8) (rest := []) rfl rfl rfl (by decide) (by decide) rfl (q_dc (z := (58, .invokevirtual 63, 3, 0, 0)) tk_X9_speeds 30 rfl) (Nat.le_of_ble_eq_true rfl) ⟨Nat.le_of_ble_eq_true rfl, Nat.le_of_ble_eq_true rfl⟩ ⟨Nat.le_of_ble_eq_true rfl, Nat.le_of_ble_eq_true rfl⟩ ?_
          refine q_nrm 61 [.int (F_X9_isUnprepared σ6)] 0 0 rfl rfl rfl rfl ?_
          refine q_go C tk_X9_speeds [(31, 1), (34, 5)] [true] (pc1 := 71) (σ1 := (q_up σ6 229 5 0)) (lv1 := [(0, .ref 229), (1, .int t), (2, .int g), (3, .int v)]) (st1 := [.int (0 + g), .int t, .ref 229]) rfl ⟨c8, trivial⟩ ?_
          generalize e10 : (q_up σ6 229 5 0) = σ9
          replace hF := q_let e10 hF
          refine q_callV C hfl mw_X9_of mi_X9_of me_X9_of lk_X9_52 (k_X9_of t (0 + g) σ9 (((((((hP.2 c1).2 c2) σ3 e4).2 c5) σ6 e7).1 c8) σ9 e10).1) (rest := []) rfl rfl rfl (by decide) (by decide) rfl (q_dc (z := (71, .invokevirtual 52, 3, 0, 0)) tk_X9_speeds 39 rfl) (Nat.le_of_ble_eq_true rfl) ⟨Nat.le_of_ble_eq_true rfl, Nat.le_of_ble_eq_true rfl⟩ ⟨Nat.le_of_ble_eq_true rfl, Nat.le_of_ble_eq_true rfl⟩ ?_
          refine q_nrm 74 [.int (F_X9_of t (0 + g) σ9)] 0 0 rfl rfl rfl rfl ?_
          generalize e12 : (F_X9_of t (0 + g) σ9) = x11
          replace hF := q_let e12 hF
          refine q_go C tk_X9_speeds [(40, 7)] [] (pc1 := 82) (σ1 := σ9) (lv1 := [(4, .int x11), (0, .ref 229), (1, .int t), (2, .int g), (3, .int v)]) (st1 := [.int v, .int (0 + g), .int t, .ref 229]) rfl trivial ?_
          refine q_callV C hfl mw_X9_sets mi_X9_sets me_X9_sets lk_X9_67 (k_X9_sets t (0 + g) v σ9 ((((((((hP.2 c1).2 c2) σ3 e4).2 c5) σ6 e7).1 c8) σ9 e10).2 x11 e12).1) (rest := []) rfl rfl rfl (by decide) (by decide) rfl (q_dc (z := (82, .invokevirtual 67, 3, 0, 0)) tk_X9_speeds 47 rfl) (Nat.le_of_ble_eq_true rfl) ⟨Nat.le_of_ble_eq_true rfl, Nat.le_of_ble_eq_true rfl⟩ ⟨Nat.le_of_ble_eq_true rfl, Nat.le_of_ble_eq_true rfl⟩ ?_
          refine q_nrm 85 [] 0 0 rfl rfl rfl rfl ?_
          generalize e14 : (F_X9_sets t (0 + g) v σ9) = σ13
          replace hF := q_let e14 hF
          refine q_go C tk_X9_speeds [(48, 1)] [] (pc1 := 87) (σ1 := σ13) (lv1 := [(4, .int x11), (0, .ref 229), (1, .int t), (2, .int g), (3, .int v)]) (st1 := [.int x11]) rfl trivial ?_
          exact q_iret C hr (q_dc (z := (87, .ireturn, 1, 0, 0)) tk_X9_speeds 49 rfl) (congrArg Prod.snd hF) (congrArg (fun z => q_oi z.1) hF.symm) (Nat.le_of_ble_eq_true rfl) (Nat.le_of_ble_eq_true rfl)
        · rw [if_neg c8] at hF
          refine q_callV C hfl mw_X9_isThrown mi_X9_isThrown me_X9_isThrown lk_X9_63 (k_X9_isThrownN (F_X9_isUnprepared σ6) 3 σ6 c8 (z_X9_isUnprepared)) (rest := []) rfl rfl rfl (by decide) (by decide) rfl (q_dc (z := (58, .invokevirtual 63, 3, 0, 0)) tk_X9_speeds 30 rfl) (Nat.le_of_ble_eq_true rfl) ⟨Nat.le_of_ble_eq_true rfl, Nat.le_of_ble_eq_true rfl⟩ ⟨Nat.le_of_ble_eq_true rfl, Nat.le_of_ble_eq_true rfl⟩ ?_
          refine q_nrm 61 [.int (F_X9_isUnprepared σ6)] 0 0 rfl rfl rfl rfl ?_
          refine q_go C tk_X9_speeds [(31, 2)] [false] (pc1 := 65) (σ1 := (q_up σ6 229 5 3)) (lv1 := [(0, .ref 229), (1, .int t), (2, .int g), (3, .int v)]) (st1 := [.int 0]) rfl ⟨c8, trivial⟩ ?_
          exact q_iret C hr (q_dc (z := (65, .ireturn, 1, 0, 0)) tk_X9_speeds 33 rfl) (congrArg Prod.snd hF) (congrArg (fun z => q_oi z.1) hF.symm) (Nat.le_of_ble_eq_true rfl) (Nat.le_of_ble_eq_true rfl)
def F_X9_standsAtBound (t : Int32) (σ : q_M) : Int32 := (q_L (F_X9_of t 8 σ) (fun x1 : Int32 => (if x1 < 3 then (if (F_X9_of t 7 σ) = ((F_X9_endOf x1 σ) + 300) then 1 else 0) else 0)))
def P_X9_standsAtBound (t : Int32) (σ : q_M) : Prop := ((P_X9_of t 8 σ) ∧ (∀ x1 : Int32, (F_X9_of t 8 σ) = x1 → ((x1 < 3 → ((P_X9_of t 7 σ) ∧ True)) ∧ (¬ x1 < 3 → True))))
set_option maxRecDepth 100000 in
theorem k_X9_standsAtBound {α β : Nat → Nat} {D : va_G} {κ : Nat → ClassId} (t : Int32) (σ : q_M) (hP : P_X9_standsAtBound t σ) : q_C α β D κ yX9_standsAtBound cX9_standsAtBound 3 (Option.some Jvm.ClassFile.FieldType.boolean) 1 22 0 0 [.ref 229, .int t] σ (q_oi (F_X9_standsAtBound t σ)) σ := by
  refine q_enter (own := RX9) (F := F_X9) (G := G_X9) (by decide +kernel) rfl Fok_X9 Gok_X9 (Nat.le_of_ble_eq_true rfl) (fun p l e s m args below meth c A hfl C hr hT => ?_)
  generalize hF : F_X9_standsAtBound t σ = rr
  unfold F_X9_standsAtBound at hF
  refine q_go C tk_X9_standsAtBound [(0, 3)] [] (pc1 := 4) (σ1 := σ) (lv1 := [(0, .ref 229), (1, .int t)]) (st1 := [.int 8, .int t, .ref 229]) rfl trivial ?_
  refine q_callV C hfl mw_X9_of mi_X9_of me_X9_of lk_X9_52 (k_X9_of t 8 σ hP.1) (rest := []) rfl rfl rfl (by decide) (by decide) rfl (q_dc (z := (4, .invokevirtual 52, 3, 0, 0)) tk_X9_standsAtBound 3 rfl) (Nat.le_of_ble_eq_true rfl) ⟨Nat.le_of_ble_eq_true rfl, Nat.le_of_ble_eq_true rfl⟩ ⟨Nat.le_of_ble_eq_true rfl, Nat.le_of_ble_eq_true rfl⟩ ?_
  refine q_nrm 7 [.int (F_X9_of t 8 σ)] 0 0 rfl rfl rfl rfl ?_
  generalize e2 : (F_X9_of t 8 σ) = x1
  replace hF := q_let e2 hF
  refine q_go C tk_X9_standsAtBound [(4, 3)] [] (pc1 := 10) (σ1 := σ) (lv1 := [(2, .int x1), (0, .ref 229), (1, .int t)]) (st1 := [.int 3, .int x1]) rfl trivial ?_
  by_cases c3 : x1 < 3
  · rw [if_pos c3] at hF
    refine q_go C tk_X9_standsAtBound [(7, 4)] [false] (pc1 := 17) (σ1 := σ) (lv1 := [(2, .int x1), (0, .ref 229), (1, .int t)]) (st1 := [.int 7, .int t, .ref 229]) rfl ⟨c3, trivial⟩ ?_
    refine q_callV C hfl mw_X9_of mi_X9_of me_X9_of lk_X9_52 (k_X9_of t 7 σ ((hP.2 x1 e2).1 c3).1) (rest := []) rfl rfl rfl (by decide) (by decide) rfl (q_dc (z := (17, .invokevirtual 52, 3, 0, 0)) tk_X9_standsAtBound 11 rfl) (Nat.le_of_ble_eq_true rfl) ⟨Nat.le_of_ble_eq_true rfl, Nat.le_of_ble_eq_true rfl⟩ ⟨Nat.le_of_ble_eq_true rfl, Nat.le_of_ble_eq_true rfl⟩ ?_
    refine q_nrm 20 [.int (F_X9_of t 7 σ)] 0 0 rfl rfl rfl rfl ?_
    refine q_go C tk_X9_standsAtBound [(12, 2)] [] (pc1 := 22) (σ1 := σ) (lv1 := [(2, .int x1), (0, .ref 229), (1, .int t)]) (st1 := [.int x1, .ref 229, .int (F_X9_of t 7 σ)]) rfl trivial ?_
    refine q_callV C hfl mw_X9_endOf mi_X9_endOf me_X9_endOf lk_X9_96 (k_X9_endOf x1 σ) (rest := [.int (F_X9_of t 7 σ)]) rfl rfl rfl (by decide) (by decide) rfl (q_dc (z := (22, .invokevirtual 96, 3, 0, 0)) tk_X9_standsAtBound 14 rfl) (Nat.le_of_ble_eq_true rfl) ⟨Nat.le_of_ble_eq_true rfl, Nat.le_of_ble_eq_true rfl⟩ ⟨Nat.le_of_ble_eq_true rfl, Nat.le_of_ble_eq_true rfl⟩ ?_
    refine q_nrm 25 [.int (F_X9_endOf x1 σ), .int (F_X9_of t 7 σ)] 0 0 rfl rfl rfl rfl ?_
    refine q_go C tk_X9_standsAtBound [(15, 2)] [] (pc1 := 29) (σ1 := σ) (lv1 := [(2, .int x1), (0, .ref 229), (1, .int t)]) (st1 := [.int ((F_X9_endOf x1 σ) + 300), .int (F_X9_of t 7 σ)]) rfl trivial ?_
    by_cases c4 : (F_X9_of t 7 σ) = ((F_X9_endOf x1 σ) + 300)
    · rw [if_pos c4] at hF
      refine q_go C tk_X9_standsAtBound [(17, 3)] [false] (pc1 := 37) (σ1 := σ) (lv1 := [(2, .int x1), (0, .ref 229), (1, .int t)]) (st1 := [.int 1]) rfl ⟨c4, trivial⟩ ?_
      exact q_zret C hr (q_dc (z := (37, .ireturn, 1, 0, 0)) tk_X9_standsAtBound 21 rfl) (by decide +kernel) rfl (congrArg q_oi hF.symm) (Nat.le_of_ble_eq_true rfl) (Nat.le_of_ble_eq_true rfl)
    · rw [if_neg c4] at hF
      refine q_go C tk_X9_standsAtBound [(17, 1), (20, 1)] [true] (pc1 := 37) (σ1 := σ) (lv1 := [(2, .int x1), (0, .ref 229), (1, .int t)]) (st1 := [.int 0]) rfl ⟨c4, trivial⟩ ?_
      exact q_zret C hr (q_dc (z := (37, .ireturn, 1, 0, 0)) tk_X9_standsAtBound 21 rfl) (by decide +kernel) rfl (congrArg q_oi hF.symm) (Nat.le_of_ble_eq_true rfl) (Nat.le_of_ble_eq_true rfl)
  · rw [if_neg c3] at hF
    refine q_go C tk_X9_standsAtBound [(7, 1), (20, 1)] [true] (pc1 := 37) (σ1 := σ) (lv1 := [(2, .int x1), (0, .ref 229), (1, .int t)]) (st1 := [.int 0]) rfl ⟨c3, trivial⟩ ?_
    exact q_zret C hr (q_dc (z := (37, .ireturn, 1, 0, 0)) tk_X9_standsAtBound 21 rfl) (by decide +kernel) rfl (congrArg q_oi hF.symm) (Nat.le_of_ble_eq_true rfl) (Nat.le_of_ble_eq_true rfl)
def F_X9_inZone (t : Int32) (σ : q_M) : Int32 := (q_L (F_X9_of t 8 σ) (fun x1 : Int32 => (q_L (F_X9_endOf x1 σ) (fun x3 : Int32 => (if x1 < 3 then (if (F_X9_isIn (F_X9_of t 7 σ) (x3 - 100) (x3 + 100) σ) = 0 then 0 else 1) else 0)))))
def P_X9_inZone (t : Int32) (σ : q_M) : Prop := ((P_X9_of t 8 σ) ∧ (∀ x1 : Int32, (F_X9_of t 8 σ) = x1 → (∀ x3 : Int32, (F_X9_endOf x1 σ) = x3 → ((x1 < 3 → ((P_X9_of t 7 σ) ∧ True)) ∧ (¬ x1 < 3 → True)))))
set_option maxRecDepth 100000 in
theorem k_X9_inZone {α β : Nat → Nat} {D : va_G} {κ : Nat → ClassId} (t : Int32) (σ : q_M) (hP : P_X9_inZone t σ) : q_C α β D κ yX9_inZone cX9_inZone 4 (Option.some Jvm.ClassFile.FieldType.boolean) 1 22 0 0 [.ref 229, .int t] σ (q_oi (F_X9_inZone t σ)) σ := by
  refine q_enter (own := RX9) (F := F_X9) (G := G_X9) (by decide +kernel) rfl Fok_X9 Gok_X9 (Nat.le_of_ble_eq_true rfl) (fun p l e s m args below meth c A hfl C hr hT => ?_)
  generalize hF : F_X9_inZone t σ = rr
  unfold F_X9_inZone at hF
  refine q_go C tk_X9_inZone [(0, 3)] [] (pc1 := 4) (σ1 := σ) (lv1 := [(0, .ref 229), (1, .int t)]) (st1 := [.int 8, .int t, .ref 229]) rfl trivial ?_
  refine q_callV C hfl mw_X9_of mi_X9_of me_X9_of lk_X9_52 (k_X9_of t 8 σ hP.1) (rest := []) rfl rfl rfl (by decide) (by decide) rfl (q_dc (z := (4, .invokevirtual 52, 3, 0, 0)) tk_X9_inZone 3 rfl) (Nat.le_of_ble_eq_true rfl) ⟨Nat.le_of_ble_eq_true rfl, Nat.le_of_ble_eq_true rfl⟩ ⟨Nat.le_of_ble_eq_true rfl, Nat.le_of_ble_eq_true rfl⟩ ?_
  refine q_nrm 7 [.int (F_X9_of t 8 σ)] 0 0 rfl rfl rfl rfl ?_
  generalize e2 : (F_X9_of t 8 σ) = x1
  replace hF := q_let e2 hF
  refine q_go C tk_X9_inZone [(4, 3)] [] (pc1 := 10) (σ1 := σ) (lv1 := [(2, .int x1), (0, .ref 229), (1, .int t)]) (st1 := [.int x1, .ref 229]) rfl trivial ?_
  refine q_callV C hfl mw_X9_endOf mi_X9_endOf me_X9_endOf lk_X9_96 (k_X9_endOf x1 σ) (rest := []) rfl rfl rfl (by decide) (by decide) rfl (q_dc (z := (10, .invokevirtual 96, 3, 0, 0)) tk_X9_inZone 7 rfl) (Nat.le_of_ble_eq_true rfl) ⟨Nat.le_of_ble_eq_true rfl, Nat.le_of_ble_eq_true rfl⟩ ⟨Nat.le_of_ble_eq_true rfl, Nat.le_of_ble_eq_true rfl⟩ ?_
  refine q_nrm 13 [.int (F_X9_endOf x1 σ)] 0 0 rfl rfl rfl rfl ?_
  generalize e4 : (F_X9_endOf x1 σ) = x3
  replace hF := q_let e4 hF
  refine q_go C tk_X9_inZone [(8, 3)] [] (pc1 := 16) (σ1 := σ) (lv1 := [(3, .int x3), (2, .int x1), (0, .ref 229), (1, .int t)]) (st1 := [.int 3, .int x1]) rfl trivial ?_
  by_cases c5 : x1 < 3
  · rw [if_pos c5] at hF
    refine q_go C tk_X9_inZone [(11, 4)] [false] (pc1 := 23) (σ1 := σ) (lv1 := [(3, .int x3), (2, .int x1), (0, .ref 229), (1, .int t)]) (st1 := [.int 7, .int t, .ref 229]) rfl ⟨c5, trivial⟩ ?_
    refine q_callV C hfl mw_X9_of mi_X9_of me_X9_of lk_X9_52 (k_X9_of t 7 σ (((hP.2 x1 e2) x3 e4).1 c5).1) (rest := []) rfl rfl rfl (by decide) (by decide) rfl (q_dc (z := (23, .invokevirtual 52, 3, 0, 0)) tk_X9_inZone 15 rfl) (Nat.le_of_ble_eq_true rfl) ⟨Nat.le_of_ble_eq_true rfl, Nat.le_of_ble_eq_true rfl⟩ ⟨Nat.le_of_ble_eq_true rfl, Nat.le_of_ble_eq_true rfl⟩ ?_
    refine q_nrm 26 [.int (F_X9_of t 7 σ)] 0 0 rfl rfl rfl rfl ?_
    refine q_go C tk_X9_inZone [(16, 6)] [] (pc1 := 34) (σ1 := σ) (lv1 := [(3, .int x3), (2, .int x1), (0, .ref 229), (1, .int t)]) (st1 := [.int (x3 + 100), .int (x3 - 100), .int (F_X9_of t 7 σ)]) rfl trivial ?_
    refine q_callS C hfl mw_X9_isIn ms_X9_isIn lk_X9_48 (k_X9_isIn (F_X9_of t 7 σ) (x3 - 100) (x3 + 100) σ) (rest := []) rfl rfl (q_dc (z := (34, .invokestatic 48, 3, 0, 0)) tk_X9_inZone 22 rfl) (Nat.le_of_ble_eq_true rfl) ⟨Nat.le_of_ble_eq_true rfl, Nat.le_of_ble_eq_true rfl⟩ ⟨Nat.le_of_ble_eq_true rfl, Nat.le_of_ble_eq_true rfl⟩ ?_
    refine q_nrm 37 [.int (F_X9_isIn (F_X9_of t 7 σ) (x3 - 100) (x3 + 100) σ)] 0 0 rfl rfl rfl rfl ?_
    by_cases c6 : (F_X9_isIn (F_X9_of t 7 σ) (x3 - 100) (x3 + 100) σ) = 0
    · rw [if_pos c6] at hF
      refine q_go C tk_X9_inZone [(23, 1), (26, 1)] [true] (pc1 := 45) (σ1 := σ) (lv1 := [(3, .int x3), (2, .int x1), (0, .ref 229), (1, .int t)]) (st1 := [.int 0]) rfl ⟨c6, trivial⟩ ?_
      exact q_zret C hr (q_dc (z := (45, .ireturn, 1, 0, 0)) tk_X9_inZone 27 rfl) (by decide +kernel) rfl (congrArg q_oi hF.symm) (Nat.le_of_ble_eq_true rfl) (Nat.le_of_ble_eq_true rfl)
    · rw [if_neg c6] at hF
      refine q_go C tk_X9_inZone [(23, 3)] [false] (pc1 := 45) (σ1 := σ) (lv1 := [(3, .int x3), (2, .int x1), (0, .ref 229), (1, .int t)]) (st1 := [.int 1]) rfl ⟨c6, trivial⟩ ?_
      exact q_zret C hr (q_dc (z := (45, .ireturn, 1, 0, 0)) tk_X9_inZone 27 rfl) (by decide +kernel) rfl (congrArg q_oi hF.symm) (Nat.le_of_ble_eq_true rfl) (Nat.le_of_ble_eq_true rfl)
  · rw [if_neg c5] at hF
    refine q_go C tk_X9_inZone [(11, 1), (26, 1)] [true] (pc1 := 45) (σ1 := σ) (lv1 := [(3, .int x3), (2, .int x1), (0, .ref 229), (1, .int t)]) (st1 := [.int 0]) rfl ⟨c5, trivial⟩ ?_
    exact q_zret C hr (q_dc (z := (45, .ireturn, 1, 0, 0)) tk_X9_inZone 27 rfl) (by decide +kernel) rfl (congrArg q_oi hF.symm) (Nat.le_of_ble_eq_true rfl) (Nat.le_of_ble_eq_true rfl)
def F_X9_reason (t : Int32) (σ : q_M) : Int32 := (q_L (F_X9_of t 8 σ) (fun x1 : Int32 => (if 0 < (F_X9_of t 10 σ) then 1 else (if x1 = 3 then 2 else (if (F_X9_of t 7 σ) < ((F_X9_endOf x1 σ) - 100) then 3 else 0)))))
def P_X9_reason (t : Int32) (σ : q_M) : Prop := ((P_X9_of t 8 σ) ∧ (∀ x1 : Int32, (F_X9_of t 8 σ) = x1 → ((P_X9_of t 10 σ) ∧ ((0 < (F_X9_of t 10 σ) → True) ∧ (¬ 0 < (F_X9_of t 10 σ) → ((x1 = 3 → True) ∧ (¬ x1 = 3 → ((P_X9_of t 7 σ) ∧ True))))))))
set_option maxRecDepth 100000 in
theorem k_X9_reason {α β : Nat → Nat} {D : va_G} {κ : Nat → ClassId} (t : Int32) (σ : q_M) (hP : P_X9_reason t σ) : q_C α β D κ yX9_reason cX9_reason 3 (Option.some Jvm.ClassFile.FieldType.int) 1 22 0 0 [.ref 229, .int t] σ (q_oi (F_X9_reason t σ)) σ := by
  refine q_enter (own := RX9) (F := F_X9) (G := G_X9) (by decide +kernel) rfl Fok_X9 Gok_X9 (Nat.le_of_ble_eq_true rfl) (fun p l e s m args below meth c A hfl C hr hT => ?_)
  generalize hF : F_X9_reason t σ = rr
  unfold F_X9_reason at hF
  refine q_go C tk_X9_reason [(0, 3)] [] (pc1 := 4) (σ1 := σ) (lv1 := [(0, .ref 229), (1, .int t)]) (st1 := [.int 8, .int t, .ref 229]) rfl trivial ?_
  refine q_callV C hfl mw_X9_of mi_X9_of me_X9_of lk_X9_52 (k_X9_of t 8 σ hP.1) (rest := []) rfl rfl rfl (by decide) (by decide) rfl (q_dc (z := (4, .invokevirtual 52, 3, 0, 0)) tk_X9_reason 3 rfl) (Nat.le_of_ble_eq_true rfl) ⟨Nat.le_of_ble_eq_true rfl, Nat.le_of_ble_eq_true rfl⟩ ⟨Nat.le_of_ble_eq_true rfl, Nat.le_of_ble_eq_true rfl⟩ ?_
  refine q_nrm 7 [.int (F_X9_of t 8 σ)] 0 0 rfl rfl rfl rfl ?_
  generalize e2 : (F_X9_of t 8 σ) = x1
  replace hF := q_let e2 hF
  refine q_go C tk_X9_reason [(4, 4)] [] (pc1 := 12) (σ1 := σ) (lv1 := [(2, .int x1), (0, .ref 229), (1, .int t)]) (st1 := [.int 10, .int t, .ref 229]) rfl trivial ?_
  refine q_callV C hfl mw_X9_of mi_X9_of me_X9_of lk_X9_52 (k_X9_of t 10 σ (hP.2 x1 e2).1) (rest := []) rfl rfl rfl (by decide) (by decide) rfl (q_dc (z := (12, .invokevirtual 52, 3, 0, 0)) tk_X9_reason 8 rfl) (Nat.le_of_ble_eq_true rfl) ⟨Nat.le_of_ble_eq_true rfl, Nat.le_of_ble_eq_true rfl⟩ ⟨Nat.le_of_ble_eq_true rfl, Nat.le_of_ble_eq_true rfl⟩ ?_
  refine q_nrm 15 [.int (F_X9_of t 10 σ)] 0 0 rfl rfl rfl rfl ?_
  by_cases c3 : 0 < (F_X9_of t 10 σ)
  · rw [if_pos c3] at hF
    refine q_go C tk_X9_reason [(9, 2)] [false] (pc1 := 19) (σ1 := σ) (lv1 := [(2, .int x1), (0, .ref 229), (1, .int t)]) (st1 := [.int 1]) rfl ⟨c3, trivial⟩ ?_
    exact q_iret C hr (q_dc (z := (19, .ireturn, 1, 0, 0)) tk_X9_reason 11 rfl) rfl (congrArg q_oi hF.symm) (Nat.le_of_ble_eq_true rfl) (Nat.le_of_ble_eq_true rfl)
  · rw [if_neg c3] at hF
    refine q_go C tk_X9_reason [(9, 1), (12, 2)] [true] (pc1 := 22) (σ1 := σ) (lv1 := [(2, .int x1), (0, .ref 229), (1, .int t)]) (st1 := [.int 3, .int x1]) rfl ⟨c3, trivial⟩ ?_
    by_cases c4 : x1 = 3
    · rw [if_pos c4] at hF
      refine q_go C tk_X9_reason [(14, 3)] [false] (pc1 := 52) (σ1 := σ) (lv1 := [(2, .int x1), (0, .ref 229), (1, .int t)]) (st1 := [.int 2]) rfl ⟨c4, trivial⟩ ?_
      exact q_iret C hr (q_dc (z := (52, .ireturn, 1, 0, 0)) tk_X9_reason 30 rfl) rfl (congrArg q_oi hF.symm) (Nat.le_of_ble_eq_true rfl) (Nat.le_of_ble_eq_true rfl)
    · rw [if_neg c4] at hF
      refine q_go C tk_X9_reason [(14, 1), (17, 3)] [true] (pc1 := 33) (σ1 := σ) (lv1 := [(2, .int x1), (0, .ref 229), (1, .int t)]) (st1 := [.int 7, .int t, .ref 229]) rfl ⟨c4, trivial⟩ ?_
      refine q_callV C hfl mw_X9_of mi_X9_of me_X9_of lk_X9_52 (k_X9_of t 7 σ (((hP.2 x1 e2).2.2 c3).2 c4).1) (rest := []) rfl rfl rfl (by decide) (by decide) rfl (q_dc (z := (33, .invokevirtual 52, 3, 0, 0)) tk_X9_reason 20 rfl) (Nat.le_of_ble_eq_true rfl) ⟨Nat.le_of_ble_eq_true rfl, Nat.le_of_ble_eq_true rfl⟩ ⟨Nat.le_of_ble_eq_true rfl, Nat.le_of_ble_eq_true rfl⟩ ?_
      refine q_nrm 36 [.int (F_X9_of t 7 σ)] 0 0 rfl rfl rfl rfl ?_
      refine q_go C tk_X9_reason [(21, 2)] [] (pc1 := 38) (σ1 := σ) (lv1 := [(2, .int x1), (0, .ref 229), (1, .int t)]) (st1 := [.int x1, .ref 229, .int (F_X9_of t 7 σ)]) rfl trivial ?_
      refine q_callV C hfl mw_X9_endOf mi_X9_endOf me_X9_endOf lk_X9_96 (k_X9_endOf x1 σ) (rest := [.int (F_X9_of t 7 σ)]) rfl rfl rfl (by decide) (by decide) rfl (q_dc (z := (38, .invokevirtual 96, 3, 0, 0)) tk_X9_reason 23 rfl) (Nat.le_of_ble_eq_true rfl) ⟨Nat.le_of_ble_eq_true rfl, Nat.le_of_ble_eq_true rfl⟩ ⟨Nat.le_of_ble_eq_true rfl, Nat.le_of_ble_eq_true rfl⟩ ?_
      refine q_nrm 41 [.int (F_X9_endOf x1 σ), .int (F_X9_of t 7 σ)] 0 0 rfl rfl rfl rfl ?_
      refine q_go C tk_X9_reason [(24, 2)] [] (pc1 := 44) (σ1 := σ) (lv1 := [(2, .int x1), (0, .ref 229), (1, .int t)]) (st1 := [.int ((F_X9_endOf x1 σ) - 100), .int (F_X9_of t 7 σ)]) rfl trivial ?_
      by_cases c5 : (F_X9_of t 7 σ) < ((F_X9_endOf x1 σ) - 100)
      · rw [if_pos c5] at hF
        refine q_go C tk_X9_reason [(26, 3)] [false] (pc1 := 52) (σ1 := σ) (lv1 := [(2, .int x1), (0, .ref 229), (1, .int t)]) (st1 := [.int 3]) rfl ⟨c5, trivial⟩ ?_
        exact q_iret C hr (q_dc (z := (52, .ireturn, 1, 0, 0)) tk_X9_reason 30 rfl) rfl (congrArg q_oi hF.symm) (Nat.le_of_ble_eq_true rfl) (Nat.le_of_ble_eq_true rfl)
      · rw [if_neg c5] at hF
        refine q_go C tk_X9_reason [(26, 1), (29, 1)] [true] (pc1 := 52) (σ1 := σ) (lv1 := [(2, .int x1), (0, .ref 229), (1, .int t)]) (st1 := [.int 0]) rfl ⟨c5, trivial⟩ ?_
        exact q_iret C hr (q_dc (z := (52, .ireturn, 1, 0, 0)) tk_X9_reason 30 rfl) rfl (congrArg q_oi hF.symm) (Nat.le_of_ble_eq_true rfl) (Nat.le_of_ble_eq_true rfl)
def F_X9_isRefused (t : Int32) (σ : q_M) : (Int32) × q_M := (q_L (F_X9_reason t σ) (fun x1 : Int32 => (if x1 = 0 then (0, σ) else (1, (q_up (q_up σ 229 8 x1) 229 9 t)))))
def P_X9_isRefused (t : Int32) (σ : q_M) : Prop := ((P_X9_reason t σ) ∧ True)
set_option maxRecDepth 100000 in
theorem k_X9_isRefused {α β : Nat → Nat} {D : va_G} {κ : Nat → ClassId} (t : Int32) (σ : q_M) (hP : P_X9_isRefused t σ) : q_C α β D κ yX9_isRefused cX9_isRefused 3 (Option.some Jvm.ClassFile.FieldType.boolean) 2 44 0 0 [.ref 229, .int t] σ (q_oi (F_X9_isRefused t σ).1) (F_X9_isRefused t σ).2 := by
  refine q_enter (own := RX9) (F := F_X9) (G := G_X9) (by decide +kernel) rfl Fok_X9 Gok_X9 (Nat.le_of_ble_eq_true rfl) (fun p l e s m args below meth c A hfl C hr hT => ?_)
  generalize hF : F_X9_isRefused t σ = rr
  unfold F_X9_isRefused at hF
  refine q_go C tk_X9_isRefused [(0, 2)] [] (pc1 := 2) (σ1 := σ) (lv1 := [(0, .ref 229), (1, .int t)]) (st1 := [.int t, .ref 229]) rfl trivial ?_
  refine q_callV C hfl mw_X9_reason mi_X9_reason me_X9_reason lk_X9_118 (k_X9_reason t σ hP.1) (rest := []) rfl rfl rfl (by decide) (by decide) rfl (q_dc (z := (2, .invokevirtual 118, 3, 0, 0)) tk_X9_isRefused 2 rfl) (Nat.le_of_ble_eq_true rfl) ⟨Nat.le_of_ble_eq_true rfl, Nat.le_of_ble_eq_true rfl⟩ ⟨Nat.le_of_ble_eq_true rfl, Nat.le_of_ble_eq_true rfl⟩ ?_
  refine q_nrm 5 [.int (F_X9_reason t σ)] 0 0 rfl rfl rfl rfl ?_
  generalize e2 : (F_X9_reason t σ) = x1
  replace hF := q_let e2 hF
  refine q_go C tk_X9_isRefused [(3, 2)] [] (pc1 := 7) (σ1 := σ) (lv1 := [(2, .int x1), (0, .ref 229), (1, .int t)]) (st1 := [.int x1]) rfl trivial ?_
  by_cases c3 : x1 = 0
  · rw [if_pos c3] at hF
    refine q_go C tk_X9_isRefused [(5, 1), (12, 2), (16, 1)] [true, true] (pc1 := 29) (σ1 := σ) (lv1 := [(2, .int x1), (0, .ref 229), (1, .int t)]) (st1 := [.int 0]) rfl ⟨c3, c3, trivial⟩ ?_
    exact q_zret C hr (q_dc (z := (29, .ireturn, 1, 0, 0)) tk_X9_isRefused 17 rfl) (by decide +kernel) (congrArg Prod.snd hF) (congrArg (fun z => q_oi z.1) hF.symm) (Nat.le_of_ble_eq_true rfl) (Nat.le_of_ble_eq_true rfl)
  · rw [if_neg c3] at hF
    refine q_go C tk_X9_isRefused [(5, 11)] [false, false] (pc1 := 29) (σ1 := (q_up (q_up σ 229 8 x1) 229 9 t)) (lv1 := [(2, .int x1), (0, .ref 229), (1, .int t)]) (st1 := [.int 1]) rfl ⟨c3, rfl, rfl, c3, trivial⟩ ?_
    exact q_zret C hr (q_dc (z := (29, .ireturn, 1, 0, 0)) tk_X9_isRefused 17 rfl) (by decide +kernel) (congrArg Prod.snd hF) (congrArg (fun z => q_oi z.1) hF.symm) (Nat.le_of_ble_eq_true rfl) (Nat.le_of_ble_eq_true rfl)
theorem z_X9_isRefused {t : Int32} {σ : q_M} : (F_X9_isRefused t σ).1 = 0 ∨ (F_X9_isRefused t σ).1 = 1 := by
  unfold F_X9_isRefused
  try simp only [q_L]
  repeat' split
  all_goals first | exact Or.inl rfl | exact Or.inr rfl | exact rfl
def F_X9_passes (t : Int32) (σ : q_M) : (Int32) × q_M := (if (F_X9_isTeam t σ) = 0 then (0, (q_up σ 229 5 1)) else (q_L (q_up σ 229 5 0) (fun σ2 : q_M => (if (F_X9_of t 6 σ2) = 1 then (q_L (q_up σ2 229 5 0) (fun σ5 : q_M => (q_L (F_X9_isRefused t σ5).2 (fun σ7 : q_M => (if (F_X9_isRefused t σ5).1 = 0 then (q_L (q_up σ7 229 5 0) (fun σ10 : q_M => (q_L (F_X9_of t 8 σ10) (fun x12 : Int32 => (if ((F_X9_endOf x12 σ10) + 100) < (F_X9_of t 7 σ10) then (q_L (F_X9_sets t 11 1 σ10) (fun σ15 : q_M => (q_L ((σ15 230 2) - (F_X9_of t 13 σ15)) (fun x17 : Int32 => (q_L (F_X9_sets t (14 + x12) (1 + x17) σ15) (fun σ19 : q_M => (q_L (F_X9_sets t 13 (σ19 230 2) σ19) (fun σ21 : q_M => (q_L (F_X9_sets t 8 (x12 + 1) σ21) (fun σ23 : q_M => (q_L (F_X9_sets t 9 0 σ23) (fun σ25 : q_M => (x17, σ25))))))))))))) else (q_L ((σ10 230 2) - (F_X9_of t 13 σ10)) (fun x27 : Int32 => (q_L (F_X9_sets t (14 + x12) (1 + x27) σ10) (fun σ29 : q_M => (q_L (F_X9_sets t 13 (σ29 230 2) σ29) (fun σ31 : q_M => (q_L (F_X9_sets t 8 (x12 + 1) σ31) (fun σ33 : q_M => (q_L (F_X9_sets t 9 0 σ33) (fun σ35 : q_M => (x27, σ35)))))))))))))))) else (0, (q_up σ7 229 5 3))))))) else (0, (q_up σ2 229 5 2))))))
def P_X9_passes (t : Int32) (σ : q_M) : Prop := (((F_X9_isTeam t σ) = 0 → True) ∧ (¬ (F_X9_isTeam t σ) = 0 → (∀ σ2 : q_M, (q_up σ 229 5 0) = σ2 → ((P_X9_of t 6 σ2) ∧ (((F_X9_of t 6 σ2) = 1 → (∀ σ5 : q_M, (q_up σ2 229 5 0) = σ5 → ((P_X9_isRefused t σ5) ∧ (∀ σ7 : q_M, (F_X9_isRefused t σ5).2 = σ7 → (((F_X9_isRefused t σ5).1 = 0 → (∀ σ10 : q_M, (q_up σ7 229 5 0) = σ10 → ((P_X9_of t 8 σ10) ∧ (∀ x12 : Int32, (F_X9_of t 8 σ10) = x12 → ((P_X9_of t 7 σ10) ∧ ((((F_X9_endOf x12 σ10) + 100) < (F_X9_of t 7 σ10) → ((P_X9_sets t 11 1 σ10) ∧ (∀ σ15 : q_M, (F_X9_sets t 11 1 σ10) = σ15 → ((P_X9_of t 13 σ15) ∧ (∀ x17 : Int32, ((σ15 230 2) - (F_X9_of t 13 σ15)) = x17 → ((P_X9_sets t (14 + x12) (1 + x17) σ15) ∧ (∀ σ19 : q_M, (F_X9_sets t (14 + x12) (1 + x17) σ15) = σ19 → ((P_X9_sets t 13 (σ19 230 2) σ19) ∧ (∀ σ21 : q_M, (F_X9_sets t 13 (σ19 230 2) σ19) = σ21 → ((P_X9_sets t 8 (x12 + 1) σ21) ∧ (∀ σ23 : q_M, (F_X9_sets t 8 (x12 + 1) σ21) = σ23 → ((P_X9_sets t 9 0 σ23) ∧ True)))))))))))) ∧ (¬ ((F_X9_endOf x12 σ10) + 100) < (F_X9_of t 7 σ10) → ((P_X9_of t 13 σ10) ∧ (∀ x27 : Int32, ((σ10 230 2) - (F_X9_of t 13 σ10)) = x27 → ((P_X9_sets t (14 + x12) (1 + x27) σ10) ∧ (∀ σ29 : q_M, (F_X9_sets t (14 + x12) (1 + x27) σ10) = σ29 → ((P_X9_sets t 13 (σ29 230 2) σ29) ∧ (∀ σ31 : q_M, (F_X9_sets t 13 (σ29 230 2) σ29) = σ31 → ((P_X9_sets t 8 (x12 + 1) σ31) ∧ (∀ σ33 : q_M, (F_X9_sets t 8 (x12 + 1) σ31) = σ33 → ((P_X9_sets t 9 0 σ33) ∧ True)))))))))))))))) ∧ (¬ (F_X9_isRefused t σ5).1 = 0 → True)))))) ∧ (¬ (F_X9_of t 6 σ2) = 1 → True))))))
set_option maxRecDepth 100000 in
theorem k_X9_passes {α β : Nat → Nat} {D : va_G} {κ : Nat → ClassId} (t : Int32) (σ : q_M) (hP : P_X9_passes t σ) : q_C α β D κ yX9_passes cX9_passes 4 (Option.some Jvm.ClassFile.FieldType.int) 3 66 0 0 [.ref 229, .int t] σ (q_oi (F_X9_passes t σ).1) (F_X9_passes t σ).2 := by
  refine q_enter (own := RX9) (F := F_X9) (G := G_X9) (by decide +kernel) rfl Fok_X9 Gok_X9 (Nat.le_of_ble_eq_true rfl) (fun p l e s m args below meth c A hfl C hr hT => ?_)
  generalize hF : F_X9_passes t σ = rr
  unfold F_X9_passes at hF
  refine q_go C tk_X9_passes [(0, 3)] [] (pc1 := 3) (σ1 := σ) (lv1 := [(0, .ref 229), (1, .int t)]) (st1 := [.int t, .ref 229, .ref 229]) rfl trivial ?_
  refine q_callV C hfl mw_X9_isTeam mi_X9_isTeam me_X9_isTeam lk_X9_75 (k_X9_isTeam t σ) (rest := [.ref 229]) rfl rfl rfl (by decide) (by decide) rfl (q_dc (z := (3, .invokevirtual 75, 3, 0, 0)) tk_X9_passes 3 rfl) (Nat.le_of_ble_eq_true rfl) ⟨Nat.le_of_ble_eq_true rfl, Nat.le_of_ble_eq_true rfl⟩ ⟨Nat.le_of_ble_eq_true rfl, Nat.le_of_ble_eq_true rfl⟩ ?_
  refine q_nrm 6 [.int (F_X9_isTeam t σ), .ref 229] 0 0 rfl rfl rfl rfl ?_
  by_cases c1 : (F_X9_isTeam t σ) = 0
  · rw [if_pos c1] at hF
    refine q_go C tk_X9_passes [(4, 3), (8, 1)] [false] (pc1 := 15) (σ1 := σ) (lv1 := [(0, .ref 229), (1, .int t)]) (st1 := [.int 1, .int 1, .ref 229]) rfl ⟨c1, trivial⟩ ?_
    refine q_callV C hfl mw_X9_isThrown mi_X9_isThrown me_X9_isThrown lk_X9_63 (k_X9_isThrownN 1 1 σ (by decide) (by decide)) (rest := []) rfl rfl rfl (by decide) (by decide) rfl (q_dc (z := (15, .invokevirtual 63, 3, 0, 0)) tk_X9_passes 9 rfl) (Nat.le_of_ble_eq_true rfl) ⟨Nat.le_of_ble_eq_true rfl, Nat.le_of_ble_eq_true rfl⟩ ⟨Nat.le_of_ble_eq_true rfl, Nat.le_of_ble_eq_true rfl⟩ ?_
    refine q_nrm 18 [.int 1] 0 0 rfl rfl rfl rfl ?_
    refine q_go C tk_X9_passes [(10, 1), (31, 1)] [true] (pc1 := 59) (σ1 := (q_up σ 229 5 1)) (lv1 := [(0, .ref 229), (1, .int t)]) (st1 := [.int 0]) rfl ⟨(by decide : ¬ (1 : Int32) = 0), trivial⟩ ?_
    exact q_iret C hr (q_dc (z := (59, .ireturn, 1, 0, 0)) tk_X9_passes 32 rfl) (congrArg Prod.snd hF) (congrArg (fun z => q_oi z.1) hF.symm) (Nat.le_of_ble_eq_true rfl) (Nat.le_of_ble_eq_true rfl)
  · rw [if_neg c1] at hF
    refine q_go C tk_X9_passes [(4, 1), (7, 2)] [true] (pc1 := 15) (σ1 := σ) (lv1 := [(0, .ref 229), (1, .int t)]) (st1 := [.int 1, .int 0, .ref 229]) rfl ⟨c1, trivial⟩ ?_
    refine q_callV C hfl mw_X9_isThrown mi_X9_isThrown me_X9_isThrown lk_X9_63 (k_X9_isThrownZ 0 1 σ (by decide)) (rest := []) rfl rfl rfl (by decide) (by decide) rfl (q_dc (z := (15, .invokevirtual 63, 3, 0, 0)) tk_X9_passes 9 rfl) (Nat.le_of_ble_eq_true rfl) ⟨Nat.le_of_ble_eq_true rfl, Nat.le_of_ble_eq_true rfl⟩ ⟨Nat.le_of_ble_eq_true rfl, Nat.le_of_ble_eq_true rfl⟩ ?_
    refine q_nrm 18 [.int 0] 0 0 rfl rfl rfl rfl ?_
    refine q_go C tk_X9_passes [(10, 5)] [false] (pc1 := 26) (σ1 := (q_up σ 229 5 0)) (lv1 := [(0, .ref 229), (1, .int t)]) (st1 := [.int 6, .int t, .ref 229, .ref 229]) rfl ⟨(by decide : (0 : Int32) = 0), trivial⟩ ?_
    generalize e3 : (q_up σ 229 5 0) = σ2
    replace hF := q_let e3 hF
    refine q_callV C hfl mw_X9_of mi_X9_of me_X9_of lk_X9_52 (k_X9_of t 6 σ2 ((hP.2 c1) σ2 e3).1) (rest := [.ref 229]) rfl rfl rfl (by decide) (by decide) rfl (q_dc (z := (26, .invokevirtual 52, 3, 0, 0)) tk_X9_passes 15 rfl) (Nat.le_of_ble_eq_true rfl) ⟨Nat.le_of_ble_eq_true rfl, Nat.le_of_ble_eq_true rfl⟩ ⟨Nat.le_of_ble_eq_true rfl, Nat.le_of_ble_eq_true rfl⟩ ?_
    refine q_nrm 29 [.int (F_X9_of t 6 σ2), .ref 229] 0 0 rfl rfl rfl rfl ?_
    refine q_go C tk_X9_passes [(16, 1)] [] (pc1 := 30) (σ1 := σ2) (lv1 := [(0, .ref 229), (1, .int t)]) (st1 := [.int 1, .int (F_X9_of t 6 σ2), .ref 229]) rfl trivial ?_
    by_cases c4 : (F_X9_of t 6 σ2) = 1
    · rw [if_pos c4] at hF
      refine q_go C tk_X9_passes [(17, 1), (20, 2)] [true] (pc1 := 39) (σ1 := σ2) (lv1 := [(0, .ref 229), (1, .int t)]) (st1 := [.int 2, .int 0, .ref 229]) rfl ⟨c4, trivial⟩ ?_
      refine q_callV C hfl mw_X9_isThrown mi_X9_isThrown me_X9_isThrown lk_X9_63 (k_X9_isThrownZ 0 2 σ2 (by decide)) (rest := []) rfl rfl rfl (by decide) (by decide) rfl (q_dc (z := (39, .invokevirtual 63, 3, 0, 0)) tk_X9_passes 22 rfl) (Nat.le_of_ble_eq_true rfl) ⟨Nat.le_of_ble_eq_true rfl, Nat.le_of_ble_eq_true rfl⟩ ⟨Nat.le_of_ble_eq_true rfl, Nat.le_of_ble_eq_true rfl⟩ ?_
      refine q_nrm 42 [.int 0] 0 0 rfl rfl rfl rfl ?_
      refine q_go C tk_X9_passes [(23, 4)] [false] (pc1 := 48) (σ1 := (q_up σ2 229 5 0)) (lv1 := [(0, .ref 229), (1, .int t)]) (st1 := [.int t, .ref 229, .ref 229]) rfl ⟨(by decide : (0 : Int32) = 0), trivial⟩ ?_
      generalize e6 : (q_up σ2 229 5 0) = σ5
      replace hF := q_let e6 hF
      refine q_callV C hfl mw_X9_isRefused mi_X9_isRefused me_X9_isRefused lk_X9_127 (k_X9_isRefused t σ5 ((((hP.2 c1) σ2 e3).2.1 c4) σ5 e6).1) (rest := [.ref 229]) rfl rfl rfl (by decide) (by decide) rfl (q_dc (z := (48, .invokevirtual 127, 3, 0, 0)) tk_X9_passes 27 rfl) (Nat.le_of_ble_eq_true rfl) ⟨Nat.le_of_ble_eq_true rfl, Nat.le_of_ble_eq_true rfl⟩ ⟨Nat.le_of_ble_eq_true rfl, Nat.le_of_ble_eq_true rfl⟩ ?_
      refine q_nrm 51 [.int (F_X9_isRefused t σ5).1, .ref 229] 0 0 rfl rfl rfl rfl ?_
      generalize e8 : (F_X9_isRefused t σ5).2 = σ7
      replace hF := q_let e8 hF
      refine q_go C tk_X9_passes [(28, 1)] [] (pc1 := 52) (σ1 := σ7) (lv1 := [(0, .ref 229), (1, .int t)]) (st1 := [.int 3, .int (F_X9_isRefused t σ5).1, .ref 229]) rfl trivial ?_
      by_cases c9 : (F_X9_isRefused t σ5).1 = 0
      · rw [if_pos c9] at hF
        refine q_callV C hfl mw_X9_isThrown mi_X9_isThrown me_X9_isThrown lk_X9_63 (k_X9_isThrownZ (F_X9_isRefused t σ5).1 3 σ7 c9) (rest := []) rfl rfl rfl (by decide) (by decide) rfl (q_dc (z := (52, .invokevirtual 63, 3, 0, 0)) tk_X9_passes 29 rfl) (Nat.le_of_ble_eq_true rfl) ⟨Nat.le_of_ble_eq_true rfl, Nat.le_of_ble_eq_true rfl⟩ ⟨Nat.le_of_ble_eq_true rfl, Nat.le_of_ble_eq_true rfl⟩ ?_
        refine q_nrm 55 [.int (F_X9_isRefused t σ5).1] 0 0 rfl rfl rfl rfl ?_
        refine q_go C tk_X9_passes [(30, 1), (33, 3)] [true] (pc1 := 64) (σ1 := (q_up σ7 229 5 0)) (lv1 := [(0, .ref 229), (1, .int t)]) (st1 := [.int 8, .int t, .ref 229]) rfl ⟨c9, trivial⟩ ?_
        generalize e11 : (q_up σ7 229 5 0) = σ10
        replace hF := q_let e11 hF
        refine q_callV C hfl mw_X9_of mi_X9_of me_X9_of lk_X9_52 (k_X9_of t 8 σ10 (((((((hP.2 c1) σ2 e3).2.1 c4) σ5 e6).2 σ7 e8).1 c9) σ10 e11).1) (rest := []) rfl rfl rfl (by decide) (by decide) rfl (q_dc (z := (64, .invokevirtual 52, 3, 0, 0)) tk_X9_passes 36 rfl) (Nat.le_of_ble_eq_true rfl) ⟨Nat.le_of_ble_eq_true rfl, Nat.le_of_ble_eq_true rfl⟩ ⟨Nat.le_of_ble_eq_true rfl, Nat.le_of_ble_eq_true rfl⟩ ?_
        refine q_nrm 67 [.int (F_X9_of t 8 σ10)] 0 0 rfl rfl rfl rfl ?_
        generalize e13 : (F_X9_of t 8 σ10) = x12
        replace hF := q_let e13 hF
        refine q_go C tk_X9_passes [(37, 4)] [] (pc1 := 72) (σ1 := σ10) (lv1 := [(2, .int x12), (0, .ref 229), (1, .int t)]) (st1 := [.int 7, .int t, .ref 229]) rfl trivial ?_
        refine q_callV C hfl mw_X9_of mi_X9_of me_X9_of lk_X9_52 (k_X9_of t 7 σ10 ((((((((hP.2 c1) σ2 e3).2.1 c4) σ5 e6).2 σ7 e8).1 c9) σ10 e11).2 x12 e13).1) (rest := []) rfl rfl rfl (by decide) (by decide) rfl (q_dc (z := (72, .invokevirtual 52, 3, 0, 0)) tk_X9_passes 41 rfl) (Nat.le_of_ble_eq_true rfl) ⟨Nat.le_of_ble_eq_true rfl, Nat.le_of_ble_eq_true rfl⟩ ⟨Nat.le_of_ble_eq_true rfl, Nat.le_of_ble_eq_true rfl⟩ ?_
        refine q_nrm 75 [.int (F_X9_of t 7 σ10)] 0 0 rfl rfl rfl rfl ?_
        refine q_go C tk_X9_passes [(42, 2)] [] (pc1 := 77) (σ1 := σ10) (lv1 := [(2, .int x12), (0, .ref 229), (1, .int t)]) (st1 := [.int x12, .ref 229, .int (F_X9_of t 7 σ10)]) rfl trivial ?_
        refine q_callV C hfl mw_X9_endOf mi_X9_endOf me_X9_endOf lk_X9_96 (k_X9_endOf x12 σ10) (rest := [.int (F_X9_of t 7 σ10)]) rfl rfl rfl (by decide) (by decide) rfl (q_dc (z := (77, .invokevirtual 96, 3, 0, 0)) tk_X9_passes 44 rfl) (Nat.le_of_ble_eq_true rfl) ⟨Nat.le_of_ble_eq_true rfl, Nat.le_of_ble_eq_true rfl⟩ ⟨Nat.le_of_ble_eq_true rfl, Nat.le_of_ble_eq_true rfl⟩ ?_
        refine q_nrm 80 [.int (F_X9_endOf x12 σ10), .int (F_X9_of t 7 σ10)] 0 0 rfl rfl rfl rfl ?_
        refine q_go C tk_X9_passes [(45, 2)] [] (pc1 := 83) (σ1 := σ10) (lv1 := [(2, .int x12), (0, .ref 229), (1, .int t)]) (st1 := [.int ((F_X9_endOf x12 σ10) + 100), .int (F_X9_of t 7 σ10)]) rfl trivial ?_
        by_cases c14 : ((F_X9_endOf x12 σ10) + 100) < (F_X9_of t 7 σ10)
        · rw [if_pos c14] at hF
          refine q_go C tk_X9_passes [(47, 5)] [false] (pc1 := 91) (σ1 := σ10) (lv1 := [(2, .int x12), (0, .ref 229), (1, .int t)]) (st1 := [.int 1, .int 11, .int t, .ref 229]) rfl ⟨c14, trivial⟩ ?_
          refine q_callV C hfl mw_X9_sets mi_X9_sets me_X9_sets lk_X9_67 (k_X9_sets t 11 1 σ10 (((((((((hP.2 c1) σ2 e3).2.1 c4) σ5 e6).2 σ7 e8).1 c9) σ10 e11).2 x12 e13).2.1 c14).1) (rest := []) rfl rfl rfl (by decide) (by decide) rfl (q_dc (z := (91, .invokevirtual 67, 3, 0, 0)) tk_X9_passes 52 rfl) (Nat.le_of_ble_eq_true rfl) ⟨Nat.le_of_ble_eq_true rfl, Nat.le_of_ble_eq_true rfl⟩ ⟨Nat.le_of_ble_eq_true rfl, Nat.le_of_ble_eq_true rfl⟩ ?_
          refine q_nrm 94 [] 0 0 rfl rfl rfl rfl ?_
          generalize e16 : (F_X9_sets t 11 1 σ10) = σ15
          replace hF := q_let e16 hF
          refine q_go C tk_X9_passes [(53, 7)] [] (pc1 := 104) (σ1 := σ15) (lv1 := [(2, .int x12), (0, .ref 229), (1, .int t)]) (st1 := [.int 13, .int t, .ref 229, .int (σ15 230 2)]) rfl ⟨rfl, rfl, (by unfold vp_in; decide +kernel), trivial⟩ ?_
          refine q_callV C hfl mw_X9_of mi_X9_of me_X9_of lk_X9_52 (k_X9_of t 13 σ15 ((((((((((hP.2 c1) σ2 e3).2.1 c4) σ5 e6).2 σ7 e8).1 c9) σ10 e11).2 x12 e13).2.1 c14).2 σ15 e16).1) (rest := [.int (σ15 230 2)]) rfl rfl rfl (by decide) (by decide) rfl (q_dc (z := (104, .invokevirtual 52, 3, 0, 0)) tk_X9_passes 60 rfl) (Nat.le_of_ble_eq_true rfl) ⟨Nat.le_of_ble_eq_true rfl, Nat.le_of_ble_eq_true rfl⟩ ⟨Nat.le_of_ble_eq_true rfl, Nat.le_of_ble_eq_true rfl⟩ ?_
          refine q_nrm 107 [.int (F_X9_of t 13 σ15), .int (σ15 230 2)] 0 0 rfl rfl rfl rfl ?_
          refine q_go C tk_X9_passes [(61, 1)] [] (pc1 := 108) (σ1 := σ15) (lv1 := [(2, .int x12), (0, .ref 229), (1, .int t)]) (st1 := [.int ((σ15 230 2) - (F_X9_of t 13 σ15))]) rfl trivial ?_
          generalize e18 : ((σ15 230 2) - (F_X9_of t 13 σ15)) = x17
          replace hF := q_let e18 hF
          refine q_go C tk_X9_passes [(62, 9)] [] (pc1 := 118) (σ1 := σ15) (lv1 := [(3, .int x17), (2, .int x12), (0, .ref 229), (1, .int t)]) (st1 := [.int (1 + x17), .int (14 + x12), .int t, .ref 229]) rfl trivial ?_
          refine q_callV C hfl mw_X9_sets mi_X9_sets me_X9_sets lk_X9_67 (k_X9_sets t (14 + x12) (1 + x17) σ15 (((((((((((hP.2 c1) σ2 e3).2.1 c4) σ5 e6).2 σ7 e8).1 c9) σ10 e11).2 x12 e13).2.1 c14).2 σ15 e16).2 x17 e18).1) (rest := []) rfl rfl rfl (by decide) (by decide) rfl (q_dc (z := (118, .invokevirtual 67, 3, 0, 0)) tk_X9_passes 71 rfl) (Nat.le_of_ble_eq_true rfl) ⟨Nat.le_of_ble_eq_true rfl, Nat.le_of_ble_eq_true rfl⟩ ⟨Nat.le_of_ble_eq_true rfl, Nat.le_of_ble_eq_true rfl⟩ ?_
          refine q_nrm 121 [] 0 0 rfl rfl rfl rfl ?_
          generalize e20 : (F_X9_sets t (14 + x12) (1 + x17) σ15) = σ19
          replace hF := q_let e20 hF
          refine q_go C tk_X9_passes [(72, 7)] [] (pc1 := 131) (σ1 := σ19) (lv1 := [(3, .int x17), (2, .int x12), (0, .ref 229), (1, .int t)]) (st1 := [.int (σ19 230 2), .int 13, .int t, .ref 229]) rfl ⟨rfl, rfl, (by unfold vp_in; decide +kernel), trivial⟩ ?_
          refine q_callV C hfl mw_X9_sets mi_X9_sets me_X9_sets lk_X9_67 (k_X9_sets t 13 (σ19 230 2) σ19 ((((((((((((hP.2 c1) σ2 e3).2.1 c4) σ5 e6).2 σ7 e8).1 c9) σ10 e11).2 x12 e13).2.1 c14).2 σ15 e16).2 x17 e18).2 σ19 e20).1) (rest := []) rfl rfl rfl (by decide) (by decide) rfl (q_dc (z := (131, .invokevirtual 67, 3, 0, 0)) tk_X9_passes 79 rfl) (Nat.le_of_ble_eq_true rfl) ⟨Nat.le_of_ble_eq_true rfl, Nat.le_of_ble_eq_true rfl⟩ ⟨Nat.le_of_ble_eq_true rfl, Nat.le_of_ble_eq_true rfl⟩ ?_
          refine q_nrm 134 [] 0 0 rfl rfl rfl rfl ?_
          generalize e22 : (F_X9_sets t 13 (σ19 230 2) σ19) = σ21
          replace hF := q_let e22 hF
          refine q_go C tk_X9_passes [(80, 6)] [] (pc1 := 141) (σ1 := σ21) (lv1 := [(3, .int x17), (2, .int x12), (0, .ref 229), (1, .int t)]) (st1 := [.int (x12 + 1), .int 8, .int t, .ref 229]) rfl trivial ?_
          refine q_callV C hfl mw_X9_sets mi_X9_sets me_X9_sets lk_X9_67 (k_X9_sets t 8 (x12 + 1) σ21 (((((((((((((hP.2 c1) σ2 e3).2.1 c4) σ5 e6).2 σ7 e8).1 c9) σ10 e11).2 x12 e13).2.1 c14).2 σ15 e16).2 x17 e18).2 σ19 e20).2 σ21 e22).1) (rest := []) rfl rfl rfl (by decide) (by decide) rfl (q_dc (z := (141, .invokevirtual 67, 3, 0, 0)) tk_X9_passes 86 rfl) (Nat.le_of_ble_eq_true rfl) ⟨Nat.le_of_ble_eq_true rfl, Nat.le_of_ble_eq_true rfl⟩ ⟨Nat.le_of_ble_eq_true rfl, Nat.le_of_ble_eq_true rfl⟩ ?_
          refine q_nrm 144 [] 0 0 rfl rfl rfl rfl ?_
          generalize e24 : (F_X9_sets t 8 (x12 + 1) σ21) = σ23
          replace hF := q_let e24 hF
          refine q_go C tk_X9_passes [(87, 4)] [] (pc1 := 149) (σ1 := σ23) (lv1 := [(3, .int x17), (2, .int x12), (0, .ref 229), (1, .int t)]) (st1 := [.int 0, .int 9, .int t, .ref 229]) rfl trivial ?_
          refine q_callV C hfl mw_X9_sets mi_X9_sets me_X9_sets lk_X9_67 (k_X9_sets t 9 0 σ23 ((((((((((((((hP.2 c1) σ2 e3).2.1 c4) σ5 e6).2 σ7 e8).1 c9) σ10 e11).2 x12 e13).2.1 c14).2 σ15 e16).2 x17 e18).2 σ19 e20).2 σ21 e22).2 σ23 e24).1) (rest := []) rfl rfl rfl (by decide) (by decide) rfl (q_dc (z := (149, .invokevirtual 67, 3, 0, 0)) tk_X9_passes 91 rfl) (Nat.le_of_ble_eq_true rfl) ⟨Nat.le_of_ble_eq_true rfl, Nat.le_of_ble_eq_true rfl⟩ ⟨Nat.le_of_ble_eq_true rfl, Nat.le_of_ble_eq_true rfl⟩ ?_
          refine q_nrm 152 [] 0 0 rfl rfl rfl rfl ?_
          generalize e26 : (F_X9_sets t 9 0 σ23) = σ25
          replace hF := q_let e26 hF
          refine q_go C tk_X9_passes [(92, 1)] [] (pc1 := 153) (σ1 := σ25) (lv1 := [(3, .int x17), (2, .int x12), (0, .ref 229), (1, .int t)]) (st1 := [.int x17]) rfl trivial ?_
          exact q_iret C hr (q_dc (z := (153, .ireturn, 1, 0, 0)) tk_X9_passes 93 rfl) (congrArg Prod.snd hF) (congrArg (fun z => q_oi z.1) hF.symm) (Nat.le_of_ble_eq_true rfl) (Nat.le_of_ble_eq_true rfl)
        · rw [if_neg c14] at hF
          refine q_go C tk_X9_passes [(47, 1), (53, 7)] [true] (pc1 := 104) (σ1 := σ10) (lv1 := [(2, .int x12), (0, .ref 229), (1, .int t)]) (st1 := [.int 13, .int t, .ref 229, .int (σ10 230 2)]) rfl ⟨c14, rfl, rfl, (by unfold vp_in; decide +kernel), trivial⟩ ?_
          refine q_callV C hfl mw_X9_of mi_X9_of me_X9_of lk_X9_52 (k_X9_of t 13 σ10 (((((((((hP.2 c1) σ2 e3).2.1 c4) σ5 e6).2 σ7 e8).1 c9) σ10 e11).2 x12 e13).2.2 c14).1) (rest := [.int (σ10 230 2)]) rfl rfl rfl (by decide) (by decide) rfl (q_dc (z := (104, .invokevirtual 52, 3, 0, 0)) tk_X9_passes 60 rfl) (Nat.le_of_ble_eq_true rfl) ⟨Nat.le_of_ble_eq_true rfl, Nat.le_of_ble_eq_true rfl⟩ ⟨Nat.le_of_ble_eq_true rfl, Nat.le_of_ble_eq_true rfl⟩ ?_
          refine q_nrm 107 [.int (F_X9_of t 13 σ10), .int (σ10 230 2)] 0 0 rfl rfl rfl rfl ?_
          refine q_go C tk_X9_passes [(61, 1)] [] (pc1 := 108) (σ1 := σ10) (lv1 := [(2, .int x12), (0, .ref 229), (1, .int t)]) (st1 := [.int ((σ10 230 2) - (F_X9_of t 13 σ10))]) rfl trivial ?_
          generalize e28 : ((σ10 230 2) - (F_X9_of t 13 σ10)) = x27
          replace hF := q_let e28 hF
          refine q_go C tk_X9_passes [(62, 9)] [] (pc1 := 118) (σ1 := σ10) (lv1 := [(3, .int x27), (2, .int x12), (0, .ref 229), (1, .int t)]) (st1 := [.int (1 + x27), .int (14 + x12), .int t, .ref 229]) rfl trivial ?_
          refine q_callV C hfl mw_X9_sets mi_X9_sets me_X9_sets lk_X9_67 (k_X9_sets t (14 + x12) (1 + x27) σ10 ((((((((((hP.2 c1) σ2 e3).2.1 c4) σ5 e6).2 σ7 e8).1 c9) σ10 e11).2 x12 e13).2.2 c14).2 x27 e28).1) (rest := []) rfl rfl rfl (by decide) (by decide) rfl (q_dc (z := (118, .invokevirtual 67, 3, 0, 0)) tk_X9_passes 71 rfl) (Nat.le_of_ble_eq_true rfl) ⟨Nat.le_of_ble_eq_true rfl, Nat.le_of_ble_eq_true rfl⟩ ⟨Nat.le_of_ble_eq_true rfl, Nat.le_of_ble_eq_true rfl⟩ ?_
          refine q_nrm 121 [] 0 0 rfl rfl rfl rfl ?_
          generalize e30 : (F_X9_sets t (14 + x12) (1 + x27) σ10) = σ29
          replace hF := q_let e30 hF
          refine q_go C tk_X9_passes [(72, 7)] [] (pc1 := 131) (σ1 := σ29) (lv1 := [(3, .int x27), (2, .int x12), (0, .ref 229), (1, .int t)]) (st1 := [.int (σ29 230 2), .int 13, .int t, .ref 229]) rfl ⟨rfl, rfl, (by unfold vp_in; decide +kernel), trivial⟩ ?_
          refine q_callV C hfl mw_X9_sets mi_X9_sets me_X9_sets lk_X9_67 (k_X9_sets t 13 (σ29 230 2) σ29 (((((((((((hP.2 c1) σ2 e3).2.1 c4) σ5 e6).2 σ7 e8).1 c9) σ10 e11).2 x12 e13).2.2 c14).2 x27 e28).2 σ29 e30).1) (rest := []) rfl rfl rfl (by decide) (by decide) rfl (q_dc (z := (131, .invokevirtual 67, 3, 0, 0)) tk_X9_passes 79 rfl) (Nat.le_of_ble_eq_true rfl) ⟨Nat.le_of_ble_eq_true rfl, Nat.le_of_ble_eq_true rfl⟩ ⟨Nat.le_of_ble_eq_true rfl, Nat.le_of_ble_eq_true rfl⟩ ?_
          refine q_nrm 134 [] 0 0 rfl rfl rfl rfl ?_
          generalize e32 : (F_X9_sets t 13 (σ29 230 2) σ29) = σ31
          replace hF := q_let e32 hF
          refine q_go C tk_X9_passes [(80, 6)] [] (pc1 := 141) (σ1 := σ31) (lv1 := [(3, .int x27), (2, .int x12), (0, .ref 229), (1, .int t)]) (st1 := [.int (x12 + 1), .int 8, .int t, .ref 229]) rfl trivial ?_
          refine q_callV C hfl mw_X9_sets mi_X9_sets me_X9_sets lk_X9_67 (k_X9_sets t 8 (x12 + 1) σ31 ((((((((((((hP.2 c1) σ2 e3).2.1 c4) σ5 e6).2 σ7 e8).1 c9) σ10 e11).2 x12 e13).2.2 c14).2 x27 e28).2 σ29 e30).2 σ31 e32).1) (rest := []) rfl rfl rfl (by decide) (by decide) rfl (q_dc (z := (141, .invokevirtual 67, 3, 0, 0)) tk_X9_passes 86 rfl) (Nat.le_of_ble_eq_true rfl) ⟨Nat.le_of_ble_eq_true rfl, Nat.le_of_ble_eq_true rfl⟩ ⟨Nat.le_of_ble_eq_true rfl, Nat.le_of_ble_eq_true rfl⟩ ?_
          refine q_nrm 144 [] 0 0 rfl rfl rfl rfl ?_
          generalize e34 : (F_X9_sets t 8 (x12 + 1) σ31) = σ33
          replace hF := q_let e34 hF
          refine q_go C tk_X9_passes [(87, 4)] [] (pc1 := 149) (σ1 := σ33) (lv1 := [(3, .int x27), (2, .int x12), (0, .ref 229), (1, .int t)]) (st1 := [.int 0, .int 9, .int t, .ref 229]) rfl trivial ?_
          refine q_callV C hfl mw_X9_sets mi_X9_sets me_X9_sets lk_X9_67 (k_X9_sets t 9 0 σ33 (((((((((((((hP.2 c1) σ2 e3).2.1 c4) σ5 e6).2 σ7 e8).1 c9) σ10 e11).2 x12 e13).2.2 c14).2 x27 e28).2 σ29 e30).2 σ31 e32).2 σ33 e34).1) (rest := []) rfl rfl rfl (by decide) (by decide) rfl (q_dc (z := (149, .invokevirtual 67, 3, 0, 0)) tk_X9_passes 91 rfl) (Nat.le_of_ble_eq_true rfl) ⟨Nat.le_of_ble_eq_true rfl, Nat.le_of_ble_eq_true rfl⟩ ⟨Nat.le_of_ble_eq_true rfl, Nat.le_of_ble_eq_true rfl⟩ ?_
          refine q_nrm 152 [] 0 0 rfl rfl rfl rfl ?_
          generalize e36 : (F_X9_sets t 9 0 σ33) = σ35
          replace hF := q_let e36 hF
          refine q_go C tk_X9_passes [(92, 1)] [] (pc1 := 153) (σ1 := σ35) (lv1 := [(3, .int x27), (2, .int x12), (0, .ref 229), (1, .int t)]) (st1 := [.int x27]) rfl trivial ?_
          exact q_iret C hr (q_dc (z := (153, .ireturn, 1, 0, 0)) tk_X9_passes 93 rfl) (congrArg Prod.snd hF) (congrArg (fun z => q_oi z.1) hF.symm) (Nat.le_of_ble_eq_true rfl) (Nat.le_of_ble_eq_true rfl)
      · rw [if_neg c9] at hF
        refine q_callV C hfl mw_X9_isThrown mi_X9_isThrown me_X9_isThrown lk_X9_63 (k_X9_isThrownN (F_X9_isRefused t σ5).1 3 σ7 c9 (z_X9_isRefused)) (rest := []) rfl rfl rfl (by decide) (by decide) rfl (q_dc (z := (52, .invokevirtual 63, 3, 0, 0)) tk_X9_passes 29 rfl) (Nat.le_of_ble_eq_true rfl) ⟨Nat.le_of_ble_eq_true rfl, Nat.le_of_ble_eq_true rfl⟩ ⟨Nat.le_of_ble_eq_true rfl, Nat.le_of_ble_eq_true rfl⟩ ?_
        refine q_nrm 55 [.int (F_X9_isRefused t σ5).1] 0 0 rfl rfl rfl rfl ?_
        refine q_go C tk_X9_passes [(30, 2)] [false] (pc1 := 59) (σ1 := (q_up σ7 229 5 3)) (lv1 := [(0, .ref 229), (1, .int t)]) (st1 := [.int 0]) rfl ⟨c9, trivial⟩ ?_
        exact q_iret C hr (q_dc (z := (59, .ireturn, 1, 0, 0)) tk_X9_passes 32 rfl) (congrArg Prod.snd hF) (congrArg (fun z => q_oi z.1) hF.symm) (Nat.le_of_ble_eq_true rfl) (Nat.le_of_ble_eq_true rfl)
    · rw [if_neg c4] at hF
      refine q_go C tk_X9_passes [(17, 3), (21, 1)] [false] (pc1 := 39) (σ1 := σ2) (lv1 := [(0, .ref 229), (1, .int t)]) (st1 := [.int 2, .int 1, .ref 229]) rfl ⟨c4, trivial⟩ ?_
      refine q_callV C hfl mw_X9_isThrown mi_X9_isThrown me_X9_isThrown lk_X9_63 (k_X9_isThrownN 1 2 σ2 (by decide) (by decide)) (rest := []) rfl rfl rfl (by decide) (by decide) rfl (q_dc (z := (39, .invokevirtual 63, 3, 0, 0)) tk_X9_passes 22 rfl) (Nat.le_of_ble_eq_true rfl) ⟨Nat.le_of_ble_eq_true rfl, Nat.le_of_ble_eq_true rfl⟩ ⟨Nat.le_of_ble_eq_true rfl, Nat.le_of_ble_eq_true rfl⟩ ?_
      refine q_nrm 42 [.int 1] 0 0 rfl rfl rfl rfl ?_
      refine q_go C tk_X9_passes [(23, 1), (31, 1)] [true] (pc1 := 59) (σ1 := (q_up σ2 229 5 2)) (lv1 := [(0, .ref 229), (1, .int t)]) (st1 := [.int 0]) rfl ⟨(by decide : ¬ (1 : Int32) = 0), trivial⟩ ?_
      exact q_iret C hr (q_dc (z := (59, .ireturn, 1, 0, 0)) tk_X9_passes 32 rfl) (congrArg Prod.snd hF) (congrArg (fun z => q_oi z.1) hF.symm) (Nat.le_of_ble_eq_true rfl) (Nat.le_of_ble_eq_true rfl)
def F_X9_drops (t : Int32) (n : Int32) (σ : q_M) : (Int32) × q_M := (if (F_X9_isTeam t σ) = 0 then (0, (q_up σ 229 5 1)) else (q_L (q_up σ 229 5 0) (fun σ2 : q_M => (if (F_X9_isIn n 1 20 σ2) = 0 then (0, (q_up σ2 229 5 2)) else (q_L (q_up σ2 229 5 0) (fun σ5 : q_M => (if (F_X9_of t 6 σ5) = 1 then (q_L (q_up σ5 229 5 0) (fun σ8 : q_M => (if (F_X9_inZone t σ8) = 0 then (q_L (F_X9_sets t 10 ((F_X9_of t 10 σ8) + n) σ8) (fun σ11 : q_M => ((F_X9_of t 10 σ11), σ11))) else (q_L (F_X9_sets t 12 1 σ8) (fun σ13 : q_M => (q_L (F_X9_sets t 10 ((F_X9_of t 10 σ13) + n) σ13) (fun σ15 : q_M => ((F_X9_of t 10 σ15), σ15)))))))) else (0, (q_up σ5 229 5 3)))))))))
def P_X9_drops (t : Int32) (n : Int32) (σ : q_M) : Prop := (((F_X9_isTeam t σ) = 0 → True) ∧ (¬ (F_X9_isTeam t σ) = 0 → (∀ σ2 : q_M, (q_up σ 229 5 0) = σ2 → (((F_X9_isIn n 1 20 σ2) = 0 → True) ∧ (¬ (F_X9_isIn n 1 20 σ2) = 0 → (∀ σ5 : q_M, (q_up σ2 229 5 0) = σ5 → ((P_X9_of t 6 σ5) ∧ (((F_X9_of t 6 σ5) = 1 → (∀ σ8 : q_M, (q_up σ5 229 5 0) = σ8 → ((P_X9_inZone t σ8) ∧ (((F_X9_inZone t σ8) = 0 → ((P_X9_of t 10 σ8) ∧ ((P_X9_sets t 10 ((F_X9_of t 10 σ8) + n) σ8) ∧ (∀ σ11 : q_M, (F_X9_sets t 10 ((F_X9_of t 10 σ8) + n) σ8) = σ11 → ((P_X9_of t 10 σ11) ∧ True))))) ∧ (¬ (F_X9_inZone t σ8) = 0 → ((P_X9_sets t 12 1 σ8) ∧ (∀ σ13 : q_M, (F_X9_sets t 12 1 σ8) = σ13 → ((P_X9_of t 10 σ13) ∧ ((P_X9_sets t 10 ((F_X9_of t 10 σ13) + n) σ13) ∧ (∀ σ15 : q_M, (F_X9_sets t 10 ((F_X9_of t 10 σ13) + n) σ13) = σ15 → ((P_X9_of t 10 σ15) ∧ True))))))))))) ∧ (¬ (F_X9_of t 6 σ5) = 1 → True)))))))))
set_option maxRecDepth 100000 in
theorem k_X9_drops {α β : Nat → Nat} {D : va_G} {κ : Nat → ClassId} (t : Int32) (n : Int32) (σ : q_M) (hP : P_X9_drops t n σ) : q_C α β D κ yX9_drops cX9_drops 3 (Option.some Jvm.ClassFile.FieldType.int) 2 45 0 0 [.ref 229, .int t, .int n] σ (q_oi (F_X9_drops t n σ).1) (F_X9_drops t n σ).2 := by
  refine q_enter (own := RX9) (F := F_X9) (G := G_X9) (by decide +kernel) rfl Fok_X9 Gok_X9 (Nat.le_of_ble_eq_true rfl) (fun p l e s m args below meth c A hfl C hr hT => ?_)
  generalize hF : F_X9_drops t n σ = rr
  unfold F_X9_drops at hF
  refine q_go C tk_X9_drops [(0, 3)] [] (pc1 := 3) (σ1 := σ) (lv1 := [(0, .ref 229), (1, .int t), (2, .int n)]) (st1 := [.int t, .ref 229, .ref 229]) rfl trivial ?_
  refine q_callV C hfl mw_X9_isTeam mi_X9_isTeam me_X9_isTeam lk_X9_75 (k_X9_isTeam t σ) (rest := [.ref 229]) rfl rfl rfl (by decide) (by decide) rfl (q_dc (z := (3, .invokevirtual 75, 3, 0, 0)) tk_X9_drops 3 rfl) (Nat.le_of_ble_eq_true rfl) ⟨Nat.le_of_ble_eq_true rfl, Nat.le_of_ble_eq_true rfl⟩ ⟨Nat.le_of_ble_eq_true rfl, Nat.le_of_ble_eq_true rfl⟩ ?_
  refine q_nrm 6 [.int (F_X9_isTeam t σ), .ref 229] 0 0 rfl rfl rfl rfl ?_
  by_cases c1 : (F_X9_isTeam t σ) = 0
  · rw [if_pos c1] at hF
    refine q_go C tk_X9_drops [(4, 3), (8, 1)] [false] (pc1 := 15) (σ1 := σ) (lv1 := [(0, .ref 229), (1, .int t), (2, .int n)]) (st1 := [.int 1, .int 1, .ref 229]) rfl ⟨c1, trivial⟩ ?_
    refine q_callV C hfl mw_X9_isThrown mi_X9_isThrown me_X9_isThrown lk_X9_63 (k_X9_isThrownN 1 1 σ (by decide) (by decide)) (rest := []) rfl rfl rfl (by decide) (by decide) rfl (q_dc (z := (15, .invokevirtual 63, 3, 0, 0)) tk_X9_drops 9 rfl) (Nat.le_of_ble_eq_true rfl) ⟨Nat.le_of_ble_eq_true rfl, Nat.le_of_ble_eq_true rfl⟩ ⟨Nat.le_of_ble_eq_true rfl, Nat.le_of_ble_eq_true rfl⟩ ?_
    refine q_nrm 18 [.int 1] 0 0 rfl rfl rfl rfl ?_
    refine q_go C tk_X9_drops [(10, 1), (36, 1)] [true] (pc1 := 69) (σ1 := (q_up σ 229 5 1)) (lv1 := [(0, .ref 229), (1, .int t), (2, .int n)]) (st1 := [.int 0]) rfl ⟨(by decide : ¬ (1 : Int32) = 0), trivial⟩ ?_
    exact q_iret C hr (q_dc (z := (69, .ireturn, 1, 0, 0)) tk_X9_drops 37 rfl) (congrArg Prod.snd hF) (congrArg (fun z => q_oi z.1) hF.symm) (Nat.le_of_ble_eq_true rfl) (Nat.le_of_ble_eq_true rfl)
  · rw [if_neg c1] at hF
    refine q_go C tk_X9_drops [(4, 1), (7, 2)] [true] (pc1 := 15) (σ1 := σ) (lv1 := [(0, .ref 229), (1, .int t), (2, .int n)]) (st1 := [.int 1, .int 0, .ref 229]) rfl ⟨c1, trivial⟩ ?_
    refine q_callV C hfl mw_X9_isThrown mi_X9_isThrown me_X9_isThrown lk_X9_63 (k_X9_isThrownZ 0 1 σ (by decide)) (rest := []) rfl rfl rfl (by decide) (by decide) rfl (q_dc (z := (15, .invokevirtual 63, 3, 0, 0)) tk_X9_drops 9 rfl) (Nat.le_of_ble_eq_true rfl) ⟨Nat.le_of_ble_eq_true rfl, Nat.le_of_ble_eq_true rfl⟩ ⟨Nat.le_of_ble_eq_true rfl, Nat.le_of_ble_eq_true rfl⟩ ?_
    refine q_nrm 18 [.int 0] 0 0 rfl rfl rfl rfl ?_
    refine q_go C tk_X9_drops [(10, 5)] [false] (pc1 := 26) (σ1 := (q_up σ 229 5 0)) (lv1 := [(0, .ref 229), (1, .int t), (2, .int n)]) (st1 := [.int 20, .int 1, .int n, .ref 229]) rfl ⟨(by decide : (0 : Int32) = 0), trivial⟩ ?_
    generalize e3 : (q_up σ 229 5 0) = σ2
    replace hF := q_let e3 hF
    refine q_callS C hfl mw_X9_isIn ms_X9_isIn lk_X9_48 (k_X9_isIn n 1 20 σ2) (rest := [.ref 229]) rfl rfl (q_dc (z := (26, .invokestatic 48, 3, 0, 0)) tk_X9_drops 15 rfl) (Nat.le_of_ble_eq_true rfl) ⟨Nat.le_of_ble_eq_true rfl, Nat.le_of_ble_eq_true rfl⟩ ⟨Nat.le_of_ble_eq_true rfl, Nat.le_of_ble_eq_true rfl⟩ ?_
    refine q_nrm 29 [.int (F_X9_isIn n 1 20 σ2), .ref 229] 0 0 rfl rfl rfl rfl ?_
    by_cases c4 : (F_X9_isIn n 1 20 σ2) = 0
    · rw [if_pos c4] at hF
      refine q_go C tk_X9_drops [(16, 3), (20, 1)] [false] (pc1 := 38) (σ1 := σ2) (lv1 := [(0, .ref 229), (1, .int t), (2, .int n)]) (st1 := [.int 2, .int 1, .ref 229]) rfl ⟨c4, trivial⟩ ?_
      refine q_callV C hfl mw_X9_isThrown mi_X9_isThrown me_X9_isThrown lk_X9_63 (k_X9_isThrownN 1 2 σ2 (by decide) (by decide)) (rest := []) rfl rfl rfl (by decide) (by decide) rfl (q_dc (z := (38, .invokevirtual 63, 3, 0, 0)) tk_X9_drops 21 rfl) (Nat.le_of_ble_eq_true rfl) ⟨Nat.le_of_ble_eq_true rfl, Nat.le_of_ble_eq_true rfl⟩ ⟨Nat.le_of_ble_eq_true rfl, Nat.le_of_ble_eq_true rfl⟩ ?_
      refine q_nrm 41 [.int 1] 0 0 rfl rfl rfl rfl ?_
      refine q_go C tk_X9_drops [(22, 1), (36, 1)] [true] (pc1 := 69) (σ1 := (q_up σ2 229 5 2)) (lv1 := [(0, .ref 229), (1, .int t), (2, .int n)]) (st1 := [.int 0]) rfl ⟨(by decide : ¬ (1 : Int32) = 0), trivial⟩ ?_
      exact q_iret C hr (q_dc (z := (69, .ireturn, 1, 0, 0)) tk_X9_drops 37 rfl) (congrArg Prod.snd hF) (congrArg (fun z => q_oi z.1) hF.symm) (Nat.le_of_ble_eq_true rfl) (Nat.le_of_ble_eq_true rfl)
    · rw [if_neg c4] at hF
      refine q_go C tk_X9_drops [(16, 1), (19, 2)] [true] (pc1 := 38) (σ1 := σ2) (lv1 := [(0, .ref 229), (1, .int t), (2, .int n)]) (st1 := [.int 2, .int 0, .ref 229]) rfl ⟨c4, trivial⟩ ?_
      refine q_callV C hfl mw_X9_isThrown mi_X9_isThrown me_X9_isThrown lk_X9_63 (k_X9_isThrownZ 0 2 σ2 (by decide)) (rest := []) rfl rfl rfl (by decide) (by decide) rfl (q_dc (z := (38, .invokevirtual 63, 3, 0, 0)) tk_X9_drops 21 rfl) (Nat.le_of_ble_eq_true rfl) ⟨Nat.le_of_ble_eq_true rfl, Nat.le_of_ble_eq_true rfl⟩ ⟨Nat.le_of_ble_eq_true rfl, Nat.le_of_ble_eq_true rfl⟩ ?_
      refine q_nrm 41 [.int 0] 0 0 rfl rfl rfl rfl ?_
      refine q_go C tk_X9_drops [(22, 5)] [false] (pc1 := 49) (σ1 := (q_up σ2 229 5 0)) (lv1 := [(0, .ref 229), (1, .int t), (2, .int n)]) (st1 := [.int 6, .int t, .ref 229, .ref 229]) rfl ⟨(by decide : (0 : Int32) = 0), trivial⟩ ?_
      generalize e6 : (q_up σ2 229 5 0) = σ5
      replace hF := q_let e6 hF
      refine q_callV C hfl mw_X9_of mi_X9_of me_X9_of lk_X9_52 (k_X9_of t 6 σ5 ((((hP.2 c1) σ2 e3).2 c4) σ5 e6).1) (rest := [.ref 229]) rfl rfl rfl (by decide) (by decide) rfl (q_dc (z := (49, .invokevirtual 52, 3, 0, 0)) tk_X9_drops 27 rfl) (Nat.le_of_ble_eq_true rfl) ⟨Nat.le_of_ble_eq_true rfl, Nat.le_of_ble_eq_true rfl⟩ ⟨Nat.le_of_ble_eq_true rfl, Nat.le_of_ble_eq_true rfl⟩ ?_
      refine q_nrm 52 [.int (F_X9_of t 6 σ5), .ref 229] 0 0 rfl rfl rfl rfl ?_
      refine q_go C tk_X9_drops [(28, 1)] [] (pc1 := 53) (σ1 := σ5) (lv1 := [(0, .ref 229), (1, .int t), (2, .int n)]) (st1 := [.int 1, .int (F_X9_of t 6 σ5), .ref 229]) rfl trivial ?_
      by_cases c7 : (F_X9_of t 6 σ5) = 1
      · rw [if_pos c7] at hF
        refine q_go C tk_X9_drops [(29, 1), (32, 2)] [true] (pc1 := 62) (σ1 := σ5) (lv1 := [(0, .ref 229), (1, .int t), (2, .int n)]) (st1 := [.int 3, .int 0, .ref 229]) rfl ⟨c7, trivial⟩ ?_
        refine q_callV C hfl mw_X9_isThrown mi_X9_isThrown me_X9_isThrown lk_X9_63 (k_X9_isThrownZ 0 3 σ5 (by decide)) (rest := []) rfl rfl rfl (by decide) (by decide) rfl (q_dc (z := (62, .invokevirtual 63, 3, 0, 0)) tk_X9_drops 34 rfl) (Nat.le_of_ble_eq_true rfl) ⟨Nat.le_of_ble_eq_true rfl, Nat.le_of_ble_eq_true rfl⟩ ⟨Nat.le_of_ble_eq_true rfl, Nat.le_of_ble_eq_true rfl⟩ ?_
        refine q_nrm 65 [.int 0] 0 0 rfl rfl rfl rfl ?_
        refine q_go C tk_X9_drops [(35, 1), (38, 2)] [true] (pc1 := 72) (σ1 := (q_up σ5 229 5 0)) (lv1 := [(0, .ref 229), (1, .int t), (2, .int n)]) (st1 := [.int t, .ref 229]) rfl ⟨(by decide : (0 : Int32) = 0), trivial⟩ ?_
        generalize e9 : (q_up σ5 229 5 0) = σ8
        replace hF := q_let e9 hF
        refine q_callV C hfl mw_X9_inZone mi_X9_inZone me_X9_inZone lk_X9_133 (k_X9_inZone t σ8 ((((((hP.2 c1) σ2 e3).2 c4) σ5 e6).2.1 c7) σ8 e9).1) (rest := []) rfl rfl rfl (by decide) (by decide) rfl (q_dc (z := (72, .invokevirtual 133, 3, 0, 0)) tk_X9_drops 40 rfl) (Nat.le_of_ble_eq_true rfl) ⟨Nat.le_of_ble_eq_true rfl, Nat.le_of_ble_eq_true rfl⟩ ⟨Nat.le_of_ble_eq_true rfl, Nat.le_of_ble_eq_true rfl⟩ ?_
        refine q_nrm 75 [.int (F_X9_inZone t σ8)] 0 0 rfl rfl rfl rfl ?_
        by_cases c10 : (F_X9_inZone t σ8) = 0
        · rw [if_pos c10] at hF
          refine q_go C tk_X9_drops [(41, 1), (47, 6)] [true] (pc1 := 94) (σ1 := σ8) (lv1 := [(0, .ref 229), (1, .int t), (2, .int n)]) (st1 := [.int 10, .int t, .ref 229, .int 10, .int t, .ref 229]) rfl ⟨c10, trivial⟩ ?_
          refine q_callV C hfl mw_X9_of mi_X9_of me_X9_of lk_X9_52 (k_X9_of t 10 σ8 (((((((hP.2 c1) σ2 e3).2 c4) σ5 e6).2.1 c7) σ8 e9).2.1 c10).1) (rest := [.int 10, .int t, .ref 229]) rfl rfl rfl (by decide) (by decide) rfl (q_dc (z := (94, .invokevirtual 52, 3, 0, 0)) tk_X9_drops 53 rfl) (Nat.le_of_ble_eq_true rfl) ⟨Nat.le_of_ble_eq_true rfl, Nat.le_of_ble_eq_true rfl⟩ ⟨Nat.le_of_ble_eq_true rfl, Nat.le_of_ble_eq_true rfl⟩ ?_
          refine q_nrm 97 [.int (F_X9_of t 10 σ8), .int 10, .int t, .ref 229] 0 0 rfl rfl rfl rfl ?_
          refine q_go C tk_X9_drops [(54, 2)] [] (pc1 := 99) (σ1 := σ8) (lv1 := [(0, .ref 229), (1, .int t), (2, .int n)]) (st1 := [.int ((F_X9_of t 10 σ8) + n), .int 10, .int t, .ref 229]) rfl trivial ?_
          refine q_callV C hfl mw_X9_sets mi_X9_sets me_X9_sets lk_X9_67 (k_X9_sets t 10 ((F_X9_of t 10 σ8) + n) σ8 (((((((hP.2 c1) σ2 e3).2 c4) σ5 e6).2.1 c7) σ8 e9).2.1 c10).2.1) (rest := []) rfl rfl rfl (by decide) (by decide) rfl (q_dc (z := (99, .invokevirtual 67, 3, 0, 0)) tk_X9_drops 56 rfl) (Nat.le_of_ble_eq_true rfl) ⟨Nat.le_of_ble_eq_true rfl, Nat.le_of_ble_eq_true rfl⟩ ⟨Nat.le_of_ble_eq_true rfl, Nat.le_of_ble_eq_true rfl⟩ ?_
          refine q_nrm 102 [] 0 0 rfl rfl rfl rfl ?_
          generalize e12 : (F_X9_sets t 10 ((F_X9_of t 10 σ8) + n) σ8) = σ11
          replace hF := q_let e12 hF
          refine q_go C tk_X9_drops [(57, 3)] [] (pc1 := 106) (σ1 := σ11) (lv1 := [(0, .ref 229), (1, .int t), (2, .int n)]) (st1 := [.int 10, .int t, .ref 229]) rfl trivial ?_
          refine q_callV C hfl mw_X9_of mi_X9_of me_X9_of lk_X9_52 (k_X9_of t 10 σ11 ((((((((hP.2 c1) σ2 e3).2 c4) σ5 e6).2.1 c7) σ8 e9).2.1 c10).2.2 σ11 e12).1) (rest := []) rfl rfl rfl (by decide) (by decide) rfl (q_dc (z := (106, .invokevirtual 52, 3, 0, 0)) tk_X9_drops 60 rfl) (Nat.le_of_ble_eq_true rfl) ⟨Nat.le_of_ble_eq_true rfl, Nat.le_of_ble_eq_true rfl⟩ ⟨Nat.le_of_ble_eq_true rfl, Nat.le_of_ble_eq_true rfl⟩ ?_
          refine q_nrm 109 [.int (F_X9_of t 10 σ11)] 0 0 rfl rfl rfl rfl ?_
          exact q_iret C hr (q_dc (z := (109, .ireturn, 1, 0, 0)) tk_X9_drops 61 rfl) (congrArg Prod.snd hF) (congrArg (fun z => q_oi z.1) hF.symm) (Nat.le_of_ble_eq_true rfl) (Nat.le_of_ble_eq_true rfl)
        · rw [if_neg c10] at hF
          refine q_go C tk_X9_drops [(41, 5)] [false] (pc1 := 83) (σ1 := σ8) (lv1 := [(0, .ref 229), (1, .int t), (2, .int n)]) (st1 := [.int 1, .int 12, .int t, .ref 229]) rfl ⟨c10, trivial⟩ ?_
          refine q_callV C hfl mw_X9_sets mi_X9_sets me_X9_sets lk_X9_67 (k_X9_sets t 12 1 σ8 (((((((hP.2 c1) σ2 e3).2 c4) σ5 e6).2.1 c7) σ8 e9).2.2 c10).1) (rest := []) rfl rfl rfl (by decide) (by decide) rfl (q_dc (z := (83, .invokevirtual 67, 3, 0, 0)) tk_X9_drops 46 rfl) (Nat.le_of_ble_eq_true rfl) ⟨Nat.le_of_ble_eq_true rfl, Nat.le_of_ble_eq_true rfl⟩ ⟨Nat.le_of_ble_eq_true rfl, Nat.le_of_ble_eq_true rfl⟩ ?_
          refine q_nrm 86 [] 0 0 rfl rfl rfl rfl ?_
          generalize e14 : (F_X9_sets t 12 1 σ8) = σ13
          replace hF := q_let e14 hF
          refine q_go C tk_X9_drops [(47, 6)] [] (pc1 := 94) (σ1 := σ13) (lv1 := [(0, .ref 229), (1, .int t), (2, .int n)]) (st1 := [.int 10, .int t, .ref 229, .int 10, .int t, .ref 229]) rfl trivial ?_
          refine q_callV C hfl mw_X9_of mi_X9_of me_X9_of lk_X9_52 (k_X9_of t 10 σ13 ((((((((hP.2 c1) σ2 e3).2 c4) σ5 e6).2.1 c7) σ8 e9).2.2 c10).2 σ13 e14).1) (rest := [.int 10, .int t, .ref 229]) rfl rfl rfl (by decide) (by decide) rfl (q_dc (z := (94, .invokevirtual 52, 3, 0, 0)) tk_X9_drops 53 rfl) (Nat.le_of_ble_eq_true rfl) ⟨Nat.le_of_ble_eq_true rfl, Nat.le_of_ble_eq_true rfl⟩ ⟨Nat.le_of_ble_eq_true rfl, Nat.le_of_ble_eq_true rfl⟩ ?_
          refine q_nrm 97 [.int (F_X9_of t 10 σ13), .int 10, .int t, .ref 229] 0 0 rfl rfl rfl rfl ?_
          refine q_go C tk_X9_drops [(54, 2)] [] (pc1 := 99) (σ1 := σ13) (lv1 := [(0, .ref 229), (1, .int t), (2, .int n)]) (st1 := [.int ((F_X9_of t 10 σ13) + n), .int 10, .int t, .ref 229]) rfl trivial ?_
          refine q_callV C hfl mw_X9_sets mi_X9_sets me_X9_sets lk_X9_67 (k_X9_sets t 10 ((F_X9_of t 10 σ13) + n) σ13 ((((((((hP.2 c1) σ2 e3).2 c4) σ5 e6).2.1 c7) σ8 e9).2.2 c10).2 σ13 e14).2.1) (rest := []) rfl rfl rfl (by decide) (by decide) rfl (q_dc (z := (99, .invokevirtual 67, 3, 0, 0)) tk_X9_drops 56 rfl) (Nat.le_of_ble_eq_true rfl) ⟨Nat.le_of_ble_eq_true rfl, Nat.le_of_ble_eq_true rfl⟩ ⟨Nat.le_of_ble_eq_true rfl, Nat.le_of_ble_eq_true rfl⟩ ?_
          refine q_nrm 102 [] 0 0 rfl rfl rfl rfl ?_
          generalize e16 : (F_X9_sets t 10 ((F_X9_of t 10 σ13) + n) σ13) = σ15
          replace hF := q_let e16 hF
          refine q_go C tk_X9_drops [(57, 3)] [] (pc1 := 106) (σ1 := σ15) (lv1 := [(0, .ref 229), (1, .int t), (2, .int n)]) (st1 := [.int 10, .int t, .ref 229]) rfl trivial ?_
          refine q_callV C hfl mw_X9_of mi_X9_of me_X9_of lk_X9_52 (k_X9_of t 10 σ15 (((((((((hP.2 c1) σ2 e3).2 c4) σ5 e6).2.1 c7) σ8 e9).2.2 c10).2 σ13 e14).2.2 σ15 e16).1) (rest := []) rfl rfl rfl (by decide) (by decide) rfl (q_dc (z := (106, .invokevirtual 52, 3, 0, 0)) tk_X9_drops 60 rfl) (Nat.le_of_ble_eq_true rfl) ⟨Nat.le_of_ble_eq_true rfl, Nat.le_of_ble_eq_true rfl⟩ ⟨Nat.le_of_ble_eq_true rfl, Nat.le_of_ble_eq_true rfl⟩ ?_
          refine q_nrm 109 [.int (F_X9_of t 10 σ15)] 0 0 rfl rfl rfl rfl ?_
          exact q_iret C hr (q_dc (z := (109, .ireturn, 1, 0, 0)) tk_X9_drops 61 rfl) (congrArg Prod.snd hF) (congrArg (fun z => q_oi z.1) hF.symm) (Nat.le_of_ble_eq_true rfl) (Nat.le_of_ble_eq_true rfl)
      · rw [if_neg c7] at hF
        refine q_go C tk_X9_drops [(29, 3), (33, 1)] [false] (pc1 := 62) (σ1 := σ5) (lv1 := [(0, .ref 229), (1, .int t), (2, .int n)]) (st1 := [.int 3, .int 1, .ref 229]) rfl ⟨c7, trivial⟩ ?_
        refine q_callV C hfl mw_X9_isThrown mi_X9_isThrown me_X9_isThrown lk_X9_63 (k_X9_isThrownN 1 3 σ5 (by decide) (by decide)) (rest := []) rfl rfl rfl (by decide) (by decide) rfl (q_dc (z := (62, .invokevirtual 63, 3, 0, 0)) tk_X9_drops 34 rfl) (Nat.le_of_ble_eq_true rfl) ⟨Nat.le_of_ble_eq_true rfl, Nat.le_of_ble_eq_true rfl⟩ ⟨Nat.le_of_ble_eq_true rfl, Nat.le_of_ble_eq_true rfl⟩ ?_
        refine q_nrm 65 [.int 1] 0 0 rfl rfl rfl rfl ?_
        refine q_go C tk_X9_drops [(35, 2)] [false] (pc1 := 69) (σ1 := (q_up σ5 229 5 3)) (lv1 := [(0, .ref 229), (1, .int t), (2, .int n)]) (st1 := [.int 0]) rfl ⟨(by decide : ¬ (1 : Int32) = 0), trivial⟩ ?_
        exact q_iret C hr (q_dc (z := (69, .ireturn, 1, 0, 0)) tk_X9_drops 37 rfl) (congrArg Prod.snd hF) (congrArg (fun z => q_oi z.1) hF.symm) (Nat.le_of_ble_eq_true rfl) (Nat.le_of_ble_eq_true rfl)
def F_X9_protests (b : Int32) (a : Int32) (k : Int32) (σ : q_M) : (Int32) × q_M := (if (F_X9_isTeam b σ) = 0 then (0, (q_up σ 229 5 1)) else (if (F_X9_isTeam a σ) = 0 then (0, (q_up σ 229 5 1)) else (q_L (q_up σ 229 5 0) (fun σ3 : q_M => (if b = a then (0, (q_up σ3 229 5 2)) else (if (F_X9_isIn k 0 1 σ3) = 0 then (0, (q_up σ3 229 5 2)) else (q_L (q_up σ3 229 5 0) (fun σ7 : q_M => (if (F_X9_isUnprepared σ7) = 0 then (0, (q_up σ7 229 5 3)) else (q_L (q_up σ7 229 5 0) (fun σ10 : q_M => (q_L (if (F_X9_of a (11 + k) σ10) = 1 then 1 else 0) (fun x13 : Int32 => (if x13 = 0 then (q_L (F_X9_sets b 5 ((F_X9_of b 5 σ10) + 5) σ10) (fun σ16 : q_M => (0, σ16))) else (q_L (F_X9_sets a (11 + k) 0 σ10) (fun σ18 : q_M => (q_L (F_X9_sets a 5 ((F_X9_of a 5 σ18) + 10) σ18) (fun σ20 : q_M => (1, σ20)))))))))))))))))))
def P_X9_protests (b : Int32) (a : Int32) (k : Int32) (σ : q_M) : Prop := (((F_X9_isTeam b σ) = 0 → True) ∧ (¬ (F_X9_isTeam b σ) = 0 → (((F_X9_isTeam a σ) = 0 → True) ∧ (¬ (F_X9_isTeam a σ) = 0 → (∀ σ3 : q_M, (q_up σ 229 5 0) = σ3 → ((b = a → True) ∧ (¬ b = a → (((F_X9_isIn k 0 1 σ3) = 0 → True) ∧ (¬ (F_X9_isIn k 0 1 σ3) = 0 → (∀ σ7 : q_M, (q_up σ3 229 5 0) = σ7 → (((F_X9_isUnprepared σ7) = 0 → True) ∧ (¬ (F_X9_isUnprepared σ7) = 0 → (∀ σ10 : q_M, (q_up σ7 229 5 0) = σ10 → ((P_X9_of a (11 + k) σ10) ∧ (True ∧ (∀ x13 : Int32, (if (F_X9_of a (11 + k) σ10) = 1 then 1 else 0) = x13 → ((x13 = 0 → ((P_X9_of b 5 σ10) ∧ ((P_X9_sets b 5 ((F_X9_of b 5 σ10) + 5) σ10) ∧ True))) ∧ (¬ x13 = 0 → ((P_X9_sets a (11 + k) 0 σ10) ∧ (∀ σ18 : q_M, (F_X9_sets a (11 + k) 0 σ10) = σ18 → ((P_X9_of a 5 σ18) ∧ ((P_X9_sets a 5 ((F_X9_of a 5 σ18) + 10) σ18) ∧ True))))))))))))))))))))))
set_option maxRecDepth 100000 in
theorem k_X9_protests {α β : Nat → Nat} {D : va_G} {κ : Nat → ClassId} (b : Int32) (a : Int32) (k : Int32) (σ : q_M) (hP : P_X9_protests b a k σ) : q_C α β D κ yX9_protests cX9_protests 5 (Option.some Jvm.ClassFile.FieldType.int) 2 43 0 0 [.ref 229, .int b, .int a, .int k] σ (q_oi (F_X9_protests b a k σ).1) (F_X9_protests b a k σ).2 := by
  refine q_enter (own := RX9) (F := F_X9) (G := G_X9) (by decide +kernel) rfl Fok_X9 Gok_X9 (Nat.le_of_ble_eq_true rfl) (fun p l e s m args below meth c A hfl C hr hT => ?_)
  generalize hF : F_X9_protests b a k σ = rr
  unfold F_X9_protests at hF
  refine q_go C tk_X9_protests [(0, 3)] [] (pc1 := 3) (σ1 := σ) (lv1 := [(0, .ref 229), (1, .int b), (2, .int a), (3, .int k)]) (st1 := [.int b, .ref 229, .ref 229]) rfl trivial ?_
  refine q_callV C hfl mw_X9_isTeam mi_X9_isTeam me_X9_isTeam lk_X9_75 (k_X9_isTeam b σ) (rest := [.ref 229]) rfl rfl rfl (by decide) (by decide) rfl (q_dc (z := (3, .invokevirtual 75, 3, 0, 0)) tk_X9_protests 3 rfl) (Nat.le_of_ble_eq_true rfl) ⟨Nat.le_of_ble_eq_true rfl, Nat.le_of_ble_eq_true rfl⟩ ⟨Nat.le_of_ble_eq_true rfl, Nat.le_of_ble_eq_true rfl⟩ ?_
  refine q_nrm 6 [.int (F_X9_isTeam b σ), .ref 229] 0 0 rfl rfl rfl rfl ?_
  by_cases c1 : (F_X9_isTeam b σ) = 0
  · rw [if_pos c1] at hF
    refine q_go C tk_X9_protests [(4, 1), (9, 2), (12, 1)] [true] (pc1 := 23) (σ1 := σ) (lv1 := [(0, .ref 229), (1, .int b), (2, .int a), (3, .int k)]) (st1 := [.int 1, .int 1, .ref 229]) rfl ⟨c1, trivial⟩ ?_
    refine q_callV C hfl mw_X9_isThrown mi_X9_isThrown me_X9_isThrown lk_X9_63 (k_X9_isThrownN 1 1 σ (by decide) (by decide)) (rest := []) rfl rfl rfl (by decide) (by decide) rfl (q_dc (z := (23, .invokevirtual 63, 3, 0, 0)) tk_X9_protests 13 rfl) (Nat.le_of_ble_eq_true rfl) ⟨Nat.le_of_ble_eq_true rfl, Nat.le_of_ble_eq_true rfl⟩ ⟨Nat.le_of_ble_eq_true rfl, Nat.le_of_ble_eq_true rfl⟩ ?_
    refine q_nrm 26 [.int 1] 0 0 rfl rfl rfl rfl ?_
    refine q_go C tk_X9_protests [(14, 1), (40, 1)] [true] (pc1 := 77) (σ1 := (q_up σ 229 5 1)) (lv1 := [(0, .ref 229), (1, .int b), (2, .int a), (3, .int k)]) (st1 := [.int 0]) rfl ⟨(by decide : ¬ (1 : Int32) = 0), trivial⟩ ?_
    exact q_iret C hr (q_dc (z := (77, .ireturn, 1, 0, 0)) tk_X9_protests 41 rfl) (congrArg Prod.snd hF) (congrArg (fun z => q_oi z.1) hF.symm) (Nat.le_of_ble_eq_true rfl) (Nat.le_of_ble_eq_true rfl)
  · rw [if_neg c1] at hF
    refine q_go C tk_X9_protests [(4, 3)] [false] (pc1 := 11) (σ1 := σ) (lv1 := [(0, .ref 229), (1, .int b), (2, .int a), (3, .int k)]) (st1 := [.int a, .ref 229, .ref 229]) rfl ⟨c1, trivial⟩ ?_
    refine q_callV C hfl mw_X9_isTeam mi_X9_isTeam me_X9_isTeam lk_X9_75 (k_X9_isTeam a σ) (rest := [.ref 229]) rfl rfl rfl (by decide) (by decide) rfl (q_dc (z := (11, .invokevirtual 75, 3, 0, 0)) tk_X9_protests 7 rfl) (Nat.le_of_ble_eq_true rfl) ⟨Nat.le_of_ble_eq_true rfl, Nat.le_of_ble_eq_true rfl⟩ ⟨Nat.le_of_ble_eq_true rfl, Nat.le_of_ble_eq_true rfl⟩ ?_
    refine q_nrm 14 [.int (F_X9_isTeam a σ), .ref 229] 0 0 rfl rfl rfl rfl ?_
    by_cases c2 : (F_X9_isTeam a σ) = 0
    · rw [if_pos c2] at hF
      refine q_go C tk_X9_protests [(8, 3), (12, 1)] [false] (pc1 := 23) (σ1 := σ) (lv1 := [(0, .ref 229), (1, .int b), (2, .int a), (3, .int k)]) (st1 := [.int 1, .int 1, .ref 229]) rfl ⟨c2, trivial⟩ ?_
      refine q_callV C hfl mw_X9_isThrown mi_X9_isThrown me_X9_isThrown lk_X9_63 (k_X9_isThrownN 1 1 σ (by decide) (by decide)) (rest := []) rfl rfl rfl (by decide) (by decide) rfl (q_dc (z := (23, .invokevirtual 63, 3, 0, 0)) tk_X9_protests 13 rfl) (Nat.le_of_ble_eq_true rfl) ⟨Nat.le_of_ble_eq_true rfl, Nat.le_of_ble_eq_true rfl⟩ ⟨Nat.le_of_ble_eq_true rfl, Nat.le_of_ble_eq_true rfl⟩ ?_
      refine q_nrm 26 [.int 1] 0 0 rfl rfl rfl rfl ?_
      refine q_go C tk_X9_protests [(14, 1), (40, 1)] [true] (pc1 := 77) (σ1 := (q_up σ 229 5 1)) (lv1 := [(0, .ref 229), (1, .int b), (2, .int a), (3, .int k)]) (st1 := [.int 0]) rfl ⟨(by decide : ¬ (1 : Int32) = 0), trivial⟩ ?_
      exact q_iret C hr (q_dc (z := (77, .ireturn, 1, 0, 0)) tk_X9_protests 41 rfl) (congrArg Prod.snd hF) (congrArg (fun z => q_oi z.1) hF.symm) (Nat.le_of_ble_eq_true rfl) (Nat.le_of_ble_eq_true rfl)
    · rw [if_neg c2] at hF
      refine q_go C tk_X9_protests [(8, 1), (11, 2)] [true] (pc1 := 23) (σ1 := σ) (lv1 := [(0, .ref 229), (1, .int b), (2, .int a), (3, .int k)]) (st1 := [.int 1, .int 0, .ref 229]) rfl ⟨c2, trivial⟩ ?_
      refine q_callV C hfl mw_X9_isThrown mi_X9_isThrown me_X9_isThrown lk_X9_63 (k_X9_isThrownZ 0 1 σ (by decide)) (rest := []) rfl rfl rfl (by decide) (by decide) rfl (q_dc (z := (23, .invokevirtual 63, 3, 0, 0)) tk_X9_protests 13 rfl) (Nat.le_of_ble_eq_true rfl) ⟨Nat.le_of_ble_eq_true rfl, Nat.le_of_ble_eq_true rfl⟩ ⟨Nat.le_of_ble_eq_true rfl, Nat.le_of_ble_eq_true rfl⟩ ?_
      refine q_nrm 26 [.int 0] 0 0 rfl rfl rfl rfl ?_
      refine q_go C tk_X9_protests [(14, 4)] [false] (pc1 := 32) (σ1 := (q_up σ 229 5 0)) (lv1 := [(0, .ref 229), (1, .int b), (2, .int a), (3, .int k)]) (st1 := [.int a, .int b, .ref 229]) rfl ⟨(by decide : (0 : Int32) = 0), trivial⟩ ?_
      generalize e4 : (q_up σ 229 5 0) = σ3
      replace hF := q_let e4 hF
      by_cases c5 : b = a
      · rw [if_pos c5] at hF
        refine q_go C tk_X9_protests [(18, 1), (24, 2), (27, 1)] [true] (pc1 := 50) (σ1 := σ3) (lv1 := [(0, .ref 229), (1, .int b), (2, .int a), (3, .int k)]) (st1 := [.int 2, .int 1, .ref 229]) rfl ⟨c5, trivial⟩ ?_
        refine q_callV C hfl mw_X9_isThrown mi_X9_isThrown me_X9_isThrown lk_X9_63 (k_X9_isThrownN 1 2 σ3 (by decide) (by decide)) (rest := []) rfl rfl rfl (by decide) (by decide) rfl (q_dc (z := (50, .invokevirtual 63, 3, 0, 0)) tk_X9_protests 28 rfl) (Nat.le_of_ble_eq_true rfl) ⟨Nat.le_of_ble_eq_true rfl, Nat.le_of_ble_eq_true rfl⟩ ⟨Nat.le_of_ble_eq_true rfl, Nat.le_of_ble_eq_true rfl⟩ ?_
        refine q_nrm 53 [.int 1] 0 0 rfl rfl rfl rfl ?_
        refine q_go C tk_X9_protests [(29, 1), (40, 1)] [true] (pc1 := 77) (σ1 := (q_up σ3 229 5 2)) (lv1 := [(0, .ref 229), (1, .int b), (2, .int a), (3, .int k)]) (st1 := [.int 0]) rfl ⟨(by decide : ¬ (1 : Int32) = 0), trivial⟩ ?_
        exact q_iret C hr (q_dc (z := (77, .ireturn, 1, 0, 0)) tk_X9_protests 41 rfl) (congrArg Prod.snd hF) (congrArg (fun z => q_oi z.1) hF.symm) (Nat.le_of_ble_eq_true rfl) (Nat.le_of_ble_eq_true rfl)
      · rw [if_neg c5] at hF
        refine q_go C tk_X9_protests [(18, 4)] [false] (pc1 := 38) (σ1 := σ3) (lv1 := [(0, .ref 229), (1, .int b), (2, .int a), (3, .int k)]) (st1 := [.int 1, .int 0, .int k, .ref 229]) rfl ⟨c5, trivial⟩ ?_
        refine q_callS C hfl mw_X9_isIn ms_X9_isIn lk_X9_48 (k_X9_isIn k 0 1 σ3) (rest := [.ref 229]) rfl rfl (q_dc (z := (38, .invokestatic 48, 3, 0, 0)) tk_X9_protests 22 rfl) (Nat.le_of_ble_eq_true rfl) ⟨Nat.le_of_ble_eq_true rfl, Nat.le_of_ble_eq_true rfl⟩ ⟨Nat.le_of_ble_eq_true rfl, Nat.le_of_ble_eq_true rfl⟩ ?_
        refine q_nrm 41 [.int (F_X9_isIn k 0 1 σ3), .ref 229] 0 0 rfl rfl rfl rfl ?_
        by_cases c6 : (F_X9_isIn k 0 1 σ3) = 0
        · rw [if_pos c6] at hF
          refine q_go C tk_X9_protests [(23, 3), (27, 1)] [false] (pc1 := 50) (σ1 := σ3) (lv1 := [(0, .ref 229), (1, .int b), (2, .int a), (3, .int k)]) (st1 := [.int 2, .int 1, .ref 229]) rfl ⟨c6, trivial⟩ ?_
          refine q_callV C hfl mw_X9_isThrown mi_X9_isThrown me_X9_isThrown lk_X9_63 (k_X9_isThrownN 1 2 σ3 (by decide) (by decide)) (rest := []) rfl rfl rfl (by decide) (by decide) rfl (q_dc (z := (50, .invokevirtual 63, 3, 0, 0)) tk_X9_protests 28 rfl) (Nat.le_of_ble_eq_true rfl) ⟨Nat.le_of_ble_eq_true rfl, Nat.le_of_ble_eq_true rfl⟩ ⟨Nat.le_of_ble_eq_true rfl, Nat.le_of_ble_eq_true rfl⟩ ?_
          refine q_nrm 53 [.int 1] 0 0 rfl rfl rfl rfl ?_
          refine q_go C tk_X9_protests [(29, 1), (40, 1)] [true] (pc1 := 77) (σ1 := (q_up σ3 229 5 2)) (lv1 := [(0, .ref 229), (1, .int b), (2, .int a), (3, .int k)]) (st1 := [.int 0]) rfl ⟨(by decide : ¬ (1 : Int32) = 0), trivial⟩ ?_
          exact q_iret C hr (q_dc (z := (77, .ireturn, 1, 0, 0)) tk_X9_protests 41 rfl) (congrArg Prod.snd hF) (congrArg (fun z => q_oi z.1) hF.symm) (Nat.le_of_ble_eq_true rfl) (Nat.le_of_ble_eq_true rfl)
        · rw [if_neg c6] at hF
          refine q_go C tk_X9_protests [(23, 1), (26, 2)] [true] (pc1 := 50) (σ1 := σ3) (lv1 := [(0, .ref 229), (1, .int b), (2, .int a), (3, .int k)]) (st1 := [.int 2, .int 0, .ref 229]) rfl ⟨c6, trivial⟩ ?_
          refine q_callV C hfl mw_X9_isThrown mi_X9_isThrown me_X9_isThrown lk_X9_63 (k_X9_isThrownZ 0 2 σ3 (by decide)) (rest := []) rfl rfl rfl (by decide) (by decide) rfl (q_dc (z := (50, .invokevirtual 63, 3, 0, 0)) tk_X9_protests 28 rfl) (Nat.le_of_ble_eq_true rfl) ⟨Nat.le_of_ble_eq_true rfl, Nat.le_of_ble_eq_true rfl⟩ ⟨Nat.le_of_ble_eq_true rfl, Nat.le_of_ble_eq_true rfl⟩ ?_
          refine q_nrm 53 [.int 0] 0 0 rfl rfl rfl rfl ?_
          refine q_go C tk_X9_protests [(29, 3)] [false] (pc1 := 58) (σ1 := (q_up σ3 229 5 0)) (lv1 := [(0, .ref 229), (1, .int b), (2, .int a), (3, .int k)]) (st1 := [.ref 229, .ref 229]) rfl ⟨(by decide : (0 : Int32) = 0), trivial⟩ ?_
          generalize e8 : (q_up σ3 229 5 0) = σ7
          replace hF := q_let e8 hF
          refine q_callV C hfl mw_X9_isUnprepared mi_X9_isUnprepared me_X9_isUnprepared lk_X9_59 (k_X9_isUnprepared σ7) (rest := [.ref 229]) rfl rfl rfl (by decide) (by decide) rfl (q_dc (z := (58, .invokevirtual 59, 3, 0, 0)) tk_X9_protests 32 rfl) (Nat.le_of_ble_eq_true rfl) ⟨Nat.le_of_ble_eq_true rfl, Nat.le_of_ble_eq_true rfl⟩ ⟨Nat.le_of_ble_eq_true rfl, Nat.le_of_ble_eq_true rfl⟩ ?_
          refine q_nrm 61 [.int (F_X9_isUnprepared σ7), .ref 229] 0 0 rfl rfl rfl rfl ?_
          by_cases c9 : (F_X9_isUnprepared σ7) = 0
          · rw [if_pos c9] at hF
            refine q_go C tk_X9_protests [(33, 3), (37, 1)] [false] (pc1 := 70) (σ1 := σ7) (lv1 := [(0, .ref 229), (1, .int b), (2, .int a), (3, .int k)]) (st1 := [.int 3, .int 1, .ref 229]) rfl ⟨c9, trivial⟩ ?_
            refine q_callV C hfl mw_X9_isThrown mi_X9_isThrown me_X9_isThrown lk_X9_63 (k_X9_isThrownN 1 3 σ7 (by decide) (by decide)) (rest := []) rfl rfl rfl (by decide) (by decide) rfl (q_dc (z := (70, .invokevirtual 63, 3, 0, 0)) tk_X9_protests 38 rfl) (Nat.le_of_ble_eq_true rfl) ⟨Nat.le_of_ble_eq_true rfl, Nat.le_of_ble_eq_true rfl⟩ ⟨Nat.le_of_ble_eq_true rfl, Nat.le_of_ble_eq_true rfl⟩ ?_
            refine q_nrm 73 [.int 1] 0 0 rfl rfl rfl rfl ?_
            refine q_go C tk_X9_protests [(39, 2)] [false] (pc1 := 77) (σ1 := (q_up σ7 229 5 3)) (lv1 := [(0, .ref 229), (1, .int b), (2, .int a), (3, .int k)]) (st1 := [.int 0]) rfl ⟨(by decide : ¬ (1 : Int32) = 0), trivial⟩ ?_
            exact q_iret C hr (q_dc (z := (77, .ireturn, 1, 0, 0)) tk_X9_protests 41 rfl) (congrArg Prod.snd hF) (congrArg (fun z => q_oi z.1) hF.symm) (Nat.le_of_ble_eq_true rfl) (Nat.le_of_ble_eq_true rfl)
          · rw [if_neg c9] at hF
            refine q_go C tk_X9_protests [(33, 1), (36, 2)] [true] (pc1 := 70) (σ1 := σ7) (lv1 := [(0, .ref 229), (1, .int b), (2, .int a), (3, .int k)]) (st1 := [.int 3, .int 0, .ref 229]) rfl ⟨c9, trivial⟩ ?_
            refine q_callV C hfl mw_X9_isThrown mi_X9_isThrown me_X9_isThrown lk_X9_63 (k_X9_isThrownZ 0 3 σ7 (by decide)) (rest := []) rfl rfl rfl (by decide) (by decide) rfl (q_dc (z := (70, .invokevirtual 63, 3, 0, 0)) tk_X9_protests 38 rfl) (Nat.le_of_ble_eq_true rfl) ⟨Nat.le_of_ble_eq_true rfl, Nat.le_of_ble_eq_true rfl⟩ ⟨Nat.le_of_ble_eq_true rfl, Nat.le_of_ble_eq_true rfl⟩ ?_
            refine q_nrm 73 [.int 0] 0 0 rfl rfl rfl rfl ?_
            refine q_go C tk_X9_protests [(39, 1), (42, 5)] [true] (pc1 := 84) (σ1 := (q_up σ7 229 5 0)) (lv1 := [(0, .ref 229), (1, .int b), (2, .int a), (3, .int k)]) (st1 := [.int (11 + k), .int a, .ref 229]) rfl ⟨(by decide : (0 : Int32) = 0), trivial⟩ ?_
            generalize e11 : (q_up σ7 229 5 0) = σ10
            replace hF := q_let e11 hF
            refine q_callV C hfl mw_X9_of mi_X9_of me_X9_of lk_X9_52 (k_X9_of a (11 + k) σ10 ((((((((hP.2 c1).2 c2) σ3 e4).2 c5).2 c6) σ7 e8).2 c9) σ10 e11).1) (rest := []) rfl rfl rfl (by decide) (by decide) rfl (q_dc (z := (84, .invokevirtual 52, 3, 0, 0)) tk_X9_protests 47 rfl) (Nat.le_of_ble_eq_true rfl) ⟨Nat.le_of_ble_eq_true rfl, Nat.le_of_ble_eq_true rfl⟩ ⟨Nat.le_of_ble_eq_true rfl, Nat.le_of_ble_eq_true rfl⟩ ?_
            refine q_nrm 87 [.int (F_X9_of a (11 + k) σ10)] 0 0 rfl rfl rfl rfl ?_
            refine q_go C tk_X9_protests [(48, 1)] [] (pc1 := 88) (σ1 := σ10) (lv1 := [(0, .ref 229), (1, .int b), (2, .int a), (3, .int k)]) (st1 := [.int 1, .int (F_X9_of a (11 + k) σ10)]) rfl trivial ?_
            refine q_mrg (v := (if (F_X9_of a (11 + k) σ10) = 1 then 1 else 0)) (M := 96) (σ1 := σ10) (lv1 := [(0, .ref 229), (1, .int b), (2, .int a), (3, .int k)]) (st1 := []) (fun x13 e14 => ?_) (fun K => ?_)
            · replace hF := q_let e14 hF
              refine q_go C tk_X9_protests [(53, 2)] [] (pc1 := 100) (σ1 := σ10) (lv1 := [(4, .int x13), (0, .ref 229), (1, .int b), (2, .int a), (3, .int k)]) (st1 := [.int x13]) rfl trivial ?_
              by_cases c15 : x13 = 0
              · rw [if_pos c15] at hF
                refine q_go C tk_X9_protests [(55, 1), (74, 6)] [true] (pc1 := 137) (σ1 := σ10) (lv1 := [(4, .int x13), (0, .ref 229), (1, .int b), (2, .int a), (3, .int k)]) (st1 := [.int 5, .int b, .ref 229, .int 5, .int b, .ref 229]) rfl ⟨c15, trivial⟩ ?_
                refine q_callV C hfl mw_X9_of mi_X9_of me_X9_of lk_X9_52 (k_X9_of b 5 σ10 ((((((((((hP.2 c1).2 c2) σ3 e4).2 c5).2 c6) σ7 e8).2 c9) σ10 e11).2.2 x13 e14).1 c15).1) (rest := [.int 5, .int b, .ref 229]) rfl rfl rfl (by decide) (by decide) rfl (q_dc (z := (137, .invokevirtual 52, 3, 0, 0)) tk_X9_protests 80 rfl) (Nat.le_of_ble_eq_true rfl) ⟨Nat.le_of_ble_eq_true rfl, Nat.le_of_ble_eq_true rfl⟩ ⟨Nat.le_of_ble_eq_true rfl, Nat.le_of_ble_eq_true rfl⟩ ?_
                refine q_nrm 140 [.int (F_X9_of b 5 σ10), .int 5, .int b, .ref 229] 0 0 rfl rfl rfl rfl ?_
                refine q_go C tk_X9_protests [(81, 2)] [] (pc1 := 142) (σ1 := σ10) (lv1 := [(4, .int x13), (0, .ref 229), (1, .int b), (2, .int a), (3, .int k)]) (st1 := [.int ((F_X9_of b 5 σ10) + 5), .int 5, .int b, .ref 229]) rfl trivial ?_
                refine q_callV C hfl mw_X9_sets mi_X9_sets me_X9_sets lk_X9_67 (k_X9_sets b 5 ((F_X9_of b 5 σ10) + 5) σ10 ((((((((((hP.2 c1).2 c2) σ3 e4).2 c5).2 c6) σ7 e8).2 c9) σ10 e11).2.2 x13 e14).1 c15).2.1) (rest := []) rfl rfl rfl (by decide) (by decide) rfl (q_dc (z := (142, .invokevirtual 67, 3, 0, 0)) tk_X9_protests 83 rfl) (Nat.le_of_ble_eq_true rfl) ⟨Nat.le_of_ble_eq_true rfl, Nat.le_of_ble_eq_true rfl⟩ ⟨Nat.le_of_ble_eq_true rfl, Nat.le_of_ble_eq_true rfl⟩ ?_
                refine q_nrm 145 [] 0 0 rfl rfl rfl rfl ?_
                generalize e17 : (F_X9_sets b 5 ((F_X9_of b 5 σ10) + 5) σ10) = σ16
                replace hF := q_let e17 hF
                refine q_go C tk_X9_protests [(84, 2), (88, 1)] [true] (pc1 := 155) (σ1 := σ16) (lv1 := [(4, .int x13), (0, .ref 229), (1, .int b), (2, .int a), (3, .int k)]) (st1 := [.int 0]) rfl ⟨c15, trivial⟩ ?_
                exact q_iret C hr (q_dc (z := (155, .ireturn, 1, 0, 0)) tk_X9_protests 89 rfl) (congrArg Prod.snd hF) (congrArg (fun z => q_oi z.1) hF.symm) (Nat.le_of_ble_eq_true rfl) (Nat.le_of_ble_eq_true rfl)
              · rw [if_neg c15] at hF
                refine q_go C tk_X9_protests [(55, 7)] [false] (pc1 := 110) (σ1 := σ10) (lv1 := [(4, .int x13), (0, .ref 229), (1, .int b), (2, .int a), (3, .int k)]) (st1 := [.int 0, .int (11 + k), .int a, .ref 229]) rfl ⟨c15, trivial⟩ ?_
                refine q_callV C hfl mw_X9_sets mi_X9_sets me_X9_sets lk_X9_67 (k_X9_sets a (11 + k) 0 σ10 ((((((((((hP.2 c1).2 c2) σ3 e4).2 c5).2 c6) σ7 e8).2 c9) σ10 e11).2.2 x13 e14).2 c15).1) (rest := []) rfl rfl rfl (by decide) (by decide) rfl (q_dc (z := (110, .invokevirtual 67, 3, 0, 0)) tk_X9_protests 62 rfl) (Nat.le_of_ble_eq_true rfl) ⟨Nat.le_of_ble_eq_true rfl, Nat.le_of_ble_eq_true rfl⟩ ⟨Nat.le_of_ble_eq_true rfl, Nat.le_of_ble_eq_true rfl⟩ ?_
                refine q_nrm 113 [] 0 0 rfl rfl rfl rfl ?_
                generalize e19 : (F_X9_sets a (11 + k) 0 σ10) = σ18
                replace hF := q_let e19 hF
                refine q_go C tk_X9_protests [(63, 6)] [] (pc1 := 119) (σ1 := σ18) (lv1 := [(4, .int x13), (0, .ref 229), (1, .int b), (2, .int a), (3, .int k)]) (st1 := [.int 5, .int a, .ref 229, .int 5, .int a, .ref 229]) rfl trivial ?_
                refine q_callV C hfl mw_X9_of mi_X9_of me_X9_of lk_X9_52 (k_X9_of a 5 σ18 (((((((((((hP.2 c1).2 c2) σ3 e4).2 c5).2 c6) σ7 e8).2 c9) σ10 e11).2.2 x13 e14).2 c15).2 σ18 e19).1) (rest := [.int 5, .int a, .ref 229]) rfl rfl rfl (by decide) (by decide) rfl (q_dc (z := (119, .invokevirtual 52, 3, 0, 0)) tk_X9_protests 69 rfl) (Nat.le_of_ble_eq_true rfl) ⟨Nat.le_of_ble_eq_true rfl, Nat.le_of_ble_eq_true rfl⟩ ⟨Nat.le_of_ble_eq_true rfl, Nat.le_of_ble_eq_true rfl⟩ ?_
                refine q_nrm 122 [.int (F_X9_of a 5 σ18), .int 5, .int a, .ref 229] 0 0 rfl rfl rfl rfl ?_
                refine q_go C tk_X9_protests [(70, 2)] [] (pc1 := 125) (σ1 := σ18) (lv1 := [(4, .int x13), (0, .ref 229), (1, .int b), (2, .int a), (3, .int k)]) (st1 := [.int ((F_X9_of a 5 σ18) + 10), .int 5, .int a, .ref 229]) rfl trivial ?_
                refine q_callV C hfl mw_X9_sets mi_X9_sets me_X9_sets lk_X9_67 (k_X9_sets a 5 ((F_X9_of a 5 σ18) + 10) σ18 (((((((((((hP.2 c1).2 c2) σ3 e4).2 c5).2 c6) σ7 e8).2 c9) σ10 e11).2.2 x13 e14).2 c15).2 σ18 e19).2.1) (rest := []) rfl rfl rfl (by decide) (by decide) rfl (q_dc (z := (125, .invokevirtual 67, 3, 0, 0)) tk_X9_protests 72 rfl) (Nat.le_of_ble_eq_true rfl) ⟨Nat.le_of_ble_eq_true rfl, Nat.le_of_ble_eq_true rfl⟩ ⟨Nat.le_of_ble_eq_true rfl, Nat.le_of_ble_eq_true rfl⟩ ?_
                refine q_nrm 128 [] 0 0 rfl rfl rfl rfl ?_
                generalize e21 : (F_X9_sets a 5 ((F_X9_of a 5 σ18) + 10) σ18) = σ20
                replace hF := q_let e21 hF
                refine q_go C tk_X9_protests [(73, 1), (84, 4)] [false] (pc1 := 155) (σ1 := σ20) (lv1 := [(4, .int x13), (0, .ref 229), (1, .int b), (2, .int a), (3, .int k)]) (st1 := [.int 1]) rfl ⟨c15, trivial⟩ ?_
                exact q_iret C hr (q_dc (z := (155, .ireturn, 1, 0, 0)) tk_X9_protests 89 rfl) (congrArg Prod.snd hF) (congrArg (fun z => q_oi z.1) hF.symm) (Nat.le_of_ble_eq_true rfl) (Nat.le_of_ble_eq_true rfl)
            · clear hF
              by_cases c12 : (F_X9_of a (11 + k) σ10) = 1
              · skip
                refine q_go C tk_X9_protests [(49, 3)] [false] (pc1 := 96) (σ1 := σ10) (lv1 := [(0, .ref 229), (1, .int b), (2, .int a), (3, .int k)]) (st1 := [.int 1]) rfl ⟨c12, trivial⟩ ?_
                rw [if_pos c12] at K; exact K
              · skip
                refine q_go C tk_X9_protests [(49, 1), (52, 1)] [true] (pc1 := 96) (σ1 := σ10) (lv1 := [(0, .ref 229), (1, .int b), (2, .int a), (3, .int k)]) (st1 := [.int 0]) rfl ⟨c12, trivial⟩ ?_
                rw [if_neg c12] at K; exact K
def F_X9_ofTeam (t : Int32) (w : Int32) (σ : q_M) : (Int32) × q_M := (if (F_X9_isTeam t σ) = 0 then (0, (q_up σ 229 5 1)) else (q_L (q_up σ 229 5 0) (fun σ2 : q_M => ((F_X9_of t w σ2), σ2))))
def P_X9_ofTeam (t : Int32) (w : Int32) (σ : q_M) : Prop := (((F_X9_isTeam t σ) = 0 → True) ∧ (¬ (F_X9_isTeam t σ) = 0 → (∀ σ2 : q_M, (q_up σ 229 5 0) = σ2 → ((P_X9_of t w σ2) ∧ True))))
set_option maxRecDepth 100000 in
theorem k_X9_ofTeam {α β : Nat → Nat} {D : va_G} {κ : Nat → ClassId} (t : Int32) (w : Int32) (σ : q_M) (hP : P_X9_ofTeam t w σ) : q_C α β D κ yX9_ofTeam cX9_ofTeam 3 (Option.some Jvm.ClassFile.FieldType.int) 2 43 0 0 [.ref 229, .int t, .int w] σ (q_oi (F_X9_ofTeam t w σ).1) (F_X9_ofTeam t w σ).2 := by
  refine q_enter (own := RX9) (F := F_X9) (G := G_X9) (by decide +kernel) rfl Fok_X9 Gok_X9 (Nat.le_of_ble_eq_true rfl) (fun p l e s m args below meth c A hfl C hr hT => ?_)
  generalize hF : F_X9_ofTeam t w σ = rr
  unfold F_X9_ofTeam at hF
  refine q_go C tk_X9_ofTeam [(0, 3)] [] (pc1 := 3) (σ1 := σ) (lv1 := [(0, .ref 229), (1, .int t), (2, .int w)]) (st1 := [.int t, .ref 229, .ref 229]) rfl trivial ?_
  refine q_callV C hfl mw_X9_isTeam mi_X9_isTeam me_X9_isTeam lk_X9_75 (k_X9_isTeam t σ) (rest := [.ref 229]) rfl rfl rfl (by decide) (by decide) rfl (q_dc (z := (3, .invokevirtual 75, 3, 0, 0)) tk_X9_ofTeam 3 rfl) (Nat.le_of_ble_eq_true rfl) ⟨Nat.le_of_ble_eq_true rfl, Nat.le_of_ble_eq_true rfl⟩ ⟨Nat.le_of_ble_eq_true rfl, Nat.le_of_ble_eq_true rfl⟩ ?_
  refine q_nrm 6 [.int (F_X9_isTeam t σ), .ref 229] 0 0 rfl rfl rfl rfl ?_
  by_cases c1 : (F_X9_isTeam t σ) = 0
  · rw [if_pos c1] at hF
    refine q_go C tk_X9_ofTeam [(4, 3), (8, 1)] [false] (pc1 := 15) (σ1 := σ) (lv1 := [(0, .ref 229), (1, .int t), (2, .int w)]) (st1 := [.int 1, .int 1, .ref 229]) rfl ⟨c1, trivial⟩ ?_
    refine q_callV C hfl mw_X9_isThrown mi_X9_isThrown me_X9_isThrown lk_X9_63 (k_X9_isThrownN 1 1 σ (by decide) (by decide)) (rest := []) rfl rfl rfl (by decide) (by decide) rfl (q_dc (z := (15, .invokevirtual 63, 3, 0, 0)) tk_X9_ofTeam 9 rfl) (Nat.le_of_ble_eq_true rfl) ⟨Nat.le_of_ble_eq_true rfl, Nat.le_of_ble_eq_true rfl⟩ ⟨Nat.le_of_ble_eq_true rfl, Nat.le_of_ble_eq_true rfl⟩ ?_
    refine q_nrm 18 [.int 1] 0 0 rfl rfl rfl rfl ?_
    refine q_go C tk_X9_ofTeam [(10, 3)] [false] (pc1 := 31) (σ1 := (q_up σ 229 5 1)) (lv1 := [(0, .ref 229), (1, .int t), (2, .int w)]) (st1 := [.int 0]) rfl ⟨(by decide : ¬ (1 : Int32) = 0), trivial⟩ ?_
    exact q_iret C hr (q_dc (z := (31, .ireturn, 1, 0, 0)) tk_X9_ofTeam 17 rfl) (congrArg Prod.snd hF) (congrArg (fun z => q_oi z.1) hF.symm) (Nat.le_of_ble_eq_true rfl) (Nat.le_of_ble_eq_true rfl)
  · rw [if_neg c1] at hF
    refine q_go C tk_X9_ofTeam [(4, 1), (7, 2)] [true] (pc1 := 15) (σ1 := σ) (lv1 := [(0, .ref 229), (1, .int t), (2, .int w)]) (st1 := [.int 1, .int 0, .ref 229]) rfl ⟨c1, trivial⟩ ?_
    refine q_callV C hfl mw_X9_isThrown mi_X9_isThrown me_X9_isThrown lk_X9_63 (k_X9_isThrownZ 0 1 σ (by decide)) (rest := []) rfl rfl rfl (by decide) (by decide) rfl (q_dc (z := (15, .invokevirtual 63, 3, 0, 0)) tk_X9_ofTeam 9 rfl) (Nat.le_of_ble_eq_true rfl) ⟨Nat.le_of_ble_eq_true rfl, Nat.le_of_ble_eq_true rfl⟩ ⟨Nat.le_of_ble_eq_true rfl, Nat.le_of_ble_eq_true rfl⟩ ?_
    refine q_nrm 18 [.int 0] 0 0 rfl rfl rfl rfl ?_
    refine q_go C tk_X9_ofTeam [(10, 1), (13, 3)] [true] (pc1 := 28) (σ1 := (q_up σ 229 5 0)) (lv1 := [(0, .ref 229), (1, .int t), (2, .int w)]) (st1 := [.int w, .int t, .ref 229]) rfl ⟨(by decide : (0 : Int32) = 0), trivial⟩ ?_
    generalize e3 : (q_up σ 229 5 0) = σ2
    replace hF := q_let e3 hF
    refine q_callV C hfl mw_X9_of mi_X9_of me_X9_of lk_X9_52 (k_X9_of t w σ2 ((hP.2 c1) σ2 e3).1) (rest := []) rfl rfl rfl (by decide) (by decide) rfl (q_dc (z := (28, .invokevirtual 52, 3, 0, 0)) tk_X9_ofTeam 16 rfl) (Nat.le_of_ble_eq_true rfl) ⟨Nat.le_of_ble_eq_true rfl, Nat.le_of_ble_eq_true rfl⟩ ⟨Nat.le_of_ble_eq_true rfl, Nat.le_of_ble_eq_true rfl⟩ ?_
    refine q_nrm 31 [.int (F_X9_of t w σ2)] 0 0 rfl rfl rfl rfl ?_
    exact q_iret C hr (q_dc (z := (31, .ireturn, 1, 0, 0)) tk_X9_ofTeam 17 rfl) (congrArg Prod.snd hF) (congrArg (fun z => q_oi z.1) hF.symm) (Nat.le_of_ble_eq_true rfl) (Nat.le_of_ble_eq_true rfl)
def F_X9_laneOf (t : Int32) (σ : q_M) : (Int32) × q_M := (q_L (F_X9_ofTeam t 4 σ).2 (fun σ1 : q_M => ((F_X9_ofTeam t 4 σ).1, σ1)))
def P_X9_laneOf (t : Int32) (σ : q_M) : Prop := ((P_X9_ofTeam t 4 σ) ∧ True)
set_option maxRecDepth 100000 in
theorem k_X9_laneOf {α β : Nat → Nat} {D : va_G} {κ : Nat → ClassId} (t : Int32) (σ : q_M) (hP : P_X9_laneOf t σ) : q_C α β D κ yX9_laneOf cX9_laneOf 2 (Option.some Jvm.ClassFile.FieldType.int) 3 65 0 0 [.ref 229, .int t] σ (q_oi (F_X9_laneOf t σ).1) (F_X9_laneOf t σ).2 := by
  refine q_enter (own := RX9) (F := F_X9) (G := G_X9) (by decide +kernel) rfl Fok_X9 Gok_X9 (Nat.le_of_ble_eq_true rfl) (fun p l e s m args below meth c A hfl C hr hT => ?_)
  generalize hF : F_X9_laneOf t σ = rr
  unfold F_X9_laneOf at hF
  refine q_go C tk_X9_laneOf [(0, 3)] [] (pc1 := 3) (σ1 := σ) (lv1 := [(0, .ref 229), (1, .int t)]) (st1 := [.int 4, .int t, .ref 229]) rfl trivial ?_
  refine q_callV C hfl mw_X9_ofTeam mi_X9_ofTeam me_X9_ofTeam lk_X9_145 (k_X9_ofTeam t 4 σ hP.1) (rest := []) rfl rfl rfl (by decide) (by decide) rfl (q_dc (z := (3, .invokevirtual 145, 3, 0, 0)) tk_X9_laneOf 3 rfl) (Nat.le_of_ble_eq_true rfl) ⟨Nat.le_of_ble_eq_true rfl, Nat.le_of_ble_eq_true rfl⟩ ⟨Nat.le_of_ble_eq_true rfl, Nat.le_of_ble_eq_true rfl⟩ ?_
  refine q_nrm 6 [.int (F_X9_ofTeam t 4 σ).1] 0 0 rfl rfl rfl rfl ?_
  generalize e2 : (F_X9_ofTeam t 4 σ).2 = σ1
  replace hF := q_let e2 hF
  exact q_iret C hr (q_dc (z := (6, .ireturn, 1, 0, 0)) tk_X9_laneOf 4 rfl) (congrArg Prod.snd hF) (congrArg (fun z => q_oi z.1) hF.symm) (Nat.le_of_ble_eq_true rfl) (Nat.le_of_ble_eq_true rfl)
def F_X9_positionOf (t : Int32) (σ : q_M) : (Int32) × q_M := (q_L (F_X9_ofTeam t 7 σ).2 (fun σ1 : q_M => ((F_X9_ofTeam t 7 σ).1, σ1)))
def P_X9_positionOf (t : Int32) (σ : q_M) : Prop := ((P_X9_ofTeam t 7 σ) ∧ True)
set_option maxRecDepth 100000 in
theorem k_X9_positionOf {α β : Nat → Nat} {D : va_G} {κ : Nat → ClassId} (t : Int32) (σ : q_M) (hP : P_X9_positionOf t σ) : q_C α β D κ yX9_positionOf cX9_positionOf 2 (Option.some Jvm.ClassFile.FieldType.int) 3 65 0 0 [.ref 229, .int t] σ (q_oi (F_X9_positionOf t σ).1) (F_X9_positionOf t σ).2 := by
  refine q_enter (own := RX9) (F := F_X9) (G := G_X9) (by decide +kernel) rfl Fok_X9 Gok_X9 (Nat.le_of_ble_eq_true rfl) (fun p l e s m args below meth c A hfl C hr hT => ?_)
  generalize hF : F_X9_positionOf t σ = rr
  unfold F_X9_positionOf at hF
  refine q_go C tk_X9_positionOf [(0, 3)] [] (pc1 := 4) (σ1 := σ) (lv1 := [(0, .ref 229), (1, .int t)]) (st1 := [.int 7, .int t, .ref 229]) rfl trivial ?_
  refine q_callV C hfl mw_X9_ofTeam mi_X9_ofTeam me_X9_ofTeam lk_X9_145 (k_X9_ofTeam t 7 σ hP.1) (rest := []) rfl rfl rfl (by decide) (by decide) rfl (q_dc (z := (4, .invokevirtual 145, 3, 0, 0)) tk_X9_positionOf 3 rfl) (Nat.le_of_ble_eq_true rfl) ⟨Nat.le_of_ble_eq_true rfl, Nat.le_of_ble_eq_true rfl⟩ ⟨Nat.le_of_ble_eq_true rfl, Nat.le_of_ble_eq_true rfl⟩ ?_
  refine q_nrm 7 [.int (F_X9_ofTeam t 7 σ).1] 0 0 rfl rfl rfl rfl ?_
  generalize e2 : (F_X9_ofTeam t 7 σ).2 = σ1
  replace hF := q_let e2 hF
  exact q_iret C hr (q_dc (z := (7, .ireturn, 1, 0, 0)) tk_X9_positionOf 4 rfl) (congrArg Prod.snd hF) (congrArg (fun z => q_oi z.1) hF.symm) (Nat.le_of_ble_eq_true rfl) (Nat.le_of_ble_eq_true rfl)
def F_X9_legOf (t : Int32) (σ : q_M) : (Int32) × q_M := (q_L (F_X9_ofTeam t 8 σ).2 (fun σ1 : q_M => ((F_X9_ofTeam t 8 σ).1, σ1)))
def P_X9_legOf (t : Int32) (σ : q_M) : Prop := ((P_X9_ofTeam t 8 σ) ∧ True)
set_option maxRecDepth 100000 in
theorem k_X9_legOf {α β : Nat → Nat} {D : va_G} {κ : Nat → ClassId} (t : Int32) (σ : q_M) (hP : P_X9_legOf t σ) : q_C α β D κ yX9_legOf cX9_legOf 2 (Option.some Jvm.ClassFile.FieldType.int) 3 65 0 0 [.ref 229, .int t] σ (q_oi (F_X9_legOf t σ).1) (F_X9_legOf t σ).2 := by
  refine q_enter (own := RX9) (F := F_X9) (G := G_X9) (by decide +kernel) rfl Fok_X9 Gok_X9 (Nat.le_of_ble_eq_true rfl) (fun p l e s m args below meth c A hfl C hr hT => ?_)
  generalize hF : F_X9_legOf t σ = rr
  unfold F_X9_legOf at hF
  refine q_go C tk_X9_legOf [(0, 3)] [] (pc1 := 4) (σ1 := σ) (lv1 := [(0, .ref 229), (1, .int t)]) (st1 := [.int 8, .int t, .ref 229]) rfl trivial ?_
  refine q_callV C hfl mw_X9_ofTeam mi_X9_ofTeam me_X9_ofTeam lk_X9_145 (k_X9_ofTeam t 8 σ hP.1) (rest := []) rfl rfl rfl (by decide) (by decide) rfl (q_dc (z := (4, .invokevirtual 145, 3, 0, 0)) tk_X9_legOf 3 rfl) (Nat.le_of_ble_eq_true rfl) ⟨Nat.le_of_ble_eq_true rfl, Nat.le_of_ble_eq_true rfl⟩ ⟨Nat.le_of_ble_eq_true rfl, Nat.le_of_ble_eq_true rfl⟩ ?_
  refine q_nrm 7 [.int (F_X9_ofTeam t 8 σ).1] 0 0 rfl rfl rfl rfl ?_
  generalize e2 : (F_X9_ofTeam t 8 σ).2 = σ1
  replace hF := q_let e2 hF
  exact q_iret C hr (q_dc (z := (7, .ireturn, 1, 0, 0)) tk_X9_legOf 4 rfl) (congrArg Prod.snd hF) (congrArg (fun z => q_oi z.1) hF.symm) (Nat.le_of_ble_eq_true rfl) (Nat.le_of_ble_eq_true rfl)
def F_X9_standingOf (t : Int32) (σ : q_M) : (Int32) × q_M := (q_L (F_X9_ofTeam t 10 σ).2 (fun σ1 : q_M => ((F_X9_ofTeam t 10 σ).1, σ1)))
def P_X9_standingOf (t : Int32) (σ : q_M) : Prop := ((P_X9_ofTeam t 10 σ) ∧ True)
set_option maxRecDepth 100000 in
theorem k_X9_standingOf {α β : Nat → Nat} {D : va_G} {κ : Nat → ClassId} (t : Int32) (σ : q_M) (hP : P_X9_standingOf t σ) : q_C α β D κ yX9_standingOf cX9_standingOf 2 (Option.some Jvm.ClassFile.FieldType.int) 3 65 0 0 [.ref 229, .int t] σ (q_oi (F_X9_standingOf t σ).1) (F_X9_standingOf t σ).2 := by
  refine q_enter (own := RX9) (F := F_X9) (G := G_X9) (by decide +kernel) rfl Fok_X9 Gok_X9 (Nat.le_of_ble_eq_true rfl) (fun p l e s m args below meth c A hfl C hr hT => ?_)
  generalize hF : F_X9_standingOf t σ = rr
  unfold F_X9_standingOf at hF
  refine q_go C tk_X9_standingOf [(0, 3)] [] (pc1 := 4) (σ1 := σ) (lv1 := [(0, .ref 229), (1, .int t)]) (st1 := [.int 10, .int t, .ref 229]) rfl trivial ?_
  refine q_callV C hfl mw_X9_ofTeam mi_X9_ofTeam me_X9_ofTeam lk_X9_145 (k_X9_ofTeam t 10 σ hP.1) (rest := []) rfl rfl rfl (by decide) (by decide) rfl (q_dc (z := (4, .invokevirtual 145, 3, 0, 0)) tk_X9_standingOf 3 rfl) (Nat.le_of_ble_eq_true rfl) ⟨Nat.le_of_ble_eq_true rfl, Nat.le_of_ble_eq_true rfl⟩ ⟨Nat.le_of_ble_eq_true rfl, Nat.le_of_ble_eq_true rfl⟩ ?_
  refine q_nrm 7 [.int (F_X9_ofTeam t 10 σ).1] 0 0 rfl rfl rfl rfl ?_
  generalize e2 : (F_X9_ofTeam t 10 σ).2 = σ1
  replace hF := q_let e2 hF
  exact q_iret C hr (q_dc (z := (7, .ireturn, 1, 0, 0)) tk_X9_standingOf 4 rfl) (congrArg Prod.snd hF) (congrArg (fun z => q_oi z.1) hF.symm) (Nat.le_of_ble_eq_true rfl) (Nat.le_of_ble_eq_true rfl)
def F_X9_penaltyOf (t : Int32) (σ : q_M) : (Int32) × q_M := (q_L (F_X9_ofTeam t 5 σ).2 (fun σ1 : q_M => ((F_X9_ofTeam t 5 σ).1, σ1)))
def P_X9_penaltyOf (t : Int32) (σ : q_M) : Prop := ((P_X9_ofTeam t 5 σ) ∧ True)
set_option maxRecDepth 100000 in
theorem k_X9_penaltyOf {α β : Nat → Nat} {D : va_G} {κ : Nat → ClassId} (t : Int32) (σ : q_M) (hP : P_X9_penaltyOf t σ) : q_C α β D κ yX9_penaltyOf cX9_penaltyOf 2 (Option.some Jvm.ClassFile.FieldType.int) 3 65 0 0 [.ref 229, .int t] σ (q_oi (F_X9_penaltyOf t σ).1) (F_X9_penaltyOf t σ).2 := by
  refine q_enter (own := RX9) (F := F_X9) (G := G_X9) (by decide +kernel) rfl Fok_X9 Gok_X9 (Nat.le_of_ble_eq_true rfl) (fun p l e s m args below meth c A hfl C hr hT => ?_)
  generalize hF : F_X9_penaltyOf t σ = rr
  unfold F_X9_penaltyOf at hF
  refine q_go C tk_X9_penaltyOf [(0, 3)] [] (pc1 := 3) (σ1 := σ) (lv1 := [(0, .ref 229), (1, .int t)]) (st1 := [.int 5, .int t, .ref 229]) rfl trivial ?_
  refine q_callV C hfl mw_X9_ofTeam mi_X9_ofTeam me_X9_ofTeam lk_X9_145 (k_X9_ofTeam t 5 σ hP.1) (rest := []) rfl rfl rfl (by decide) (by decide) rfl (q_dc (z := (3, .invokevirtual 145, 3, 0, 0)) tk_X9_penaltyOf 3 rfl) (Nat.le_of_ble_eq_true rfl) ⟨Nat.le_of_ble_eq_true rfl, Nat.le_of_ble_eq_true rfl⟩ ⟨Nat.le_of_ble_eq_true rfl, Nat.le_of_ble_eq_true rfl⟩ ?_
  refine q_nrm 6 [.int (F_X9_ofTeam t 5 σ).1] 0 0 rfl rfl rfl rfl ?_
  generalize e2 : (F_X9_ofTeam t 5 σ).2 = σ1
  replace hF := q_let e2 hF
  exact q_iret C hr (q_dc (z := (6, .ireturn, 1, 0, 0)) tk_X9_penaltyOf 4 rfl) (congrArg Prod.snd hF) (congrArg (fun z => q_oi z.1) hF.symm) (Nat.le_of_ble_eq_true rfl) (Nat.le_of_ble_eq_true rfl)
def F_X9_speedOf (t : Int32) (g : Int32) (σ : q_M) : (Int32) × q_M := (if (F_X9_isTeam t σ) = 0 then (0, (q_up σ 229 5 1)) else (if (F_X9_isLeg g σ) = 0 then (0, (q_up σ 229 5 1)) else (q_L (q_up σ 229 5 0) (fun σ3 : q_M => ((F_X9_of t (0 + g) σ3), σ3)))))
def P_X9_speedOf (t : Int32) (g : Int32) (σ : q_M) : Prop := (((F_X9_isTeam t σ) = 0 → True) ∧ (¬ (F_X9_isTeam t σ) = 0 → (((F_X9_isLeg g σ) = 0 → True) ∧ (¬ (F_X9_isLeg g σ) = 0 → (∀ σ3 : q_M, (q_up σ 229 5 0) = σ3 → ((P_X9_of t (0 + g) σ3) ∧ True))))))
set_option maxRecDepth 100000 in
theorem k_X9_speedOf {α β : Nat → Nat} {D : va_G} {κ : Nat → ClassId} (t : Int32) (g : Int32) (σ : q_M) (hP : P_X9_speedOf t g σ) : q_C α β D κ yX9_speedOf cX9_speedOf 3 (Option.some Jvm.ClassFile.FieldType.int) 2 43 0 0 [.ref 229, .int t, .int g] σ (q_oi (F_X9_speedOf t g σ).1) (F_X9_speedOf t g σ).2 := by
  refine q_enter (own := RX9) (F := F_X9) (G := G_X9) (by decide +kernel) rfl Fok_X9 Gok_X9 (Nat.le_of_ble_eq_true rfl) (fun p l e s m args below meth c A hfl C hr hT => ?_)
  generalize hF : F_X9_speedOf t g σ = rr
  unfold F_X9_speedOf at hF
  refine q_go C tk_X9_speedOf [(0, 3)] [] (pc1 := 3) (σ1 := σ) (lv1 := [(0, .ref 229), (1, .int t), (2, .int g)]) (st1 := [.int t, .ref 229, .ref 229]) rfl trivial ?_
  refine q_callV C hfl mw_X9_isTeam mi_X9_isTeam me_X9_isTeam lk_X9_75 (k_X9_isTeam t σ) (rest := [.ref 229]) rfl rfl rfl (by decide) (by decide) rfl (q_dc (z := (3, .invokevirtual 75, 3, 0, 0)) tk_X9_speedOf 3 rfl) (Nat.le_of_ble_eq_true rfl) ⟨Nat.le_of_ble_eq_true rfl, Nat.le_of_ble_eq_true rfl⟩ ⟨Nat.le_of_ble_eq_true rfl, Nat.le_of_ble_eq_true rfl⟩ ?_
  refine q_nrm 6 [.int (F_X9_isTeam t σ), .ref 229] 0 0 rfl rfl rfl rfl ?_
  by_cases c1 : (F_X9_isTeam t σ) = 0
  · rw [if_pos c1] at hF
    refine q_go C tk_X9_speedOf [(4, 1), (8, 2), (11, 1)] [true] (pc1 := 22) (σ1 := σ) (lv1 := [(0, .ref 229), (1, .int t), (2, .int g)]) (st1 := [.int 1, .int 1, .ref 229]) rfl ⟨c1, trivial⟩ ?_
    refine q_callV C hfl mw_X9_isThrown mi_X9_isThrown me_X9_isThrown lk_X9_63 (k_X9_isThrownN 1 1 σ (by decide) (by decide)) (rest := []) rfl rfl rfl (by decide) (by decide) rfl (q_dc (z := (22, .invokevirtual 63, 3, 0, 0)) tk_X9_speedOf 12 rfl) (Nat.le_of_ble_eq_true rfl) ⟨Nat.le_of_ble_eq_true rfl, Nat.le_of_ble_eq_true rfl⟩ ⟨Nat.le_of_ble_eq_true rfl, Nat.le_of_ble_eq_true rfl⟩ ?_
    refine q_nrm 25 [.int 1] 0 0 rfl rfl rfl rfl ?_
    refine q_go C tk_X9_speedOf [(13, 3)] [false] (pc1 := 40) (σ1 := (q_up σ 229 5 1)) (lv1 := [(0, .ref 229), (1, .int t), (2, .int g)]) (st1 := [.int 0]) rfl ⟨(by decide : ¬ (1 : Int32) = 0), trivial⟩ ?_
    exact q_iret C hr (q_dc (z := (40, .ireturn, 1, 0, 0)) tk_X9_speedOf 22 rfl) (congrArg Prod.snd hF) (congrArg (fun z => q_oi z.1) hF.symm) (Nat.le_of_ble_eq_true rfl) (Nat.le_of_ble_eq_true rfl)
  · rw [if_neg c1] at hF
    refine q_go C tk_X9_speedOf [(4, 2)] [false] (pc1 := 10) (σ1 := σ) (lv1 := [(0, .ref 229), (1, .int t), (2, .int g)]) (st1 := [.int g, .ref 229]) rfl ⟨c1, trivial⟩ ?_
    refine q_callS C hfl mw_X9_isLeg ms_X9_isLeg lk_X9_79 (k_X9_isLeg g σ) (rest := [.ref 229]) rfl rfl (q_dc (z := (10, .invokestatic 79, 3, 0, 0)) tk_X9_speedOf 6 rfl) (Nat.le_of_ble_eq_true rfl) ⟨Nat.le_of_ble_eq_true rfl, Nat.le_of_ble_eq_true rfl⟩ ⟨Nat.le_of_ble_eq_true rfl, Nat.le_of_ble_eq_true rfl⟩ ?_
    refine q_nrm 13 [.int (F_X9_isLeg g σ), .ref 229] 0 0 rfl rfl rfl rfl ?_
    by_cases c2 : (F_X9_isLeg g σ) = 0
    · rw [if_pos c2] at hF
      refine q_go C tk_X9_speedOf [(7, 3), (11, 1)] [false] (pc1 := 22) (σ1 := σ) (lv1 := [(0, .ref 229), (1, .int t), (2, .int g)]) (st1 := [.int 1, .int 1, .ref 229]) rfl ⟨c2, trivial⟩ ?_
      refine q_callV C hfl mw_X9_isThrown mi_X9_isThrown me_X9_isThrown lk_X9_63 (k_X9_isThrownN 1 1 σ (by decide) (by decide)) (rest := []) rfl rfl rfl (by decide) (by decide) rfl (q_dc (z := (22, .invokevirtual 63, 3, 0, 0)) tk_X9_speedOf 12 rfl) (Nat.le_of_ble_eq_true rfl) ⟨Nat.le_of_ble_eq_true rfl, Nat.le_of_ble_eq_true rfl⟩ ⟨Nat.le_of_ble_eq_true rfl, Nat.le_of_ble_eq_true rfl⟩ ?_
      refine q_nrm 25 [.int 1] 0 0 rfl rfl rfl rfl ?_
      refine q_go C tk_X9_speedOf [(13, 3)] [false] (pc1 := 40) (σ1 := (q_up σ 229 5 1)) (lv1 := [(0, .ref 229), (1, .int t), (2, .int g)]) (st1 := [.int 0]) rfl ⟨(by decide : ¬ (1 : Int32) = 0), trivial⟩ ?_
      exact q_iret C hr (q_dc (z := (40, .ireturn, 1, 0, 0)) tk_X9_speedOf 22 rfl) (congrArg Prod.snd hF) (congrArg (fun z => q_oi z.1) hF.symm) (Nat.le_of_ble_eq_true rfl) (Nat.le_of_ble_eq_true rfl)
    · rw [if_neg c2] at hF
      refine q_go C tk_X9_speedOf [(7, 1), (10, 2)] [true] (pc1 := 22) (σ1 := σ) (lv1 := [(0, .ref 229), (1, .int t), (2, .int g)]) (st1 := [.int 1, .int 0, .ref 229]) rfl ⟨c2, trivial⟩ ?_
      refine q_callV C hfl mw_X9_isThrown mi_X9_isThrown me_X9_isThrown lk_X9_63 (k_X9_isThrownZ 0 1 σ (by decide)) (rest := []) rfl rfl rfl (by decide) (by decide) rfl (q_dc (z := (22, .invokevirtual 63, 3, 0, 0)) tk_X9_speedOf 12 rfl) (Nat.le_of_ble_eq_true rfl) ⟨Nat.le_of_ble_eq_true rfl, Nat.le_of_ble_eq_true rfl⟩ ⟨Nat.le_of_ble_eq_true rfl, Nat.le_of_ble_eq_true rfl⟩ ?_
      refine q_nrm 25 [.int 0] 0 0 rfl rfl rfl rfl ?_
      refine q_go C tk_X9_speedOf [(13, 1), (16, 5)] [true] (pc1 := 37) (σ1 := (q_up σ 229 5 0)) (lv1 := [(0, .ref 229), (1, .int t), (2, .int g)]) (st1 := [.int (0 + g), .int t, .ref 229]) rfl ⟨(by decide : (0 : Int32) = 0), trivial⟩ ?_
      generalize e4 : (q_up σ 229 5 0) = σ3
      replace hF := q_let e4 hF
      refine q_callV C hfl mw_X9_of mi_X9_of me_X9_of lk_X9_52 (k_X9_of t (0 + g) σ3 (((hP.2 c1).2 c2) σ3 e4).1) (rest := []) rfl rfl rfl (by decide) (by decide) rfl (q_dc (z := (37, .invokevirtual 52, 3, 0, 0)) tk_X9_speedOf 21 rfl) (Nat.le_of_ble_eq_true rfl) ⟨Nat.le_of_ble_eq_true rfl, Nat.le_of_ble_eq_true rfl⟩ ⟨Nat.le_of_ble_eq_true rfl, Nat.le_of_ble_eq_true rfl⟩ ?_
      refine q_nrm 40 [.int (F_X9_of t (0 + g) σ3)] 0 0 rfl rfl rfl rfl ?_
      exact q_iret C hr (q_dc (z := (40, .ireturn, 1, 0, 0)) tk_X9_speedOf 22 rfl) (congrArg Prod.snd hF) (congrArg (fun z => q_oi z.1) hF.symm) (Nat.le_of_ble_eq_true rfl) (Nat.le_of_ble_eq_true rfl)
def F_X9_isRunning (t : Int32) (σ : q_M) : (Int32) × q_M := (q_L (F_X9_ofTeam t 6 σ).2 (fun σ1 : q_M => (if (F_X9_ofTeam t 6 σ).1 = 1 then (1, σ1) else (0, σ1))))
def P_X9_isRunning (t : Int32) (σ : q_M) : Prop := ((P_X9_ofTeam t 6 σ) ∧ True)
set_option maxRecDepth 100000 in
theorem k_X9_isRunning {α β : Nat → Nat} {D : va_G} {κ : Nat → ClassId} (t : Int32) (σ : q_M) (hP : P_X9_isRunning t σ) : q_C α β D κ yX9_isRunning cX9_isRunning 2 (Option.some Jvm.ClassFile.FieldType.boolean) 3 65 0 0 [.ref 229, .int t] σ (q_oi (F_X9_isRunning t σ).1) (F_X9_isRunning t σ).2 := by
  refine q_enter (own := RX9) (F := F_X9) (G := G_X9) (by decide +kernel) rfl Fok_X9 Gok_X9 (Nat.le_of_ble_eq_true rfl) (fun p l e s m args below meth c A hfl C hr hT => ?_)
  generalize hF : F_X9_isRunning t σ = rr
  unfold F_X9_isRunning at hF
  refine q_go C tk_X9_isRunning [(0, 3)] [] (pc1 := 4) (σ1 := σ) (lv1 := [(0, .ref 229), (1, .int t)]) (st1 := [.int 6, .int t, .ref 229]) rfl trivial ?_
  refine q_callV C hfl mw_X9_ofTeam mi_X9_ofTeam me_X9_ofTeam lk_X9_145 (k_X9_ofTeam t 6 σ hP.1) (rest := []) rfl rfl rfl (by decide) (by decide) rfl (q_dc (z := (4, .invokevirtual 145, 3, 0, 0)) tk_X9_isRunning 3 rfl) (Nat.le_of_ble_eq_true rfl) ⟨Nat.le_of_ble_eq_true rfl, Nat.le_of_ble_eq_true rfl⟩ ⟨Nat.le_of_ble_eq_true rfl, Nat.le_of_ble_eq_true rfl⟩ ?_
  refine q_nrm 7 [.int (F_X9_ofTeam t 6 σ).1] 0 0 rfl rfl rfl rfl ?_
  generalize e2 : (F_X9_ofTeam t 6 σ).2 = σ1
  replace hF := q_let e2 hF
  refine q_go C tk_X9_isRunning [(4, 1)] [] (pc1 := 8) (σ1 := σ1) (lv1 := [(0, .ref 229), (1, .int t)]) (st1 := [.int 1, .int (F_X9_ofTeam t 6 σ).1]) rfl trivial ?_
  by_cases c3 : (F_X9_ofTeam t 6 σ).1 = 1
  · rw [if_pos c3] at hF
    refine q_go C tk_X9_isRunning [(5, 3)] [false] (pc1 := 16) (σ1 := σ1) (lv1 := [(0, .ref 229), (1, .int t)]) (st1 := [.int 1]) rfl ⟨c3, trivial⟩ ?_
    exact q_zret C hr (q_dc (z := (16, .ireturn, 1, 0, 0)) tk_X9_isRunning 9 rfl) (by decide +kernel) (congrArg Prod.snd hF) (congrArg (fun z => q_oi z.1) hF.symm) (Nat.le_of_ble_eq_true rfl) (Nat.le_of_ble_eq_true rfl)
  · rw [if_neg c3] at hF
    refine q_go C tk_X9_isRunning [(5, 1), (8, 1)] [true] (pc1 := 16) (σ1 := σ1) (lv1 := [(0, .ref 229), (1, .int t)]) (st1 := [.int 0]) rfl ⟨c3, trivial⟩ ?_
    exact q_zret C hr (q_dc (z := (16, .ireturn, 1, 0, 0)) tk_X9_isRunning 9 rfl) (by decide +kernel) (congrArg Prod.snd hF) (congrArg (fun z => q_oi z.1) hF.symm) (Nat.le_of_ble_eq_true rfl) (Nat.le_of_ble_eq_true rfl)
def F_X9_isInZone (t : Int32) (σ : q_M) : (Int32) × q_M := (if (F_X9_isTeam t σ) = 0 then (0, (q_up σ 229 5 1)) else (q_L (q_up σ 229 5 0) (fun σ2 : q_M => (if (F_X9_inZone t σ2) = 0 then (0, σ2) else (1, σ2)))))
def P_X9_isInZone (t : Int32) (σ : q_M) : Prop := (((F_X9_isTeam t σ) = 0 → True) ∧ (¬ (F_X9_isTeam t σ) = 0 → (∀ σ2 : q_M, (q_up σ 229 5 0) = σ2 → ((P_X9_inZone t σ2) ∧ True))))
set_option maxRecDepth 100000 in
theorem k_X9_isInZone {α β : Nat → Nat} {D : va_G} {κ : Nat → ClassId} (t : Int32) (σ : q_M) (hP : P_X9_isInZone t σ) : q_C α β D κ yX9_isInZone cX9_isInZone 2 (Option.some Jvm.ClassFile.FieldType.boolean) 2 45 0 0 [.ref 229, .int t] σ (q_oi (F_X9_isInZone t σ).1) (F_X9_isInZone t σ).2 := by
  refine q_enter (own := RX9) (F := F_X9) (G := G_X9) (by decide +kernel) rfl Fok_X9 Gok_X9 (Nat.le_of_ble_eq_true rfl) (fun p l e s m args below meth c A hfl C hr hT => ?_)
  generalize hF : F_X9_isInZone t σ = rr
  unfold F_X9_isInZone at hF
  refine q_go C tk_X9_isInZone [(0, 3)] [] (pc1 := 3) (σ1 := σ) (lv1 := [(0, .ref 229), (1, .int t)]) (st1 := [.int t, .ref 229, .ref 229]) rfl trivial ?_
  refine q_callV C hfl mw_X9_isTeam mi_X9_isTeam me_X9_isTeam lk_X9_75 (k_X9_isTeam t σ) (rest := [.ref 229]) rfl rfl rfl (by decide) (by decide) rfl (q_dc (z := (3, .invokevirtual 75, 3, 0, 0)) tk_X9_isInZone 3 rfl) (Nat.le_of_ble_eq_true rfl) ⟨Nat.le_of_ble_eq_true rfl, Nat.le_of_ble_eq_true rfl⟩ ⟨Nat.le_of_ble_eq_true rfl, Nat.le_of_ble_eq_true rfl⟩ ?_
  refine q_nrm 6 [.int (F_X9_isTeam t σ), .ref 229] 0 0 rfl rfl rfl rfl ?_
  by_cases c1 : (F_X9_isTeam t σ) = 0
  · rw [if_pos c1] at hF
    refine q_go C tk_X9_isInZone [(4, 3), (8, 1)] [false] (pc1 := 15) (σ1 := σ) (lv1 := [(0, .ref 229), (1, .int t)]) (st1 := [.int 1, .int 1, .ref 229]) rfl ⟨c1, trivial⟩ ?_
    refine q_callV C hfl mw_X9_isThrown mi_X9_isThrown me_X9_isThrown lk_X9_63 (k_X9_isThrownN 1 1 σ (by decide) (by decide)) (rest := []) rfl rfl rfl (by decide) (by decide) rfl (q_dc (z := (15, .invokevirtual 63, 3, 0, 0)) tk_X9_isInZone 9 rfl) (Nat.le_of_ble_eq_true rfl) ⟨Nat.le_of_ble_eq_true rfl, Nat.le_of_ble_eq_true rfl⟩ ⟨Nat.le_of_ble_eq_true rfl, Nat.le_of_ble_eq_true rfl⟩ ?_
    refine q_nrm 18 [.int 1] 0 0 rfl rfl rfl rfl ?_
    refine q_go C tk_X9_isInZone [(10, 1), (17, 1)] [true] (pc1 := 34) (σ1 := (q_up σ 229 5 1)) (lv1 := [(0, .ref 229), (1, .int t)]) (st1 := [.int 0]) rfl ⟨(by decide : ¬ (1 : Int32) = 0), trivial⟩ ?_
    exact q_zret C hr (q_dc (z := (34, .ireturn, 1, 0, 0)) tk_X9_isInZone 18 rfl) (by decide +kernel) (congrArg Prod.snd hF) (congrArg (fun z => q_oi z.1) hF.symm) (Nat.le_of_ble_eq_true rfl) (Nat.le_of_ble_eq_true rfl)
  · rw [if_neg c1] at hF
    refine q_go C tk_X9_isInZone [(4, 1), (7, 2)] [true] (pc1 := 15) (σ1 := σ) (lv1 := [(0, .ref 229), (1, .int t)]) (st1 := [.int 1, .int 0, .ref 229]) rfl ⟨c1, trivial⟩ ?_
    refine q_callV C hfl mw_X9_isThrown mi_X9_isThrown me_X9_isThrown lk_X9_63 (k_X9_isThrownZ 0 1 σ (by decide)) (rest := []) rfl rfl rfl (by decide) (by decide) rfl (q_dc (z := (15, .invokevirtual 63, 3, 0, 0)) tk_X9_isInZone 9 rfl) (Nat.le_of_ble_eq_true rfl) ⟨Nat.le_of_ble_eq_true rfl, Nat.le_of_ble_eq_true rfl⟩ ⟨Nat.le_of_ble_eq_true rfl, Nat.le_of_ble_eq_true rfl⟩ ?_
    refine q_nrm 18 [.int 0] 0 0 rfl rfl rfl rfl ?_
    refine q_go C tk_X9_isInZone [(10, 3)] [false] (pc1 := 23) (σ1 := (q_up σ 229 5 0)) (lv1 := [(0, .ref 229), (1, .int t)]) (st1 := [.int t, .ref 229]) rfl ⟨(by decide : (0 : Int32) = 0), trivial⟩ ?_
    generalize e3 : (q_up σ 229 5 0) = σ2
    replace hF := q_let e3 hF
    refine q_callV C hfl mw_X9_inZone mi_X9_inZone me_X9_inZone lk_X9_133 (k_X9_inZone t σ2 ((hP.2 c1) σ2 e3).1) (rest := []) rfl rfl rfl (by decide) (by decide) rfl (q_dc (z := (23, .invokevirtual 133, 3, 0, 0)) tk_X9_isInZone 13 rfl) (Nat.le_of_ble_eq_true rfl) ⟨Nat.le_of_ble_eq_true rfl, Nat.le_of_ble_eq_true rfl⟩ ⟨Nat.le_of_ble_eq_true rfl, Nat.le_of_ble_eq_true rfl⟩ ?_
    refine q_nrm 26 [.int (F_X9_inZone t σ2)] 0 0 rfl rfl rfl rfl ?_
    by_cases c4 : (F_X9_inZone t σ2) = 0
    · rw [if_pos c4] at hF
      refine q_go C tk_X9_isInZone [(14, 1), (17, 1)] [true] (pc1 := 34) (σ1 := σ2) (lv1 := [(0, .ref 229), (1, .int t)]) (st1 := [.int 0]) rfl ⟨c4, trivial⟩ ?_
      exact q_zret C hr (q_dc (z := (34, .ireturn, 1, 0, 0)) tk_X9_isInZone 18 rfl) (by decide +kernel) (congrArg Prod.snd hF) (congrArg (fun z => q_oi z.1) hF.symm) (Nat.le_of_ble_eq_true rfl) (Nat.le_of_ble_eq_true rfl)
    · rw [if_neg c4] at hF
      refine q_go C tk_X9_isInZone [(14, 3)] [false] (pc1 := 34) (σ1 := σ2) (lv1 := [(0, .ref 229), (1, .int t)]) (st1 := [.int 1]) rfl ⟨c4, trivial⟩ ?_
      exact q_zret C hr (q_dc (z := (34, .ireturn, 1, 0, 0)) tk_X9_isInZone 18 rfl) (by decide +kernel) (congrArg Prod.snd hF) (congrArg (fun z => q_oi z.1) hF.symm) (Nat.le_of_ble_eq_true rfl) (Nat.le_of_ble_eq_true rfl)
def F_X9_hasFoul (t : Int32) (k : Int32) (σ : q_M) : (Int32) × q_M := (if (F_X9_isTeam t σ) = 0 then (0, (q_up σ 229 5 1)) else (q_L (q_up σ 229 5 0) (fun σ2 : q_M => (if (F_X9_isIn k 0 1 σ2) = 0 then (0, (q_up σ2 229 5 2)) else (q_L (q_up σ2 229 5 0) (fun σ5 : q_M => (if (F_X9_of t (11 + k) σ5) = 1 then (1, σ5) else (0, σ5))))))))
def P_X9_hasFoul (t : Int32) (k : Int32) (σ : q_M) : Prop := (((F_X9_isTeam t σ) = 0 → True) ∧ (¬ (F_X9_isTeam t σ) = 0 → (∀ σ2 : q_M, (q_up σ 229 5 0) = σ2 → (((F_X9_isIn k 0 1 σ2) = 0 → True) ∧ (¬ (F_X9_isIn k 0 1 σ2) = 0 → (∀ σ5 : q_M, (q_up σ2 229 5 0) = σ5 → ((P_X9_of t (11 + k) σ5) ∧ True)))))))
set_option maxRecDepth 100000 in
theorem k_X9_hasFoul {α β : Nat → Nat} {D : va_G} {κ : Nat → ClassId} (t : Int32) (k : Int32) (σ : q_M) (hP : P_X9_hasFoul t k σ) : q_C α β D κ yX9_hasFoul cX9_hasFoul 3 (Option.some Jvm.ClassFile.FieldType.boolean) 2 43 0 0 [.ref 229, .int t, .int k] σ (q_oi (F_X9_hasFoul t k σ).1) (F_X9_hasFoul t k σ).2 := by
  refine q_enter (own := RX9) (F := F_X9) (G := G_X9) (by decide +kernel) rfl Fok_X9 Gok_X9 (Nat.le_of_ble_eq_true rfl) (fun p l e s m args below meth c A hfl C hr hT => ?_)
  generalize hF : F_X9_hasFoul t k σ = rr
  unfold F_X9_hasFoul at hF
  refine q_go C tk_X9_hasFoul [(0, 3)] [] (pc1 := 3) (σ1 := σ) (lv1 := [(0, .ref 229), (1, .int t), (2, .int k)]) (st1 := [.int t, .ref 229, .ref 229]) rfl trivial ?_
  refine q_callV C hfl mw_X9_isTeam mi_X9_isTeam me_X9_isTeam lk_X9_75 (k_X9_isTeam t σ) (rest := [.ref 229]) rfl rfl rfl (by decide) (by decide) rfl (q_dc (z := (3, .invokevirtual 75, 3, 0, 0)) tk_X9_hasFoul 3 rfl) (Nat.le_of_ble_eq_true rfl) ⟨Nat.le_of_ble_eq_true rfl, Nat.le_of_ble_eq_true rfl⟩ ⟨Nat.le_of_ble_eq_true rfl, Nat.le_of_ble_eq_true rfl⟩ ?_
  refine q_nrm 6 [.int (F_X9_isTeam t σ), .ref 229] 0 0 rfl rfl rfl rfl ?_
  by_cases c1 : (F_X9_isTeam t σ) = 0
  · rw [if_pos c1] at hF
    refine q_go C tk_X9_hasFoul [(4, 3), (8, 1)] [false] (pc1 := 15) (σ1 := σ) (lv1 := [(0, .ref 229), (1, .int t), (2, .int k)]) (st1 := [.int 1, .int 1, .ref 229]) rfl ⟨c1, trivial⟩ ?_
    refine q_callV C hfl mw_X9_isThrown mi_X9_isThrown me_X9_isThrown lk_X9_63 (k_X9_isThrownN 1 1 σ (by decide) (by decide)) (rest := []) rfl rfl rfl (by decide) (by decide) rfl (q_dc (z := (15, .invokevirtual 63, 3, 0, 0)) tk_X9_hasFoul 9 rfl) (Nat.le_of_ble_eq_true rfl) ⟨Nat.le_of_ble_eq_true rfl, Nat.le_of_ble_eq_true rfl⟩ ⟨Nat.le_of_ble_eq_true rfl, Nat.le_of_ble_eq_true rfl⟩ ?_
    refine q_nrm 18 [.int 1] 0 0 rfl rfl rfl rfl ?_
    refine q_go C tk_X9_hasFoul [(10, 1), (33, 1)] [true] (pc1 := 61) (σ1 := (q_up σ 229 5 1)) (lv1 := [(0, .ref 229), (1, .int t), (2, .int k)]) (st1 := [.int 0]) rfl ⟨(by decide : ¬ (1 : Int32) = 0), trivial⟩ ?_
    exact q_zret C hr (q_dc (z := (61, .ireturn, 1, 0, 0)) tk_X9_hasFoul 34 rfl) (by decide +kernel) (congrArg Prod.snd hF) (congrArg (fun z => q_oi z.1) hF.symm) (Nat.le_of_ble_eq_true rfl) (Nat.le_of_ble_eq_true rfl)
  · rw [if_neg c1] at hF
    refine q_go C tk_X9_hasFoul [(4, 1), (7, 2)] [true] (pc1 := 15) (σ1 := σ) (lv1 := [(0, .ref 229), (1, .int t), (2, .int k)]) (st1 := [.int 1, .int 0, .ref 229]) rfl ⟨c1, trivial⟩ ?_
    refine q_callV C hfl mw_X9_isThrown mi_X9_isThrown me_X9_isThrown lk_X9_63 (k_X9_isThrownZ 0 1 σ (by decide)) (rest := []) rfl rfl rfl (by decide) (by decide) rfl (q_dc (z := (15, .invokevirtual 63, 3, 0, 0)) tk_X9_hasFoul 9 rfl) (Nat.le_of_ble_eq_true rfl) ⟨Nat.le_of_ble_eq_true rfl, Nat.le_of_ble_eq_true rfl⟩ ⟨Nat.le_of_ble_eq_true rfl, Nat.le_of_ble_eq_true rfl⟩ ?_
    refine q_nrm 18 [.int 0] 0 0 rfl rfl rfl rfl ?_
    refine q_go C tk_X9_hasFoul [(10, 5)] [false] (pc1 := 25) (σ1 := (q_up σ 229 5 0)) (lv1 := [(0, .ref 229), (1, .int t), (2, .int k)]) (st1 := [.int 1, .int 0, .int k, .ref 229]) rfl ⟨(by decide : (0 : Int32) = 0), trivial⟩ ?_
    generalize e3 : (q_up σ 229 5 0) = σ2
    replace hF := q_let e3 hF
    refine q_callS C hfl mw_X9_isIn ms_X9_isIn lk_X9_48 (k_X9_isIn k 0 1 σ2) (rest := [.ref 229]) rfl rfl (q_dc (z := (25, .invokestatic 48, 3, 0, 0)) tk_X9_hasFoul 15 rfl) (Nat.le_of_ble_eq_true rfl) ⟨Nat.le_of_ble_eq_true rfl, Nat.le_of_ble_eq_true rfl⟩ ⟨Nat.le_of_ble_eq_true rfl, Nat.le_of_ble_eq_true rfl⟩ ?_
    refine q_nrm 28 [.int (F_X9_isIn k 0 1 σ2), .ref 229] 0 0 rfl rfl rfl rfl ?_
    by_cases c4 : (F_X9_isIn k 0 1 σ2) = 0
    · rw [if_pos c4] at hF
      refine q_go C tk_X9_hasFoul [(16, 3), (20, 1)] [false] (pc1 := 37) (σ1 := σ2) (lv1 := [(0, .ref 229), (1, .int t), (2, .int k)]) (st1 := [.int 2, .int 1, .ref 229]) rfl ⟨c4, trivial⟩ ?_
      refine q_callV C hfl mw_X9_isThrown mi_X9_isThrown me_X9_isThrown lk_X9_63 (k_X9_isThrownN 1 2 σ2 (by decide) (by decide)) (rest := []) rfl rfl rfl (by decide) (by decide) rfl (q_dc (z := (37, .invokevirtual 63, 3, 0, 0)) tk_X9_hasFoul 21 rfl) (Nat.le_of_ble_eq_true rfl) ⟨Nat.le_of_ble_eq_true rfl, Nat.le_of_ble_eq_true rfl⟩ ⟨Nat.le_of_ble_eq_true rfl, Nat.le_of_ble_eq_true rfl⟩ ?_
      refine q_nrm 40 [.int 1] 0 0 rfl rfl rfl rfl ?_
      refine q_go C tk_X9_hasFoul [(22, 1), (33, 1)] [true] (pc1 := 61) (σ1 := (q_up σ2 229 5 2)) (lv1 := [(0, .ref 229), (1, .int t), (2, .int k)]) (st1 := [.int 0]) rfl ⟨(by decide : ¬ (1 : Int32) = 0), trivial⟩ ?_
      exact q_zret C hr (q_dc (z := (61, .ireturn, 1, 0, 0)) tk_X9_hasFoul 34 rfl) (by decide +kernel) (congrArg Prod.snd hF) (congrArg (fun z => q_oi z.1) hF.symm) (Nat.le_of_ble_eq_true rfl) (Nat.le_of_ble_eq_true rfl)
    · rw [if_neg c4] at hF
      refine q_go C tk_X9_hasFoul [(16, 1), (19, 2)] [true] (pc1 := 37) (σ1 := σ2) (lv1 := [(0, .ref 229), (1, .int t), (2, .int k)]) (st1 := [.int 2, .int 0, .ref 229]) rfl ⟨c4, trivial⟩ ?_
      refine q_callV C hfl mw_X9_isThrown mi_X9_isThrown me_X9_isThrown lk_X9_63 (k_X9_isThrownZ 0 2 σ2 (by decide)) (rest := []) rfl rfl rfl (by decide) (by decide) rfl (q_dc (z := (37, .invokevirtual 63, 3, 0, 0)) tk_X9_hasFoul 21 rfl) (Nat.le_of_ble_eq_true rfl) ⟨Nat.le_of_ble_eq_true rfl, Nat.le_of_ble_eq_true rfl⟩ ⟨Nat.le_of_ble_eq_true rfl, Nat.le_of_ble_eq_true rfl⟩ ?_
      refine q_nrm 40 [.int 0] 0 0 rfl rfl rfl rfl ?_
      refine q_go C tk_X9_hasFoul [(22, 6)] [false] (pc1 := 49) (σ1 := (q_up σ2 229 5 0)) (lv1 := [(0, .ref 229), (1, .int t), (2, .int k)]) (st1 := [.int (11 + k), .int t, .ref 229]) rfl ⟨(by decide : (0 : Int32) = 0), trivial⟩ ?_
      generalize e6 : (q_up σ2 229 5 0) = σ5
      replace hF := q_let e6 hF
      refine q_callV C hfl mw_X9_of mi_X9_of me_X9_of lk_X9_52 (k_X9_of t (11 + k) σ5 ((((hP.2 c1) σ2 e3).2 c4) σ5 e6).1) (rest := []) rfl rfl rfl (by decide) (by decide) rfl (q_dc (z := (49, .invokevirtual 52, 3, 0, 0)) tk_X9_hasFoul 28 rfl) (Nat.le_of_ble_eq_true rfl) ⟨Nat.le_of_ble_eq_true rfl, Nat.le_of_ble_eq_true rfl⟩ ⟨Nat.le_of_ble_eq_true rfl, Nat.le_of_ble_eq_true rfl⟩ ?_
      refine q_nrm 52 [.int (F_X9_of t (11 + k) σ5)] 0 0 rfl rfl rfl rfl ?_
      refine q_go C tk_X9_hasFoul [(29, 1)] [] (pc1 := 53) (σ1 := σ5) (lv1 := [(0, .ref 229), (1, .int t), (2, .int k)]) (st1 := [.int 1, .int (F_X9_of t (11 + k) σ5)]) rfl trivial ?_
      by_cases c7 : (F_X9_of t (11 + k) σ5) = 1
      · rw [if_pos c7] at hF
        refine q_go C tk_X9_hasFoul [(30, 3)] [false] (pc1 := 61) (σ1 := σ5) (lv1 := [(0, .ref 229), (1, .int t), (2, .int k)]) (st1 := [.int 1]) rfl ⟨c7, trivial⟩ ?_
        exact q_zret C hr (q_dc (z := (61, .ireturn, 1, 0, 0)) tk_X9_hasFoul 34 rfl) (by decide +kernel) (congrArg Prod.snd hF) (congrArg (fun z => q_oi z.1) hF.symm) (Nat.le_of_ble_eq_true rfl) (Nat.le_of_ble_eq_true rfl)
      · rw [if_neg c7] at hF
        refine q_go C tk_X9_hasFoul [(30, 1), (33, 1)] [true] (pc1 := 61) (σ1 := σ5) (lv1 := [(0, .ref 229), (1, .int t), (2, .int k)]) (st1 := [.int 0]) rfl ⟨c7, trivial⟩ ?_
        exact q_zret C hr (q_dc (z := (61, .ireturn, 1, 0, 0)) tk_X9_hasFoul 34 rfl) (by decide +kernel) (congrArg Prod.snd hF) (congrArg (fun z => q_oi z.1) hF.symm) (Nat.le_of_ble_eq_true rfl) (Nat.le_of_ble_eq_true rfl)
def F_X9_splitOf (t : Int32) (g : Int32) (σ : q_M) : (Int32) × q_M := (if (F_X9_isTeam t σ) = 0 then (0, (q_up σ 229 5 1)) else (if (F_X9_isLeg g σ) = 0 then (0, (q_up σ 229 5 1)) else (q_L (q_up σ 229 5 0) (fun σ3 : q_M => (q_L ((F_X9_of t (14 + g) σ3) - 1) (fun x5 : Int32 => (if x5 < 0 then (0, (q_up σ3 229 5 2)) else (x5, (q_up σ3 229 5 0)))))))))
def P_X9_splitOf (t : Int32) (g : Int32) (σ : q_M) : Prop := (((F_X9_isTeam t σ) = 0 → True) ∧ (¬ (F_X9_isTeam t σ) = 0 → (((F_X9_isLeg g σ) = 0 → True) ∧ (¬ (F_X9_isLeg g σ) = 0 → (∀ σ3 : q_M, (q_up σ 229 5 0) = σ3 → ((P_X9_of t (14 + g) σ3) ∧ True))))))
set_option maxRecDepth 100000 in
theorem k_X9_splitOf {α β : Nat → Nat} {D : va_G} {κ : Nat → ClassId} (t : Int32) (g : Int32) (σ : q_M) (hP : P_X9_splitOf t g σ) : q_C α β D κ yX9_splitOf cX9_splitOf 4 (Option.some Jvm.ClassFile.FieldType.int) 2 43 0 0 [.ref 229, .int t, .int g] σ (q_oi (F_X9_splitOf t g σ).1) (F_X9_splitOf t g σ).2 := by
  refine q_enter (own := RX9) (F := F_X9) (G := G_X9) (by decide +kernel) rfl Fok_X9 Gok_X9 (Nat.le_of_ble_eq_true rfl) (fun p l e s m args below meth c A hfl C hr hT => ?_)
  generalize hF : F_X9_splitOf t g σ = rr
  unfold F_X9_splitOf at hF
  refine q_go C tk_X9_splitOf [(0, 3)] [] (pc1 := 3) (σ1 := σ) (lv1 := [(0, .ref 229), (1, .int t), (2, .int g)]) (st1 := [.int t, .ref 229, .ref 229]) rfl trivial ?_
  refine q_callV C hfl mw_X9_isTeam mi_X9_isTeam me_X9_isTeam lk_X9_75 (k_X9_isTeam t σ) (rest := [.ref 229]) rfl rfl rfl (by decide) (by decide) rfl (q_dc (z := (3, .invokevirtual 75, 3, 0, 0)) tk_X9_splitOf 3 rfl) (Nat.le_of_ble_eq_true rfl) ⟨Nat.le_of_ble_eq_true rfl, Nat.le_of_ble_eq_true rfl⟩ ⟨Nat.le_of_ble_eq_true rfl, Nat.le_of_ble_eq_true rfl⟩ ?_
  refine q_nrm 6 [.int (F_X9_isTeam t σ), .ref 229] 0 0 rfl rfl rfl rfl ?_
  by_cases c1 : (F_X9_isTeam t σ) = 0
  · rw [if_pos c1] at hF
    refine q_go C tk_X9_splitOf [(4, 1), (8, 2), (11, 1)] [true] (pc1 := 22) (σ1 := σ) (lv1 := [(0, .ref 229), (1, .int t), (2, .int g)]) (st1 := [.int 1, .int 1, .ref 229]) rfl ⟨c1, trivial⟩ ?_
    refine q_callV C hfl mw_X9_isThrown mi_X9_isThrown me_X9_isThrown lk_X9_63 (k_X9_isThrownN 1 1 σ (by decide) (by decide)) (rest := []) rfl rfl rfl (by decide) (by decide) rfl (q_dc (z := (22, .invokevirtual 63, 3, 0, 0)) tk_X9_splitOf 12 rfl) (Nat.le_of_ble_eq_true rfl) ⟨Nat.le_of_ble_eq_true rfl, Nat.le_of_ble_eq_true rfl⟩ ⟨Nat.le_of_ble_eq_true rfl, Nat.le_of_ble_eq_true rfl⟩ ?_
    refine q_nrm 25 [.int 1] 0 0 rfl rfl rfl rfl ?_
    refine q_go C tk_X9_splitOf [(13, 2)] [false] (pc1 := 29) (σ1 := (q_up σ 229 5 1)) (lv1 := [(0, .ref 229), (1, .int t), (2, .int g)]) (st1 := [.int 0]) rfl ⟨(by decide : ¬ (1 : Int32) = 0), trivial⟩ ?_
    exact q_iret C hr (q_dc (z := (29, .ireturn, 1, 0, 0)) tk_X9_splitOf 15 rfl) (congrArg Prod.snd hF) (congrArg (fun z => q_oi z.1) hF.symm) (Nat.le_of_ble_eq_true rfl) (Nat.le_of_ble_eq_true rfl)
  · rw [if_neg c1] at hF
    refine q_go C tk_X9_splitOf [(4, 2)] [false] (pc1 := 10) (σ1 := σ) (lv1 := [(0, .ref 229), (1, .int t), (2, .int g)]) (st1 := [.int g, .ref 229]) rfl ⟨c1, trivial⟩ ?_
    refine q_callS C hfl mw_X9_isLeg ms_X9_isLeg lk_X9_79 (k_X9_isLeg g σ) (rest := [.ref 229]) rfl rfl (q_dc (z := (10, .invokestatic 79, 3, 0, 0)) tk_X9_splitOf 6 rfl) (Nat.le_of_ble_eq_true rfl) ⟨Nat.le_of_ble_eq_true rfl, Nat.le_of_ble_eq_true rfl⟩ ⟨Nat.le_of_ble_eq_true rfl, Nat.le_of_ble_eq_true rfl⟩ ?_
    refine q_nrm 13 [.int (F_X9_isLeg g σ), .ref 229] 0 0 rfl rfl rfl rfl ?_
    by_cases c2 : (F_X9_isLeg g σ) = 0
    · rw [if_pos c2] at hF
      refine q_go C tk_X9_splitOf [(7, 3), (11, 1)] [false] (pc1 := 22) (σ1 := σ) (lv1 := [(0, .ref 229), (1, .int t), (2, .int g)]) (st1 := [.int 1, .int 1, .ref 229]) rfl ⟨c2, trivial⟩ ?_
      refine q_callV C hfl mw_X9_isThrown mi_X9_isThrown me_X9_isThrown lk_X9_63 (k_X9_isThrownN 1 1 σ (by decide) (by decide)) (rest := []) rfl rfl rfl (by decide) (by decide) rfl (q_dc (z := (22, .invokevirtual 63, 3, 0, 0)) tk_X9_splitOf 12 rfl) (Nat.le_of_ble_eq_true rfl) ⟨Nat.le_of_ble_eq_true rfl, Nat.le_of_ble_eq_true rfl⟩ ⟨Nat.le_of_ble_eq_true rfl, Nat.le_of_ble_eq_true rfl⟩ ?_
      refine q_nrm 25 [.int 1] 0 0 rfl rfl rfl rfl ?_
      refine q_go C tk_X9_splitOf [(13, 2)] [false] (pc1 := 29) (σ1 := (q_up σ 229 5 1)) (lv1 := [(0, .ref 229), (1, .int t), (2, .int g)]) (st1 := [.int 0]) rfl ⟨(by decide : ¬ (1 : Int32) = 0), trivial⟩ ?_
      exact q_iret C hr (q_dc (z := (29, .ireturn, 1, 0, 0)) tk_X9_splitOf 15 rfl) (congrArg Prod.snd hF) (congrArg (fun z => q_oi z.1) hF.symm) (Nat.le_of_ble_eq_true rfl) (Nat.le_of_ble_eq_true rfl)
    · rw [if_neg c2] at hF
      refine q_go C tk_X9_splitOf [(7, 1), (10, 2)] [true] (pc1 := 22) (σ1 := σ) (lv1 := [(0, .ref 229), (1, .int t), (2, .int g)]) (st1 := [.int 1, .int 0, .ref 229]) rfl ⟨c2, trivial⟩ ?_
      refine q_callV C hfl mw_X9_isThrown mi_X9_isThrown me_X9_isThrown lk_X9_63 (k_X9_isThrownZ 0 1 σ (by decide)) (rest := []) rfl rfl rfl (by decide) (by decide) rfl (q_dc (z := (22, .invokevirtual 63, 3, 0, 0)) tk_X9_splitOf 12 rfl) (Nat.le_of_ble_eq_true rfl) ⟨Nat.le_of_ble_eq_true rfl, Nat.le_of_ble_eq_true rfl⟩ ⟨Nat.le_of_ble_eq_true rfl, Nat.le_of_ble_eq_true rfl⟩ ?_
      refine q_nrm 25 [.int 0] 0 0 rfl rfl rfl rfl ?_
      refine q_go C tk_X9_splitOf [(13, 1), (16, 5)] [true] (pc1 := 36) (σ1 := (q_up σ 229 5 0)) (lv1 := [(0, .ref 229), (1, .int t), (2, .int g)]) (st1 := [.int (14 + g), .int t, .ref 229]) rfl ⟨(by decide : (0 : Int32) = 0), trivial⟩ ?_
      generalize e4 : (q_up σ 229 5 0) = σ3
      replace hF := q_let e4 hF
      refine q_callV C hfl mw_X9_of mi_X9_of me_X9_of lk_X9_52 (k_X9_of t (14 + g) σ3 (((hP.2 c1).2 c2) σ3 e4).1) (rest := []) rfl rfl rfl (by decide) (by decide) rfl (q_dc (z := (36, .invokevirtual 52, 3, 0, 0)) tk_X9_splitOf 21 rfl) (Nat.le_of_ble_eq_true rfl) ⟨Nat.le_of_ble_eq_true rfl, Nat.le_of_ble_eq_true rfl⟩ ⟨Nat.le_of_ble_eq_true rfl, Nat.le_of_ble_eq_true rfl⟩ ?_
      refine q_nrm 39 [.int (F_X9_of t (14 + g) σ3)] 0 0 rfl rfl rfl rfl ?_
      refine q_go C tk_X9_splitOf [(22, 2)] [] (pc1 := 41) (σ1 := σ3) (lv1 := [(0, .ref 229), (1, .int t), (2, .int g)]) (st1 := [.int ((F_X9_of t (14 + g) σ3) - 1)]) rfl trivial ?_
      generalize e6 : ((F_X9_of t (14 + g) σ3) - 1) = x5
      replace hF := q_let e6 hF
      refine q_go C tk_X9_splitOf [(24, 3)] [] (pc1 := 44) (σ1 := σ3) (lv1 := [(3, .int x5), (0, .ref 229), (1, .int t), (2, .int g)]) (st1 := [.int x5, .ref 229]) rfl trivial ?_
      by_cases c7 : x5 < 0
      · rw [if_pos c7] at hF
        refine q_go C tk_X9_splitOf [(27, 3), (31, 1)] [false] (pc1 := 53) (σ1 := σ3) (lv1 := [(3, .int x5), (0, .ref 229), (1, .int t), (2, .int g)]) (st1 := [.int 2, .int 1, .ref 229]) rfl ⟨c7, trivial⟩ ?_
        refine q_callV C hfl mw_X9_isThrown mi_X9_isThrown me_X9_isThrown lk_X9_63 (k_X9_isThrownN 1 2 σ3 (by decide) (by decide)) (rest := []) rfl rfl rfl (by decide) (by decide) rfl (q_dc (z := (53, .invokevirtual 63, 3, 0, 0)) tk_X9_splitOf 32 rfl) (Nat.le_of_ble_eq_true rfl) ⟨Nat.le_of_ble_eq_true rfl, Nat.le_of_ble_eq_true rfl⟩ ⟨Nat.le_of_ble_eq_true rfl, Nat.le_of_ble_eq_true rfl⟩ ?_
        refine q_nrm 56 [.int 1] 0 0 rfl rfl rfl rfl ?_
        refine q_go C tk_X9_splitOf [(33, 3)] [false] (pc1 := 64) (σ1 := (q_up σ3 229 5 2)) (lv1 := [(3, .int x5), (0, .ref 229), (1, .int t), (2, .int g)]) (st1 := [.int 0]) rfl ⟨(by decide : ¬ (1 : Int32) = 0), trivial⟩ ?_
        exact q_iret C hr (q_dc (z := (64, .ireturn, 1, 0, 0)) tk_X9_splitOf 37 rfl) (congrArg Prod.snd hF) (congrArg (fun z => q_oi z.1) hF.symm) (Nat.le_of_ble_eq_true rfl) (Nat.le_of_ble_eq_true rfl)
      · rw [if_neg c7] at hF
        refine q_go C tk_X9_splitOf [(27, 1), (30, 2)] [true] (pc1 := 53) (σ1 := σ3) (lv1 := [(3, .int x5), (0, .ref 229), (1, .int t), (2, .int g)]) (st1 := [.int 2, .int 0, .ref 229]) rfl ⟨c7, trivial⟩ ?_
        refine q_callV C hfl mw_X9_isThrown mi_X9_isThrown me_X9_isThrown lk_X9_63 (k_X9_isThrownZ 0 2 σ3 (by decide)) (rest := []) rfl rfl rfl (by decide) (by decide) rfl (q_dc (z := (53, .invokevirtual 63, 3, 0, 0)) tk_X9_splitOf 32 rfl) (Nat.le_of_ble_eq_true rfl) ⟨Nat.le_of_ble_eq_true rfl, Nat.le_of_ble_eq_true rfl⟩ ⟨Nat.le_of_ble_eq_true rfl, Nat.le_of_ble_eq_true rfl⟩ ?_
        refine q_nrm 56 [.int 0] 0 0 rfl rfl rfl rfl ?_
        refine q_go C tk_X9_splitOf [(33, 1), (36, 1)] [true] (pc1 := 64) (σ1 := (q_up σ3 229 5 0)) (lv1 := [(3, .int x5), (0, .ref 229), (1, .int t), (2, .int g)]) (st1 := [.int x5]) rfl ⟨(by decide : (0 : Int32) = 0), trivial⟩ ?_
        exact q_iret C hr (q_dc (z := (64, .ireturn, 1, 0, 0)) tk_X9_splitOf 37 rfl) (congrArg Prod.snd hF) (congrArg (fun z => q_oi z.1) hF.symm) (Nat.le_of_ble_eq_true rfl) (Nat.le_of_ble_eq_true rfl)
def F_X9_isNoResult (t : Int32) (σ : q_M) : (Int32) × q_M := (if (F_X9_isTeam t σ) = 0 then (1, (q_up σ 229 5 1)) else (q_L (q_up σ 229 5 0) (fun σ2 : q_M => (if (F_X9_of t 6 σ2) = 2 then (0, (q_up σ2 229 5 0)) else (1, (q_up σ2 229 5 2))))))
def P_X9_isNoResult (t : Int32) (σ : q_M) : Prop := (((F_X9_isTeam t σ) = 0 → True) ∧ (¬ (F_X9_isTeam t σ) = 0 → (∀ σ2 : q_M, (q_up σ 229 5 0) = σ2 → ((P_X9_of t 6 σ2) ∧ True))))
set_option maxRecDepth 100000 in
theorem k_X9_isNoResult {α β : Nat → Nat} {D : va_G} {κ : Nat → ClassId} (t : Int32) (σ : q_M) (hP : P_X9_isNoResult t σ) : q_C α β D κ yX9_isNoResult cX9_isNoResult 2 (Option.some Jvm.ClassFile.FieldType.boolean) 2 43 0 0 [.ref 229, .int t] σ (q_oi (F_X9_isNoResult t σ).1) (F_X9_isNoResult t σ).2 := by
  refine q_enter (own := RX9) (F := F_X9) (G := G_X9) (by decide +kernel) rfl Fok_X9 Gok_X9 (Nat.le_of_ble_eq_true rfl) (fun p l e s m args below meth c A hfl C hr hT => ?_)
  generalize hF : F_X9_isNoResult t σ = rr
  unfold F_X9_isNoResult at hF
  refine q_go C tk_X9_isNoResult [(0, 3)] [] (pc1 := 3) (σ1 := σ) (lv1 := [(0, .ref 229), (1, .int t)]) (st1 := [.int t, .ref 229, .ref 229]) rfl trivial ?_
  refine q_callV C hfl mw_X9_isTeam mi_X9_isTeam me_X9_isTeam lk_X9_75 (k_X9_isTeam t σ) (rest := [.ref 229]) rfl rfl rfl (by decide) (by decide) rfl (q_dc (z := (3, .invokevirtual 75, 3, 0, 0)) tk_X9_isNoResult 3 rfl) (Nat.le_of_ble_eq_true rfl) ⟨Nat.le_of_ble_eq_true rfl, Nat.le_of_ble_eq_true rfl⟩ ⟨Nat.le_of_ble_eq_true rfl, Nat.le_of_ble_eq_true rfl⟩ ?_
  refine q_nrm 6 [.int (F_X9_isTeam t σ), .ref 229] 0 0 rfl rfl rfl rfl ?_
  by_cases c1 : (F_X9_isTeam t σ) = 0
  · rw [if_pos c1] at hF
    refine q_go C tk_X9_isNoResult [(4, 3), (8, 1)] [false] (pc1 := 15) (σ1 := σ) (lv1 := [(0, .ref 229), (1, .int t)]) (st1 := [.int 1, .int 1, .ref 229]) rfl ⟨c1, trivial⟩ ?_
    refine q_callV C hfl mw_X9_isThrown mi_X9_isThrown me_X9_isThrown lk_X9_63 (k_X9_isThrownN 1 1 σ (by decide) (by decide)) (rest := []) rfl rfl rfl (by decide) (by decide) rfl (q_dc (z := (15, .invokevirtual 63, 3, 0, 0)) tk_X9_isNoResult 9 rfl) (Nat.le_of_ble_eq_true rfl) ⟨Nat.le_of_ble_eq_true rfl, Nat.le_of_ble_eq_true rfl⟩ ⟨Nat.le_of_ble_eq_true rfl, Nat.le_of_ble_eq_true rfl⟩ ?_
    refine q_nrm 18 [.int 1] 0 0 rfl rfl rfl rfl ?_
    refine q_go C tk_X9_isNoResult [(10, 1), (24, 2)] [true] (pc1 := 50) (σ1 := (q_up σ 229 5 1)) (lv1 := [(0, .ref 229), (1, .int t)]) (st1 := [.int 1]) rfl ⟨(by decide : ¬ (1 : Int32) = 0), trivial⟩ ?_
    exact q_zret C hr (q_dc (z := (50, .ireturn, 1, 0, 0)) tk_X9_isNoResult 27 rfl) (by decide +kernel) (congrArg Prod.snd hF) (congrArg (fun z => q_oi z.1) hF.symm) (Nat.le_of_ble_eq_true rfl) (Nat.le_of_ble_eq_true rfl)
  · rw [if_neg c1] at hF
    refine q_go C tk_X9_isNoResult [(4, 1), (7, 2)] [true] (pc1 := 15) (σ1 := σ) (lv1 := [(0, .ref 229), (1, .int t)]) (st1 := [.int 1, .int 0, .ref 229]) rfl ⟨c1, trivial⟩ ?_
    refine q_callV C hfl mw_X9_isThrown mi_X9_isThrown me_X9_isThrown lk_X9_63 (k_X9_isThrownZ 0 1 σ (by decide)) (rest := []) rfl rfl rfl (by decide) (by decide) rfl (q_dc (z := (15, .invokevirtual 63, 3, 0, 0)) tk_X9_isNoResult 9 rfl) (Nat.le_of_ble_eq_true rfl) ⟨Nat.le_of_ble_eq_true rfl, Nat.le_of_ble_eq_true rfl⟩ ⟨Nat.le_of_ble_eq_true rfl, Nat.le_of_ble_eq_true rfl⟩ ?_
    refine q_nrm 18 [.int 0] 0 0 rfl rfl rfl rfl ?_
    refine q_go C tk_X9_isNoResult [(10, 5)] [false] (pc1 := 26) (σ1 := (q_up σ 229 5 0)) (lv1 := [(0, .ref 229), (1, .int t)]) (st1 := [.int 6, .int t, .ref 229, .ref 229]) rfl ⟨(by decide : (0 : Int32) = 0), trivial⟩ ?_
    generalize e3 : (q_up σ 229 5 0) = σ2
    replace hF := q_let e3 hF
    refine q_callV C hfl mw_X9_of mi_X9_of me_X9_of lk_X9_52 (k_X9_of t 6 σ2 ((hP.2 c1) σ2 e3).1) (rest := [.ref 229]) rfl rfl rfl (by decide) (by decide) rfl (q_dc (z := (26, .invokevirtual 52, 3, 0, 0)) tk_X9_isNoResult 15 rfl) (Nat.le_of_ble_eq_true rfl) ⟨Nat.le_of_ble_eq_true rfl, Nat.le_of_ble_eq_true rfl⟩ ⟨Nat.le_of_ble_eq_true rfl, Nat.le_of_ble_eq_true rfl⟩ ?_
    refine q_nrm 29 [.int (F_X9_of t 6 σ2), .ref 229] 0 0 rfl rfl rfl rfl ?_
    refine q_go C tk_X9_isNoResult [(16, 1)] [] (pc1 := 30) (σ1 := σ2) (lv1 := [(0, .ref 229), (1, .int t)]) (st1 := [.int 2, .int (F_X9_of t 6 σ2), .ref 229]) rfl trivial ?_
    by_cases c4 : (F_X9_of t 6 σ2) = 2
    · rw [if_pos c4] at hF
      refine q_go C tk_X9_isNoResult [(17, 1), (20, 2)] [true] (pc1 := 39) (σ1 := σ2) (lv1 := [(0, .ref 229), (1, .int t)]) (st1 := [.int 2, .int 0, .ref 229]) rfl ⟨c4, trivial⟩ ?_
      refine q_callV C hfl mw_X9_isThrown mi_X9_isThrown me_X9_isThrown lk_X9_63 (k_X9_isThrownZ 0 2 σ2 (by decide)) (rest := []) rfl rfl rfl (by decide) (by decide) rfl (q_dc (z := (39, .invokevirtual 63, 3, 0, 0)) tk_X9_isNoResult 22 rfl) (Nat.le_of_ble_eq_true rfl) ⟨Nat.le_of_ble_eq_true rfl, Nat.le_of_ble_eq_true rfl⟩ ⟨Nat.le_of_ble_eq_true rfl, Nat.le_of_ble_eq_true rfl⟩ ?_
      refine q_nrm 42 [.int 0] 0 0 rfl rfl rfl rfl ?_
      refine q_go C tk_X9_isNoResult [(23, 1), (26, 1)] [true] (pc1 := 50) (σ1 := (q_up σ2 229 5 0)) (lv1 := [(0, .ref 229), (1, .int t)]) (st1 := [.int 0]) rfl ⟨(by decide : (0 : Int32) = 0), trivial⟩ ?_
      exact q_zret C hr (q_dc (z := (50, .ireturn, 1, 0, 0)) tk_X9_isNoResult 27 rfl) (by decide +kernel) (congrArg Prod.snd hF) (congrArg (fun z => q_oi z.1) hF.symm) (Nat.le_of_ble_eq_true rfl) (Nat.le_of_ble_eq_true rfl)
    · rw [if_neg c4] at hF
      refine q_go C tk_X9_isNoResult [(17, 3), (21, 1)] [false] (pc1 := 39) (σ1 := σ2) (lv1 := [(0, .ref 229), (1, .int t)]) (st1 := [.int 2, .int 1, .ref 229]) rfl ⟨c4, trivial⟩ ?_
      refine q_callV C hfl mw_X9_isThrown mi_X9_isThrown me_X9_isThrown lk_X9_63 (k_X9_isThrownN 1 2 σ2 (by decide) (by decide)) (rest := []) rfl rfl rfl (by decide) (by decide) rfl (q_dc (z := (39, .invokevirtual 63, 3, 0, 0)) tk_X9_isNoResult 22 rfl) (Nat.le_of_ble_eq_true rfl) ⟨Nat.le_of_ble_eq_true rfl, Nat.le_of_ble_eq_true rfl⟩ ⟨Nat.le_of_ble_eq_true rfl, Nat.le_of_ble_eq_true rfl⟩ ?_
      refine q_nrm 42 [.int 1] 0 0 rfl rfl rfl rfl ?_
      refine q_go C tk_X9_isNoResult [(23, 3)] [false] (pc1 := 50) (σ1 := (q_up σ2 229 5 2)) (lv1 := [(0, .ref 229), (1, .int t)]) (st1 := [.int 1]) rfl ⟨(by decide : ¬ (1 : Int32) = 0), trivial⟩ ?_
      exact q_zret C hr (q_dc (z := (50, .ireturn, 1, 0, 0)) tk_X9_isNoResult 27 rfl) (by decide +kernel) (congrArg Prod.snd hF) (congrArg (fun z => q_oi z.1) hF.symm) (Nat.le_of_ble_eq_true rfl) (Nat.le_of_ble_eq_true rfl)
def F_X9_result (t : Int32) (σ : q_M) : Int32 := ((F_X9_of t 18 σ) + (F_X9_of t 5 σ))
def P_X9_result (t : Int32) (σ : q_M) : Prop := ((P_X9_of t 18 σ) ∧ ((P_X9_of t 5 σ) ∧ True))
set_option maxRecDepth 100000 in
theorem k_X9_result {α β : Nat → Nat} {D : va_G} {κ : Nat → ClassId} (t : Int32) (σ : q_M) (hP : P_X9_result t σ) : q_C α β D κ yX9_result cX9_result 2 (Option.some Jvm.ClassFile.FieldType.int) 1 22 0 0 [.ref 229, .int t] σ (q_oi (F_X9_result t σ)) σ := by
  refine q_enter (own := RX9) (F := F_X9) (G := G_X9) (by decide +kernel) rfl Fok_X9 Gok_X9 (Nat.le_of_ble_eq_true rfl) (fun p l e s m args below meth c A hfl C hr hT => ?_)
  generalize hF : F_X9_result t σ = rr
  unfold F_X9_result at hF
  refine q_go C tk_X9_result [(0, 3)] [] (pc1 := 4) (σ1 := σ) (lv1 := [(0, .ref 229), (1, .int t)]) (st1 := [.int 18, .int t, .ref 229]) rfl trivial ?_
  refine q_callV C hfl mw_X9_of mi_X9_of me_X9_of lk_X9_52 (k_X9_of t 18 σ hP.1) (rest := []) rfl rfl rfl (by decide) (by decide) rfl (q_dc (z := (4, .invokevirtual 52, 3, 0, 0)) tk_X9_result 3 rfl) (Nat.le_of_ble_eq_true rfl) ⟨Nat.le_of_ble_eq_true rfl, Nat.le_of_ble_eq_true rfl⟩ ⟨Nat.le_of_ble_eq_true rfl, Nat.le_of_ble_eq_true rfl⟩ ?_
  refine q_nrm 7 [.int (F_X9_of t 18 σ)] 0 0 rfl rfl rfl rfl ?_
  refine q_go C tk_X9_result [(4, 3)] [] (pc1 := 10) (σ1 := σ) (lv1 := [(0, .ref 229), (1, .int t)]) (st1 := [.int 5, .int t, .ref 229, .int (F_X9_of t 18 σ)]) rfl trivial ?_
  refine q_callV C hfl mw_X9_of mi_X9_of me_X9_of lk_X9_52 (k_X9_of t 5 σ hP.2.1) (rest := [.int (F_X9_of t 18 σ)]) rfl rfl rfl (by decide) (by decide) rfl (q_dc (z := (10, .invokevirtual 52, 3, 0, 0)) tk_X9_result 7 rfl) (Nat.le_of_ble_eq_true rfl) ⟨Nat.le_of_ble_eq_true rfl, Nat.le_of_ble_eq_true rfl⟩ ⟨Nat.le_of_ble_eq_true rfl, Nat.le_of_ble_eq_true rfl⟩ ?_
  refine q_nrm 13 [.int (F_X9_of t 5 σ), .int (F_X9_of t 18 σ)] 0 0 rfl rfl rfl rfl ?_
  refine q_go C tk_X9_result [(8, 1)] [] (pc1 := 14) (σ1 := σ) (lv1 := [(0, .ref 229), (1, .int t)]) (st1 := [.int ((F_X9_of t 18 σ) + (F_X9_of t 5 σ))]) rfl trivial ?_
  exact q_iret C hr (q_dc (z := (14, .ireturn, 1, 0, 0)) tk_X9_result 9 rfl) rfl (congrArg q_oi hF.symm) (Nat.le_of_ble_eq_true rfl) (Nat.le_of_ble_eq_true rfl)
def F_X9_timeOf (t : Int32) (σ : q_M) : (Int32) × q_M := (q_L (F_X9_isNoResult t σ).2 (fun σ1 : q_M => (if (F_X9_isNoResult t σ).1 = 0 then ((F_X9_of t 18 σ1), σ1) else (0, σ1))))
def P_X9_timeOf (t : Int32) (σ : q_M) : Prop := ((P_X9_isNoResult t σ) ∧ (∀ σ1 : q_M, (F_X9_isNoResult t σ).2 = σ1 → (((F_X9_isNoResult t σ).1 = 0 → ((P_X9_of t 18 σ1) ∧ True)) ∧ (¬ (F_X9_isNoResult t σ).1 = 0 → True))))
set_option maxRecDepth 100000 in
theorem k_X9_timeOf {α β : Nat → Nat} {D : va_G} {κ : Nat → ClassId} (t : Int32) (σ : q_M) (hP : P_X9_timeOf t σ) : q_C α β D κ yX9_timeOf cX9_timeOf 2 (Option.some Jvm.ClassFile.FieldType.int) 3 64 0 0 [.ref 229, .int t] σ (q_oi (F_X9_timeOf t σ).1) (F_X9_timeOf t σ).2 := by
  refine q_enter (own := RX9) (F := F_X9) (G := G_X9) (by decide +kernel) rfl Fok_X9 Gok_X9 (Nat.le_of_ble_eq_true rfl) (fun p l e s m args below meth c A hfl C hr hT => ?_)
  generalize hF : F_X9_timeOf t σ = rr
  unfold F_X9_timeOf at hF
  refine q_go C tk_X9_timeOf [(0, 2)] [] (pc1 := 2) (σ1 := σ) (lv1 := [(0, .ref 229), (1, .int t)]) (st1 := [.int t, .ref 229]) rfl trivial ?_
  refine q_callV C hfl mw_X9_isNoResult mi_X9_isNoResult me_X9_isNoResult lk_X9_148 (k_X9_isNoResult t σ hP.1) (rest := []) rfl rfl rfl (by decide) (by decide) rfl (q_dc (z := (2, .invokevirtual 148, 3, 0, 0)) tk_X9_timeOf 2 rfl) (Nat.le_of_ble_eq_true rfl) ⟨Nat.le_of_ble_eq_true rfl, Nat.le_of_ble_eq_true rfl⟩ ⟨Nat.le_of_ble_eq_true rfl, Nat.le_of_ble_eq_true rfl⟩ ?_
  refine q_nrm 5 [.int (F_X9_isNoResult t σ).1] 0 0 rfl rfl rfl rfl ?_
  generalize e2 : (F_X9_isNoResult t σ).2 = σ1
  replace hF := q_let e2 hF
  by_cases c3 : (F_X9_isNoResult t σ).1 = 0
  · rw [if_pos c3] at hF
    refine q_go C tk_X9_timeOf [(3, 1), (6, 3)] [true] (pc1 := 16) (σ1 := σ1) (lv1 := [(0, .ref 229), (1, .int t)]) (st1 := [.int 18, .int t, .ref 229]) rfl ⟨c3, trivial⟩ ?_
    refine q_callV C hfl mw_X9_of mi_X9_of me_X9_of lk_X9_52 (k_X9_of t 18 σ1 ((hP.2 σ1 e2).1 c3).1) (rest := []) rfl rfl rfl (by decide) (by decide) rfl (q_dc (z := (16, .invokevirtual 52, 3, 0, 0)) tk_X9_timeOf 9 rfl) (Nat.le_of_ble_eq_true rfl) ⟨Nat.le_of_ble_eq_true rfl, Nat.le_of_ble_eq_true rfl⟩ ⟨Nat.le_of_ble_eq_true rfl, Nat.le_of_ble_eq_true rfl⟩ ?_
    refine q_nrm 19 [.int (F_X9_of t 18 σ1)] 0 0 rfl rfl rfl rfl ?_
    exact q_iret C hr (q_dc (z := (19, .ireturn, 1, 0, 0)) tk_X9_timeOf 10 rfl) (congrArg Prod.snd hF) (congrArg (fun z => q_oi z.1) hF.symm) (Nat.le_of_ble_eq_true rfl) (Nat.le_of_ble_eq_true rfl)
  · rw [if_neg c3] at hF
    refine q_go C tk_X9_timeOf [(3, 3)] [false] (pc1 := 19) (σ1 := σ1) (lv1 := [(0, .ref 229), (1, .int t)]) (st1 := [.int 0]) rfl ⟨c3, trivial⟩ ?_
    exact q_iret C hr (q_dc (z := (19, .ireturn, 1, 0, 0)) tk_X9_timeOf 10 rfl) (congrArg Prod.snd hF) (congrArg (fun z => q_oi z.1) hF.symm) (Nat.le_of_ble_eq_true rfl) (Nat.le_of_ble_eq_true rfl)
def F_X9_resultOf (t : Int32) (σ : q_M) : (Int32) × q_M := (q_L (F_X9_isNoResult t σ).2 (fun σ1 : q_M => (if (F_X9_isNoResult t σ).1 = 0 then ((F_X9_result t σ1), σ1) else (0, σ1))))
def P_X9_resultOf (t : Int32) (σ : q_M) : Prop := ((P_X9_isNoResult t σ) ∧ (∀ σ1 : q_M, (F_X9_isNoResult t σ).2 = σ1 → (((F_X9_isNoResult t σ).1 = 0 → ((P_X9_result t σ1) ∧ True)) ∧ (¬ (F_X9_isNoResult t σ).1 = 0 → True))))
set_option maxRecDepth 100000 in
theorem k_X9_resultOf {α β : Nat → Nat} {D : va_G} {κ : Nat → ClassId} (t : Int32) (σ : q_M) (hP : P_X9_resultOf t σ) : q_C α β D κ yX9_resultOf cX9_resultOf 2 (Option.some Jvm.ClassFile.FieldType.int) 3 64 0 0 [.ref 229, .int t] σ (q_oi (F_X9_resultOf t σ).1) (F_X9_resultOf t σ).2 := by
  refine q_enter (own := RX9) (F := F_X9) (G := G_X9) (by decide +kernel) rfl Fok_X9 Gok_X9 (Nat.le_of_ble_eq_true rfl) (fun p l e s m args below meth c A hfl C hr hT => ?_)
  generalize hF : F_X9_resultOf t σ = rr
  unfold F_X9_resultOf at hF
  refine q_go C tk_X9_resultOf [(0, 2)] [] (pc1 := 2) (σ1 := σ) (lv1 := [(0, .ref 229), (1, .int t)]) (st1 := [.int t, .ref 229]) rfl trivial ?_
  refine q_callV C hfl mw_X9_isNoResult mi_X9_isNoResult me_X9_isNoResult lk_X9_148 (k_X9_isNoResult t σ hP.1) (rest := []) rfl rfl rfl (by decide) (by decide) rfl (q_dc (z := (2, .invokevirtual 148, 3, 0, 0)) tk_X9_resultOf 2 rfl) (Nat.le_of_ble_eq_true rfl) ⟨Nat.le_of_ble_eq_true rfl, Nat.le_of_ble_eq_true rfl⟩ ⟨Nat.le_of_ble_eq_true rfl, Nat.le_of_ble_eq_true rfl⟩ ?_
  refine q_nrm 5 [.int (F_X9_isNoResult t σ).1] 0 0 rfl rfl rfl rfl ?_
  generalize e2 : (F_X9_isNoResult t σ).2 = σ1
  replace hF := q_let e2 hF
  by_cases c3 : (F_X9_isNoResult t σ).1 = 0
  · rw [if_pos c3] at hF
    refine q_go C tk_X9_resultOf [(3, 1), (6, 2)] [true] (pc1 := 14) (σ1 := σ1) (lv1 := [(0, .ref 229), (1, .int t)]) (st1 := [.int t, .ref 229]) rfl ⟨c3, trivial⟩ ?_
    refine q_callV C hfl mw_X9_result mi_X9_result me_X9_result lk_X9_151 (k_X9_result t σ1 ((hP.2 σ1 e2).1 c3).1) (rest := []) rfl rfl rfl (by decide) (by decide) rfl (q_dc (z := (14, .invokevirtual 151, 3, 0, 0)) tk_X9_resultOf 8 rfl) (Nat.le_of_ble_eq_true rfl) ⟨Nat.le_of_ble_eq_true rfl, Nat.le_of_ble_eq_true rfl⟩ ⟨Nat.le_of_ble_eq_true rfl, Nat.le_of_ble_eq_true rfl⟩ ?_
    refine q_nrm 17 [.int (F_X9_result t σ1)] 0 0 rfl rfl rfl rfl ?_
    exact q_iret C hr (q_dc (z := (17, .ireturn, 1, 0, 0)) tk_X9_resultOf 9 rfl) (congrArg Prod.snd hF) (congrArg (fun z => q_oi z.1) hF.symm) (Nat.le_of_ble_eq_true rfl) (Nat.le_of_ble_eq_true rfl)
  · rw [if_neg c3] at hF
    refine q_go C tk_X9_resultOf [(3, 3)] [false] (pc1 := 17) (σ1 := σ1) (lv1 := [(0, .ref 229), (1, .int t)]) (st1 := [.int 0]) rfl ⟨c3, trivial⟩ ?_
    exact q_iret C hr (q_dc (z := (17, .ireturn, 1, 0, 0)) tk_X9_resultOf 9 rfl) (congrArg Prod.snd hF) (congrArg (fun z => q_oi z.1) hF.symm) (Nat.le_of_ble_eq_true rfl) (Nat.le_of_ble_eq_true rfl)
def F_X9_group (t : Int32) (σ : q_M) : Int32 := (q_L (F_X9_of t 6 σ) (fun x1 : Int32 => (if x1 = 2 then 0 else (if x1 = 3 then 2 else 1))))
def P_X9_group (t : Int32) (σ : q_M) : Prop := ((P_X9_of t 6 σ) ∧ True)
set_option maxRecDepth 100000 in
theorem k_X9_group {α β : Nat → Nat} {D : va_G} {κ : Nat → ClassId} (t : Int32) (σ : q_M) (hP : P_X9_group t σ) : q_C α β D κ yX9_group cX9_group 3 (Option.some Jvm.ClassFile.FieldType.int) 1 22 0 0 [.ref 229, .int t] σ (q_oi (F_X9_group t σ)) σ := by
  refine q_enter (own := RX9) (F := F_X9) (G := G_X9) (by decide +kernel) rfl Fok_X9 Gok_X9 (Nat.le_of_ble_eq_true rfl) (fun p l e s m args below meth c A hfl C hr hT => ?_)
  generalize hF : F_X9_group t σ = rr
  unfold F_X9_group at hF
  refine q_go C tk_X9_group [(0, 3)] [] (pc1 := 4) (σ1 := σ) (lv1 := [(0, .ref 229), (1, .int t)]) (st1 := [.int 6, .int t, .ref 229]) rfl trivial ?_
  refine q_callV C hfl mw_X9_of mi_X9_of me_X9_of lk_X9_52 (k_X9_of t 6 σ hP.1) (rest := []) rfl rfl rfl (by decide) (by decide) rfl (q_dc (z := (4, .invokevirtual 52, 3, 0, 0)) tk_X9_group 3 rfl) (Nat.le_of_ble_eq_true rfl) ⟨Nat.le_of_ble_eq_true rfl, Nat.le_of_ble_eq_true rfl⟩ ⟨Nat.le_of_ble_eq_true rfl, Nat.le_of_ble_eq_true rfl⟩ ?_
  refine q_nrm 7 [.int (F_X9_of t 6 σ)] 0 0 rfl rfl rfl rfl ?_
  generalize e2 : (F_X9_of t 6 σ) = x1
  replace hF := q_let e2 hF
  refine q_go C tk_X9_group [(4, 3)] [] (pc1 := 10) (σ1 := σ) (lv1 := [(2, .int x1), (0, .ref 229), (1, .int t)]) (st1 := [.int 2, .int x1]) rfl trivial ?_
  by_cases c3 : x1 = 2
  · rw [if_pos c3] at hF
    refine q_go C tk_X9_group [(7, 3)] [false] (pc1 := 27) (σ1 := σ) (lv1 := [(2, .int x1), (0, .ref 229), (1, .int t)]) (st1 := [.int 0]) rfl ⟨c3, trivial⟩ ?_
    exact q_iret C hr (q_dc (z := (27, .ireturn, 1, 0, 0)) tk_X9_group 16 rfl) rfl (congrArg q_oi hF.symm) (Nat.le_of_ble_eq_true rfl) (Nat.le_of_ble_eq_true rfl)
  · rw [if_neg c3] at hF
    refine q_go C tk_X9_group [(7, 1), (10, 2)] [true] (pc1 := 19) (σ1 := σ) (lv1 := [(2, .int x1), (0, .ref 229), (1, .int t)]) (st1 := [.int 3, .int x1]) rfl ⟨c3, trivial⟩ ?_
    by_cases c4 : x1 = 3
    · rw [if_pos c4] at hF
      refine q_go C tk_X9_group [(12, 3)] [false] (pc1 := 27) (σ1 := σ) (lv1 := [(2, .int x1), (0, .ref 229), (1, .int t)]) (st1 := [.int 2]) rfl ⟨c4, trivial⟩ ?_
      exact q_iret C hr (q_dc (z := (27, .ireturn, 1, 0, 0)) tk_X9_group 16 rfl) rfl (congrArg q_oi hF.symm) (Nat.le_of_ble_eq_true rfl) (Nat.le_of_ble_eq_true rfl)
    · rw [if_neg c4] at hF
      refine q_go C tk_X9_group [(12, 1), (15, 1)] [true] (pc1 := 27) (σ1 := σ) (lv1 := [(2, .int x1), (0, .ref 229), (1, .int t)]) (st1 := [.int 1]) rfl ⟨c4, trivial⟩ ?_
      exact q_iret C hr (q_dc (z := (27, .ireturn, 1, 0, 0)) tk_X9_group 16 rfl) rfl (congrArg q_oi hF.symm) (Nat.le_of_ble_eq_true rfl) (Nat.le_of_ble_eq_true rfl)
def F_X9_isAhead (a : Int32) (b : Int32) (σ : q_M) : Int32 := (if (F_X9_group a σ) = (F_X9_group b σ) then (q_L (if (F_X9_group a σ) = 0 then ((F_X9_result b σ) - (F_X9_result a σ)) else ((F_X9_of a 7 σ) - (F_X9_of b 7 σ))) (fun x3 : Int32 => (if x3 = 0 then (if (F_X9_of a 4 σ) < (F_X9_of b 4 σ) then 1 else 0) else (if 0 < x3 then 1 else 0)))) else (if (F_X9_group a σ) < (F_X9_group b σ) then 1 else 0))
def P_X9_isAhead (a : Int32) (b : Int32) (σ : q_M) : Prop := ((P_X9_group a σ) ∧ ((P_X9_group b σ) ∧ (((F_X9_group a σ) = (F_X9_group b σ) → ((P_X9_group a σ) ∧ ((((F_X9_group a σ) = 0 → ((P_X9_result b σ) ∧ ((P_X9_result a σ) ∧ True))) ∧ (¬ (F_X9_group a σ) = 0 → ((P_X9_of a 7 σ) ∧ ((P_X9_of b 7 σ) ∧ True)))) ∧ (∀ x3 : Int32, (if (F_X9_group a σ) = 0 then ((F_X9_result b σ) - (F_X9_result a σ)) else ((F_X9_of a 7 σ) - (F_X9_of b 7 σ))) = x3 → ((x3 = 0 → ((P_X9_of a 4 σ) ∧ ((P_X9_of b 4 σ) ∧ True))) ∧ (¬ x3 = 0 → True)))))) ∧ (¬ (F_X9_group a σ) = (F_X9_group b σ) → ((P_X9_group a σ) ∧ ((P_X9_group b σ) ∧ True))))))
set_option maxRecDepth 100000 in
theorem k_X9_isAhead {α β : Nat → Nat} {D : va_G} {κ : Nat → ClassId} (a : Int32) (b : Int32) (σ : q_M) (hP : P_X9_isAhead a b σ) : q_C α β D κ yX9_isAhead cX9_isAhead 4 (Option.some Jvm.ClassFile.FieldType.boolean) 2 44 0 0 [.ref 229, .int a, .int b] σ (q_oi (F_X9_isAhead a b σ)) σ := by
  refine q_enter (own := RX9) (F := F_X9) (G := G_X9) (by decide +kernel) rfl Fok_X9 Gok_X9 (Nat.le_of_ble_eq_true rfl) (fun p l e s m args below meth c A hfl C hr hT => ?_)
  generalize hF : F_X9_isAhead a b σ = rr
  unfold F_X9_isAhead at hF
  refine q_go C tk_X9_isAhead [(0, 2)] [] (pc1 := 2) (σ1 := σ) (lv1 := [(0, .ref 229), (1, .int a), (2, .int b)]) (st1 := [.int a, .ref 229]) rfl trivial ?_
  refine q_callV C hfl mw_X9_group mi_X9_group me_X9_group lk_X9_154 (k_X9_group a σ hP.1) (rest := []) rfl rfl rfl (by decide) (by decide) rfl (q_dc (z := (2, .invokevirtual 154, 3, 0, 0)) tk_X9_isAhead 2 rfl) (Nat.le_of_ble_eq_true rfl) ⟨Nat.le_of_ble_eq_true rfl, Nat.le_of_ble_eq_true rfl⟩ ⟨Nat.le_of_ble_eq_true rfl, Nat.le_of_ble_eq_true rfl⟩ ?_
  refine q_nrm 5 [.int (F_X9_group a σ)] 0 0 rfl rfl rfl rfl ?_
  refine q_go C tk_X9_isAhead [(3, 2)] [] (pc1 := 7) (σ1 := σ) (lv1 := [(0, .ref 229), (1, .int a), (2, .int b)]) (st1 := [.int b, .ref 229, .int (F_X9_group a σ)]) rfl trivial ?_
  refine q_callV C hfl mw_X9_group mi_X9_group me_X9_group lk_X9_154 (k_X9_group b σ hP.2.1) (rest := [.int (F_X9_group a σ)]) rfl rfl rfl (by decide) (by decide) rfl (q_dc (z := (7, .invokevirtual 154, 3, 0, 0)) tk_X9_isAhead 5 rfl) (Nat.le_of_ble_eq_true rfl) ⟨Nat.le_of_ble_eq_true rfl, Nat.le_of_ble_eq_true rfl⟩ ⟨Nat.le_of_ble_eq_true rfl, Nat.le_of_ble_eq_true rfl⟩ ?_
  refine q_nrm 10 [.int (F_X9_group b σ), .int (F_X9_group a σ)] 0 0 rfl rfl rfl rfl ?_
  by_cases c1 : (F_X9_group a σ) = (F_X9_group b σ)
  · rw [if_pos c1] at hF
    refine q_go C tk_X9_isAhead [(6, 1), (18, 2)] [true] (pc1 := 34) (σ1 := σ) (lv1 := [(0, .ref 229), (1, .int a), (2, .int b)]) (st1 := [.int a, .ref 229]) rfl ⟨c1, trivial⟩ ?_
    refine q_callV C hfl mw_X9_group mi_X9_group me_X9_group lk_X9_154 (k_X9_group a σ (hP.2.2.1 c1).1) (rest := []) rfl rfl rfl (by decide) (by decide) rfl (q_dc (z := (34, .invokevirtual 154, 3, 0, 0)) tk_X9_isAhead 20 rfl) (Nat.le_of_ble_eq_true rfl) ⟨Nat.le_of_ble_eq_true rfl, Nat.le_of_ble_eq_true rfl⟩ ⟨Nat.le_of_ble_eq_true rfl, Nat.le_of_ble_eq_true rfl⟩ ?_
    refine q_nrm 37 [.int (F_X9_group a σ)] 0 0 rfl rfl rfl rfl ?_
    refine q_mrg (v := (if (F_X9_group a σ) = 0 then ((F_X9_result b σ) - (F_X9_result a σ)) else ((F_X9_of a 7 σ) - (F_X9_of b 7 σ)))) (M := 69) (σ1 := σ) (lv1 := [(0, .ref 229), (1, .int a), (2, .int b)]) (st1 := []) (fun x3 e4 => ?_) (fun K => ?_)
    · replace hF := q_let e4 hF
      refine q_go C tk_X9_isAhead [(39, 2)] [] (pc1 := 71) (σ1 := σ) (lv1 := [(3, .int x3), (0, .ref 229), (1, .int a), (2, .int b)]) (st1 := [.int x3]) rfl trivial ?_
      by_cases c5 : x3 = 0
      · rw [if_pos c5] at hF
        refine q_go C tk_X9_isAhead [(41, 1), (48, 3)] [true] (pc1 := 89) (σ1 := σ) (lv1 := [(3, .int x3), (0, .ref 229), (1, .int a), (2, .int b)]) (st1 := [.int 4, .int a, .ref 229]) rfl ⟨c5, trivial⟩ ?_
        refine q_callV C hfl mw_X9_of mi_X9_of me_X9_of lk_X9_52 (k_X9_of a 4 σ (((hP.2.2.1 c1).2.2 x3 e4).1 c5).1) (rest := []) rfl rfl rfl (by decide) (by decide) rfl (q_dc (z := (89, .invokevirtual 52, 3, 0, 0)) tk_X9_isAhead 51 rfl) (Nat.le_of_ble_eq_true rfl) ⟨Nat.le_of_ble_eq_true rfl, Nat.le_of_ble_eq_true rfl⟩ ⟨Nat.le_of_ble_eq_true rfl, Nat.le_of_ble_eq_true rfl⟩ ?_
        refine q_nrm 92 [.int (F_X9_of a 4 σ)] 0 0 rfl rfl rfl rfl ?_
        refine q_go C tk_X9_isAhead [(52, 3)] [] (pc1 := 95) (σ1 := σ) (lv1 := [(3, .int x3), (0, .ref 229), (1, .int a), (2, .int b)]) (st1 := [.int 4, .int b, .ref 229, .int (F_X9_of a 4 σ)]) rfl trivial ?_
        refine q_callV C hfl mw_X9_of mi_X9_of me_X9_of lk_X9_52 (k_X9_of b 4 σ (((hP.2.2.1 c1).2.2 x3 e4).1 c5).2.1) (rest := [.int (F_X9_of a 4 σ)]) rfl rfl rfl (by decide) (by decide) rfl (q_dc (z := (95, .invokevirtual 52, 3, 0, 0)) tk_X9_isAhead 55 rfl) (Nat.le_of_ble_eq_true rfl) ⟨Nat.le_of_ble_eq_true rfl, Nat.le_of_ble_eq_true rfl⟩ ⟨Nat.le_of_ble_eq_true rfl, Nat.le_of_ble_eq_true rfl⟩ ?_
        refine q_nrm 98 [.int (F_X9_of b 4 σ), .int (F_X9_of a 4 σ)] 0 0 rfl rfl rfl rfl ?_
        by_cases c6 : (F_X9_of a 4 σ) < (F_X9_of b 4 σ)
        · rw [if_pos c6] at hF
          refine q_go C tk_X9_isAhead [(56, 3)] [false] (pc1 := 106) (σ1 := σ) (lv1 := [(3, .int x3), (0, .ref 229), (1, .int a), (2, .int b)]) (st1 := [.int 1]) rfl ⟨c6, trivial⟩ ?_
          exact q_zret C hr (q_dc (z := (106, .ireturn, 1, 0, 0)) tk_X9_isAhead 60 rfl) (by decide +kernel) rfl (congrArg q_oi hF.symm) (Nat.le_of_ble_eq_true rfl) (Nat.le_of_ble_eq_true rfl)
        · rw [if_neg c6] at hF
          refine q_go C tk_X9_isAhead [(56, 1), (59, 1)] [true] (pc1 := 106) (σ1 := σ) (lv1 := [(3, .int x3), (0, .ref 229), (1, .int a), (2, .int b)]) (st1 := [.int 0]) rfl ⟨c6, trivial⟩ ?_
          exact q_zret C hr (q_dc (z := (106, .ireturn, 1, 0, 0)) tk_X9_isAhead 60 rfl) (by decide +kernel) rfl (congrArg q_oi hF.symm) (Nat.le_of_ble_eq_true rfl) (Nat.le_of_ble_eq_true rfl)
      · rw [if_neg c5] at hF
        refine q_go C tk_X9_isAhead [(41, 2)] [false] (pc1 := 75) (σ1 := σ) (lv1 := [(3, .int x3), (0, .ref 229), (1, .int a), (2, .int b)]) (st1 := [.int x3]) rfl ⟨c5, trivial⟩ ?_
        by_cases c7 : 0 < x3
        · rw [if_pos c7] at hF
          refine q_go C tk_X9_isAhead [(43, 3)] [false] (pc1 := 106) (σ1 := σ) (lv1 := [(3, .int x3), (0, .ref 229), (1, .int a), (2, .int b)]) (st1 := [.int 1]) rfl ⟨c7, trivial⟩ ?_
          exact q_zret C hr (q_dc (z := (106, .ireturn, 1, 0, 0)) tk_X9_isAhead 60 rfl) (by decide +kernel) rfl (congrArg q_oi hF.symm) (Nat.le_of_ble_eq_true rfl) (Nat.le_of_ble_eq_true rfl)
        · rw [if_neg c7] at hF
          refine q_go C tk_X9_isAhead [(43, 1), (46, 2)] [true] (pc1 := 106) (σ1 := σ) (lv1 := [(3, .int x3), (0, .ref 229), (1, .int a), (2, .int b)]) (st1 := [.int 0]) rfl ⟨c7, trivial⟩ ?_
          exact q_zret C hr (q_dc (z := (106, .ireturn, 1, 0, 0)) tk_X9_isAhead 60 rfl) (by decide +kernel) rfl (congrArg q_oi hF.symm) (Nat.le_of_ble_eq_true rfl) (Nat.le_of_ble_eq_true rfl)
    · clear hF
      by_cases c2 : (F_X9_group a σ) = 0
      · skip
        refine q_go C tk_X9_isAhead [(21, 3)] [false] (pc1 := 42) (σ1 := σ) (lv1 := [(0, .ref 229), (1, .int a), (2, .int b)]) (st1 := [.int b, .ref 229]) rfl ⟨c2, trivial⟩ ?_
        refine q_callV C hfl mw_X9_result mi_X9_result me_X9_result lk_X9_151 (k_X9_result b σ ((hP.2.2.1 c1).2.1.1 c2).1) (rest := []) rfl rfl rfl (by decide) (by decide) rfl (q_dc (z := (42, .invokevirtual 151, 3, 0, 0)) tk_X9_isAhead 24 rfl) (Nat.le_of_ble_eq_true rfl) ⟨Nat.le_of_ble_eq_true rfl, Nat.le_of_ble_eq_true rfl⟩ ⟨Nat.le_of_ble_eq_true rfl, Nat.le_of_ble_eq_true rfl⟩ ?_
        refine q_nrm 45 [.int (F_X9_result b σ)] 0 0 rfl rfl rfl rfl ?_
        refine q_go C tk_X9_isAhead [(25, 2)] [] (pc1 := 47) (σ1 := σ) (lv1 := [(0, .ref 229), (1, .int a), (2, .int b)]) (st1 := [.int a, .ref 229, .int (F_X9_result b σ)]) rfl trivial ?_
        refine q_callV C hfl mw_X9_result mi_X9_result me_X9_result lk_X9_151 (k_X9_result a σ ((hP.2.2.1 c1).2.1.1 c2).2.1) (rest := [.int (F_X9_result b σ)]) rfl rfl rfl (by decide) (by decide) rfl (q_dc (z := (47, .invokevirtual 151, 3, 0, 0)) tk_X9_isAhead 27 rfl) (Nat.le_of_ble_eq_true rfl) ⟨Nat.le_of_ble_eq_true rfl, Nat.le_of_ble_eq_true rfl⟩ ⟨Nat.le_of_ble_eq_true rfl, Nat.le_of_ble_eq_true rfl⟩ ?_
        refine q_nrm 50 [.int (F_X9_result a σ), .int (F_X9_result b σ)] 0 0 rfl rfl rfl rfl ?_
        refine q_go C tk_X9_isAhead [(28, 2)] [] (pc1 := 69) (σ1 := σ) (lv1 := [(0, .ref 229), (1, .int a), (2, .int b)]) (st1 := [.int ((F_X9_result b σ) - (F_X9_result a σ))]) rfl trivial ?_
        rw [if_pos c2] at K; exact K
      · skip
        refine q_go C tk_X9_isAhead [(21, 1), (30, 3)] [true] (pc1 := 58) (σ1 := σ) (lv1 := [(0, .ref 229), (1, .int a), (2, .int b)]) (st1 := [.int 7, .int a, .ref 229]) rfl ⟨c2, trivial⟩ ?_
        refine q_callV C hfl mw_X9_of mi_X9_of me_X9_of lk_X9_52 (k_X9_of a 7 σ ((hP.2.2.1 c1).2.1.2 c2).1) (rest := []) rfl rfl rfl (by decide) (by decide) rfl (q_dc (z := (58, .invokevirtual 52, 3, 0, 0)) tk_X9_isAhead 33 rfl) (Nat.le_of_ble_eq_true rfl) ⟨Nat.le_of_ble_eq_true rfl, Nat.le_of_ble_eq_true rfl⟩ ⟨Nat.le_of_ble_eq_true rfl, Nat.le_of_ble_eq_true rfl⟩ ?_
        refine q_nrm 61 [.int (F_X9_of a 7 σ)] 0 0 rfl rfl rfl rfl ?_
        refine q_go C tk_X9_isAhead [(34, 3)] [] (pc1 := 65) (σ1 := σ) (lv1 := [(0, .ref 229), (1, .int a), (2, .int b)]) (st1 := [.int 7, .int b, .ref 229, .int (F_X9_of a 7 σ)]) rfl trivial ?_
        refine q_callV C hfl mw_X9_of mi_X9_of me_X9_of lk_X9_52 (k_X9_of b 7 σ ((hP.2.2.1 c1).2.1.2 c2).2.1) (rest := [.int (F_X9_of a 7 σ)]) rfl rfl rfl (by decide) (by decide) rfl (q_dc (z := (65, .invokevirtual 52, 3, 0, 0)) tk_X9_isAhead 37 rfl) (Nat.le_of_ble_eq_true rfl) ⟨Nat.le_of_ble_eq_true rfl, Nat.le_of_ble_eq_true rfl⟩ ⟨Nat.le_of_ble_eq_true rfl, Nat.le_of_ble_eq_true rfl⟩ ?_
        refine q_nrm 68 [.int (F_X9_of b 7 σ), .int (F_X9_of a 7 σ)] 0 0 rfl rfl rfl rfl ?_
        refine q_go C tk_X9_isAhead [(38, 1)] [] (pc1 := 69) (σ1 := σ) (lv1 := [(0, .ref 229), (1, .int a), (2, .int b)]) (st1 := [.int ((F_X9_of a 7 σ) - (F_X9_of b 7 σ))]) rfl trivial ?_
        rw [if_neg c2] at K; exact K
  · rw [if_neg c1] at hF
    refine q_go C tk_X9_isAhead [(6, 3)] [false] (pc1 := 15) (σ1 := σ) (lv1 := [(0, .ref 229), (1, .int a), (2, .int b)]) (st1 := [.int a, .ref 229]) rfl ⟨c1, trivial⟩ ?_
    refine q_callV C hfl mw_X9_group mi_X9_group me_X9_group lk_X9_154 (k_X9_group a σ (hP.2.2.2 c1).1) (rest := []) rfl rfl rfl (by decide) (by decide) rfl (q_dc (z := (15, .invokevirtual 154, 3, 0, 0)) tk_X9_isAhead 9 rfl) (Nat.le_of_ble_eq_true rfl) ⟨Nat.le_of_ble_eq_true rfl, Nat.le_of_ble_eq_true rfl⟩ ⟨Nat.le_of_ble_eq_true rfl, Nat.le_of_ble_eq_true rfl⟩ ?_
    refine q_nrm 18 [.int (F_X9_group a σ)] 0 0 rfl rfl rfl rfl ?_
    refine q_go C tk_X9_isAhead [(10, 2)] [] (pc1 := 20) (σ1 := σ) (lv1 := [(0, .ref 229), (1, .int a), (2, .int b)]) (st1 := [.int b, .ref 229, .int (F_X9_group a σ)]) rfl trivial ?_
    refine q_callV C hfl mw_X9_group mi_X9_group me_X9_group lk_X9_154 (k_X9_group b σ (hP.2.2.2 c1).2.1) (rest := [.int (F_X9_group a σ)]) rfl rfl rfl (by decide) (by decide) rfl (q_dc (z := (20, .invokevirtual 154, 3, 0, 0)) tk_X9_isAhead 12 rfl) (Nat.le_of_ble_eq_true rfl) ⟨Nat.le_of_ble_eq_true rfl, Nat.le_of_ble_eq_true rfl⟩ ⟨Nat.le_of_ble_eq_true rfl, Nat.le_of_ble_eq_true rfl⟩ ?_
    refine q_nrm 23 [.int (F_X9_group b σ), .int (F_X9_group a σ)] 0 0 rfl rfl rfl rfl ?_
    by_cases c8 : (F_X9_group a σ) < (F_X9_group b σ)
    · rw [if_pos c8] at hF
      refine q_go C tk_X9_isAhead [(13, 3)] [false] (pc1 := 31) (σ1 := σ) (lv1 := [(0, .ref 229), (1, .int a), (2, .int b)]) (st1 := [.int 1]) rfl ⟨c8, trivial⟩ ?_
      exact q_zret C hr (q_dc (z := (31, .ireturn, 1, 0, 0)) tk_X9_isAhead 17 rfl) (by decide +kernel) rfl (congrArg q_oi hF.symm) (Nat.le_of_ble_eq_true rfl) (Nat.le_of_ble_eq_true rfl)
    · rw [if_neg c8] at hF
      refine q_go C tk_X9_isAhead [(13, 1), (16, 1)] [true] (pc1 := 31) (σ1 := σ) (lv1 := [(0, .ref 229), (1, .int a), (2, .int b)]) (st1 := [.int 0]) rfl ⟨c8, trivial⟩ ?_
      exact q_zret C hr (q_dc (z := (31, .ireturn, 1, 0, 0)) tk_X9_isAhead 17 rfl) (by decide +kernel) rfl (congrArg q_oi hF.symm) (Nat.le_of_ble_eq_true rfl) (Nat.le_of_ble_eq_true rfl)
def F_X9_carries (t : Int32) (σ : q_M) : q_M := (q_L (F_X9_of t 8 σ) (fun x1 : Int32 => (q_L ((F_X9_of t 7 σ) + (F_X9_step (F_X9_of t (0 + x1) σ) (F_X9_of t 9 σ) σ)) (fun x3 : Int32 => (q_L ((F_X9_endOf x1 σ) + 300) (fun x5 : Int32 => (q_L (if x1 < 3 then (if x5 < x3 then x5 else x3) else x3) (fun x9 : Int32 => (q_L (F_X9_sets t 7 x9 σ) (fun σ11 : q_M => (q_L (F_X9_sets t 9 ((F_X9_of t 9 σ11) + 1) σ11) (fun σ13 : q_M => (if x1 = 3 then (if x3 < (F_X9_endOf x1 σ13) then σ13 else (q_L (F_X9_sets t 6 2 σ13) (fun σ17 : q_M => (q_L (F_X9_sets t 18 (σ17 230 2) σ17) (fun σ19 : q_M => (q_L (F_X9_sets t (14 + x1) ((1 + (σ19 230 2)) - (F_X9_of t 13 σ19)) σ19) (fun σ21 : q_M => σ21))))))) else σ13)))))))))))))
def P_X9_carries (t : Int32) (σ : q_M) : Prop := ((P_X9_of t 8 σ) ∧ (∀ x1 : Int32, (F_X9_of t 8 σ) = x1 → ((P_X9_of t 7 σ) ∧ ((P_X9_of t (0 + x1) σ) ∧ ((P_X9_of t 9 σ) ∧ (∀ x3 : Int32, ((F_X9_of t 7 σ) + (F_X9_step (F_X9_of t (0 + x1) σ) (F_X9_of t 9 σ) σ)) = x3 → (∀ x5 : Int32, ((F_X9_endOf x1 σ) + 300) = x5 → (True ∧ (∀ x9 : Int32, (if x1 < 3 then (if x5 < x3 then x5 else x3) else x3) = x9 → ((P_X9_sets t 7 x9 σ) ∧ (∀ σ11 : q_M, (F_X9_sets t 7 x9 σ) = σ11 → ((P_X9_of t 9 σ11) ∧ ((P_X9_sets t 9 ((F_X9_of t 9 σ11) + 1) σ11) ∧ (∀ σ13 : q_M, (F_X9_sets t 9 ((F_X9_of t 9 σ11) + 1) σ11) = σ13 → ((x1 = 3 → ((x3 < (F_X9_endOf x1 σ13) → True) ∧ (¬ x3 < (F_X9_endOf x1 σ13) → ((P_X9_sets t 6 2 σ13) ∧ (∀ σ17 : q_M, (F_X9_sets t 6 2 σ13) = σ17 → ((P_X9_sets t 18 (σ17 230 2) σ17) ∧ (∀ σ19 : q_M, (F_X9_sets t 18 (σ17 230 2) σ17) = σ19 → ((P_X9_of t 13 σ19) ∧ ((P_X9_sets t (14 + x1) ((1 + (σ19 230 2)) - (F_X9_of t 13 σ19)) σ19) ∧ True))))))))) ∧ (¬ x1 = 3 → True))))))))))))))))
set_option maxRecDepth 100000 in
theorem k_X9_carries {α β : Nat → Nat} {D : va_G} {κ : Nat → ClassId} (t : Int32) (σ : q_M) (hP : P_X9_carries t σ) : q_C α β D κ yX9_carries cX9_carries 5 (Option.none : Option Jvm.ClassFile.FieldType) 1 23 0 0 [.ref 229, .int t] σ q_ov (F_X9_carries t σ) := by
  refine q_enter (own := RX9) (F := F_X9) (G := G_X9) (by decide +kernel) rfl Fok_X9 Gok_X9 (Nat.le_of_ble_eq_true rfl) (fun p l e s m args below meth c A hfl C hr hT => ?_)
  generalize hF : F_X9_carries t σ = rr
  unfold F_X9_carries at hF
  refine q_go C tk_X9_carries [(0, 3)] [] (pc1 := 4) (σ1 := σ) (lv1 := [(0, .ref 229), (1, .int t)]) (st1 := [.int 8, .int t, .ref 229]) rfl trivial ?_
  refine q_callV C hfl mw_X9_of mi_X9_of me_X9_of lk_X9_52 (k_X9_of t 8 σ hP.1) (rest := []) rfl rfl rfl (by decide) (by decide) rfl (q_dc (z := (4, .invokevirtual 52, 3, 0, 0)) tk_X9_carries 3 rfl) (Nat.le_of_ble_eq_true rfl) ⟨Nat.le_of_ble_eq_true rfl, Nat.le_of_ble_eq_true rfl⟩ ⟨Nat.le_of_ble_eq_true rfl, Nat.le_of_ble_eq_true rfl⟩ ?_
  refine q_nrm 7 [.int (F_X9_of t 8 σ)] 0 0 rfl rfl rfl rfl ?_
  generalize e2 : (F_X9_of t 8 σ) = x1
  replace hF := q_let e2 hF
  refine q_go C tk_X9_carries [(4, 4)] [] (pc1 := 12) (σ1 := σ) (lv1 := [(2, .int x1), (0, .ref 229), (1, .int t)]) (st1 := [.int 7, .int t, .ref 229]) rfl trivial ?_
  refine q_callV C hfl mw_X9_of mi_X9_of me_X9_of lk_X9_52 (k_X9_of t 7 σ (hP.2 x1 e2).1) (rest := []) rfl rfl rfl (by decide) (by decide) rfl (q_dc (z := (12, .invokevirtual 52, 3, 0, 0)) tk_X9_carries 8 rfl) (Nat.le_of_ble_eq_true rfl) ⟨Nat.le_of_ble_eq_true rfl, Nat.le_of_ble_eq_true rfl⟩ ⟨Nat.le_of_ble_eq_true rfl, Nat.le_of_ble_eq_true rfl⟩ ?_
  refine q_nrm 15 [.int (F_X9_of t 7 σ)] 0 0 rfl rfl rfl rfl ?_
  refine q_go C tk_X9_carries [(9, 5)] [] (pc1 := 20) (σ1 := σ) (lv1 := [(2, .int x1), (0, .ref 229), (1, .int t)]) (st1 := [.int (0 + x1), .int t, .ref 229, .int (F_X9_of t 7 σ)]) rfl trivial ?_
  refine q_callV C hfl mw_X9_of mi_X9_of me_X9_of lk_X9_52 (k_X9_of t (0 + x1) σ (hP.2 x1 e2).2.1) (rest := [.int (F_X9_of t 7 σ)]) rfl rfl rfl (by decide) (by decide) rfl (q_dc (z := (20, .invokevirtual 52, 3, 0, 0)) tk_X9_carries 14 rfl) (Nat.le_of_ble_eq_true rfl) ⟨Nat.le_of_ble_eq_true rfl, Nat.le_of_ble_eq_true rfl⟩ ⟨Nat.le_of_ble_eq_true rfl, Nat.le_of_ble_eq_true rfl⟩ ?_
  refine q_nrm 23 [.int (F_X9_of t (0 + x1) σ), .int (F_X9_of t 7 σ)] 0 0 rfl rfl rfl rfl ?_
  refine q_go C tk_X9_carries [(15, 3)] [] (pc1 := 27) (σ1 := σ) (lv1 := [(2, .int x1), (0, .ref 229), (1, .int t)]) (st1 := [.int 9, .int t, .ref 229, .int (F_X9_of t (0 + x1) σ), .int (F_X9_of t 7 σ)]) rfl trivial ?_
  refine q_callV C hfl mw_X9_of mi_X9_of me_X9_of lk_X9_52 (k_X9_of t 9 σ (hP.2 x1 e2).2.2.1) (rest := [.int (F_X9_of t (0 + x1) σ), .int (F_X9_of t 7 σ)]) rfl rfl rfl (by decide) (by decide) rfl (q_dc (z := (27, .invokevirtual 52, 3, 0, 0)) tk_X9_carries 18 rfl) (Nat.le_of_ble_eq_true rfl) ⟨Nat.le_of_ble_eq_true rfl, Nat.le_of_ble_eq_true rfl⟩ ⟨Nat.le_of_ble_eq_true rfl, Nat.le_of_ble_eq_true rfl⟩ ?_
  refine q_nrm 30 [.int (F_X9_of t 9 σ), .int (F_X9_of t (0 + x1) σ), .int (F_X9_of t 7 σ)] 0 0 rfl rfl rfl rfl ?_
  refine q_callS C hfl mw_X9_step ms_X9_step lk_X9_99 (k_X9_step (F_X9_of t (0 + x1) σ) (F_X9_of t 9 σ) σ) (rest := [.int (F_X9_of t 7 σ)]) rfl rfl (q_dc (z := (30, .invokestatic 99, 3, 0, 0)) tk_X9_carries 19 rfl) (Nat.le_of_ble_eq_true rfl) ⟨Nat.le_of_ble_eq_true rfl, Nat.le_of_ble_eq_true rfl⟩ ⟨Nat.le_of_ble_eq_true rfl, Nat.le_of_ble_eq_true rfl⟩ ?_
  refine q_nrm 33 [.int (F_X9_step (F_X9_of t (0 + x1) σ) (F_X9_of t 9 σ) σ), .int (F_X9_of t 7 σ)] 0 0 rfl rfl rfl rfl ?_
  refine q_go C tk_X9_carries [(20, 1)] [] (pc1 := 34) (σ1 := σ) (lv1 := [(2, .int x1), (0, .ref 229), (1, .int t)]) (st1 := [.int ((F_X9_of t 7 σ) + (F_X9_step (F_X9_of t (0 + x1) σ) (F_X9_of t 9 σ) σ))]) rfl trivial ?_
  generalize e4 : ((F_X9_of t 7 σ) + (F_X9_step (F_X9_of t (0 + x1) σ) (F_X9_of t 9 σ) σ)) = x3
  replace hF := q_let e4 hF
  refine q_go C tk_X9_carries [(21, 3)] [] (pc1 := 37) (σ1 := σ) (lv1 := [(3, .int x3), (2, .int x1), (0, .ref 229), (1, .int t)]) (st1 := [.int x1, .ref 229]) rfl trivial ?_
  refine q_callV C hfl mw_X9_endOf mi_X9_endOf me_X9_endOf lk_X9_96 (k_X9_endOf x1 σ) (rest := []) rfl rfl rfl (by decide) (by decide) rfl (q_dc (z := (37, .invokevirtual 96, 3, 0, 0)) tk_X9_carries 24 rfl) (Nat.le_of_ble_eq_true rfl) ⟨Nat.le_of_ble_eq_true rfl, Nat.le_of_ble_eq_true rfl⟩ ⟨Nat.le_of_ble_eq_true rfl, Nat.le_of_ble_eq_true rfl⟩ ?_
  refine q_nrm 40 [.int (F_X9_endOf x1 σ)] 0 0 rfl rfl rfl rfl ?_
  refine q_go C tk_X9_carries [(25, 2)] [] (pc1 := 44) (σ1 := σ) (lv1 := [(3, .int x3), (2, .int x1), (0, .ref 229), (1, .int t)]) (st1 := [.int ((F_X9_endOf x1 σ) + 300)]) rfl trivial ?_
  generalize e6 : ((F_X9_endOf x1 σ) + 300) = x5
  replace hF := q_let e6 hF
  refine q_go C tk_X9_carries [(27, 6)] [] (pc1 := 52) (σ1 := σ) (lv1 := [(4, .int x5), (3, .int x3), (2, .int x1), (0, .ref 229), (1, .int t)]) (st1 := [.int 3, .int x1, .int 7, .int t, .ref 229]) rfl trivial ?_
  refine q_mrg (v := (if x1 < 3 then (if x5 < x3 then x5 else x3) else x3)) (M := 67) (σ1 := σ) (lv1 := [(4, .int x5), (3, .int x3), (2, .int x1), (0, .ref 229), (1, .int t)]) (st1 := [.int 7, .int t, .ref 229]) (fun x9 e10 => ?_) (fun K => ?_)
  · replace hF := q_let e10 hF
    refine q_callV C hfl mw_X9_sets mi_X9_sets me_X9_sets lk_X9_67 (k_X9_sets t 7 x9 σ ((((hP.2 x1 e2).2.2.2 x3 e4) x5 e6).2 x9 e10).1) (rest := []) rfl rfl rfl (by decide) (by decide) rfl (q_dc (z := (67, .invokevirtual 67, 3, 0, 0)) tk_X9_carries 40 rfl) (Nat.le_of_ble_eq_true rfl) ⟨Nat.le_of_ble_eq_true rfl, Nat.le_of_ble_eq_true rfl⟩ ⟨Nat.le_of_ble_eq_true rfl, Nat.le_of_ble_eq_true rfl⟩ ?_
    refine q_nrm 70 [] 0 0 rfl rfl rfl rfl ?_
    generalize e12 : (F_X9_sets t 7 x9 σ) = σ11
    replace hF := q_let e12 hF
    refine q_go C tk_X9_carries [(41, 6)] [] (pc1 := 78) (σ1 := σ11) (lv1 := [(4, .int x5), (3, .int x3), (2, .int x1), (0, .ref 229), (1, .int t)]) (st1 := [.int 9, .int t, .ref 229, .int 9, .int t, .ref 229]) rfl trivial ?_
    refine q_callV C hfl mw_X9_of mi_X9_of me_X9_of lk_X9_52 (k_X9_of t 9 σ11 (((((hP.2 x1 e2).2.2.2 x3 e4) x5 e6).2 x9 e10).2 σ11 e12).1) (rest := [.int 9, .int t, .ref 229]) rfl rfl rfl (by decide) (by decide) rfl (q_dc (z := (78, .invokevirtual 52, 3, 0, 0)) tk_X9_carries 47 rfl) (Nat.le_of_ble_eq_true rfl) ⟨Nat.le_of_ble_eq_true rfl, Nat.le_of_ble_eq_true rfl⟩ ⟨Nat.le_of_ble_eq_true rfl, Nat.le_of_ble_eq_true rfl⟩ ?_
    refine q_nrm 81 [.int (F_X9_of t 9 σ11), .int 9, .int t, .ref 229] 0 0 rfl rfl rfl rfl ?_
    refine q_go C tk_X9_carries [(48, 2)] [] (pc1 := 83) (σ1 := σ11) (lv1 := [(4, .int x5), (3, .int x3), (2, .int x1), (0, .ref 229), (1, .int t)]) (st1 := [.int ((F_X9_of t 9 σ11) + 1), .int 9, .int t, .ref 229]) rfl trivial ?_
    refine q_callV C hfl mw_X9_sets mi_X9_sets me_X9_sets lk_X9_67 (k_X9_sets t 9 ((F_X9_of t 9 σ11) + 1) σ11 (((((hP.2 x1 e2).2.2.2 x3 e4) x5 e6).2 x9 e10).2 σ11 e12).2.1) (rest := []) rfl rfl rfl (by decide) (by decide) rfl (q_dc (z := (83, .invokevirtual 67, 3, 0, 0)) tk_X9_carries 50 rfl) (Nat.le_of_ble_eq_true rfl) ⟨Nat.le_of_ble_eq_true rfl, Nat.le_of_ble_eq_true rfl⟩ ⟨Nat.le_of_ble_eq_true rfl, Nat.le_of_ble_eq_true rfl⟩ ?_
    refine q_nrm 86 [] 0 0 rfl rfl rfl rfl ?_
    generalize e14 : (F_X9_sets t 9 ((F_X9_of t 9 σ11) + 1) σ11) = σ13
    replace hF := q_let e14 hF
    refine q_go C tk_X9_carries [(51, 2)] [] (pc1 := 88) (σ1 := σ13) (lv1 := [(4, .int x5), (3, .int x3), (2, .int x1), (0, .ref 229), (1, .int t)]) (st1 := [.int 3, .int x1]) rfl trivial ?_
    by_cases c15 : x1 = 3
    · rw [if_pos c15] at hF
      refine q_go C tk_X9_carries [(53, 4)] [false] (pc1 := 94) (σ1 := σ13) (lv1 := [(4, .int x5), (3, .int x3), (2, .int x1), (0, .ref 229), (1, .int t)]) (st1 := [.int x1, .ref 229, .int x3]) rfl ⟨c15, trivial⟩ ?_
      refine q_callV C hfl mw_X9_endOf mi_X9_endOf me_X9_endOf lk_X9_96 (k_X9_endOf x1 σ13) (rest := [.int x3]) rfl rfl rfl (by decide) (by decide) rfl (q_dc (z := (94, .invokevirtual 96, 3, 0, 0)) tk_X9_carries 57 rfl) (Nat.le_of_ble_eq_true rfl) ⟨Nat.le_of_ble_eq_true rfl, Nat.le_of_ble_eq_true rfl⟩ ⟨Nat.le_of_ble_eq_true rfl, Nat.le_of_ble_eq_true rfl⟩ ?_
      refine q_nrm 97 [.int (F_X9_endOf x1 σ13), .int x3] 0 0 rfl rfl rfl rfl ?_
      by_cases c16 : x3 < (F_X9_endOf x1 σ13)
      · rw [if_pos c16] at hF
        refine q_go C tk_X9_carries [(58, 1)] [true] (pc1 := 146) (σ1 := σ13) (lv1 := [(4, .int x5), (3, .int x3), (2, .int x1), (0, .ref 229), (1, .int t)]) (st1 := []) rfl ⟨c16, trivial⟩ ?_
        exact q_vret C hr (q_dc (z := (146, .return_, 1, 0, 0)) tk_X9_carries 89 rfl) hF rfl (Nat.le_of_ble_eq_true rfl) (Nat.le_of_ble_eq_true rfl)
      · rw [if_neg c16] at hF
        refine q_go C tk_X9_carries [(58, 5)] [false] (pc1 := 105) (σ1 := σ13) (lv1 := [(4, .int x5), (3, .int x3), (2, .int x1), (0, .ref 229), (1, .int t)]) (st1 := [.int 2, .int 6, .int t, .ref 229]) rfl ⟨c16, trivial⟩ ?_
        refine q_callV C hfl mw_X9_sets mi_X9_sets me_X9_sets lk_X9_67 (k_X9_sets t 6 2 σ13 ((((((((hP.2 x1 e2).2.2.2 x3 e4) x5 e6).2 x9 e10).2 σ11 e12).2.2 σ13 e14).1 c15).2 c16).1) (rest := []) rfl rfl rfl (by decide) (by decide) rfl (q_dc (z := (105, .invokevirtual 67, 3, 0, 0)) tk_X9_carries 63 rfl) (Nat.le_of_ble_eq_true rfl) ⟨Nat.le_of_ble_eq_true rfl, Nat.le_of_ble_eq_true rfl⟩ ⟨Nat.le_of_ble_eq_true rfl, Nat.le_of_ble_eq_true rfl⟩ ?_
        refine q_nrm 108 [] 0 0 rfl rfl rfl rfl ?_
        generalize e18 : (F_X9_sets t 6 2 σ13) = σ17
        replace hF := q_let e18 hF
        refine q_go C tk_X9_carries [(64, 7)] [] (pc1 := 118) (σ1 := σ17) (lv1 := [(4, .int x5), (3, .int x3), (2, .int x1), (0, .ref 229), (1, .int t)]) (st1 := [.int (σ17 230 2), .int 18, .int t, .ref 229]) rfl ⟨rfl, rfl, (by unfold vp_in; decide +kernel), trivial⟩ ?_
        refine q_callV C hfl mw_X9_sets mi_X9_sets me_X9_sets lk_X9_67 (k_X9_sets t 18 (σ17 230 2) σ17 (((((((((hP.2 x1 e2).2.2.2 x3 e4) x5 e6).2 x9 e10).2 σ11 e12).2.2 σ13 e14).1 c15).2 c16).2 σ17 e18).1) (rest := []) rfl rfl rfl (by decide) (by decide) rfl (q_dc (z := (118, .invokevirtual 67, 3, 0, 0)) tk_X9_carries 71 rfl) (Nat.le_of_ble_eq_true rfl) ⟨Nat.le_of_ble_eq_true rfl, Nat.le_of_ble_eq_true rfl⟩ ⟨Nat.le_of_ble_eq_true rfl, Nat.le_of_ble_eq_true rfl⟩ ?_
        refine q_nrm 121 [] 0 0 rfl rfl rfl rfl ?_
        generalize e20 : (F_X9_sets t 18 (σ17 230 2) σ17) = σ19
        replace hF := q_let e20 hF
        refine q_go C tk_X9_carries [(72, 14)] [] (pc1 := 139) (σ1 := σ19) (lv1 := [(4, .int x5), (3, .int x3), (2, .int x1), (0, .ref 229), (1, .int t)]) (st1 := [.int 13, .int t, .ref 229, .int (1 + (σ19 230 2)), .int (14 + x1), .int t, .ref 229]) rfl ⟨rfl, rfl, (by unfold vp_in; decide +kernel), trivial⟩ ?_
        refine q_callV C hfl mw_X9_of mi_X9_of me_X9_of lk_X9_52 (k_X9_of t 13 σ19 ((((((((((hP.2 x1 e2).2.2.2 x3 e4) x5 e6).2 x9 e10).2 σ11 e12).2.2 σ13 e14).1 c15).2 c16).2 σ17 e18).2 σ19 e20).1) (rest := [.int (1 + (σ19 230 2)), .int (14 + x1), .int t, .ref 229]) rfl rfl rfl (by decide) (by decide) rfl (q_dc (z := (139, .invokevirtual 52, 3, 0, 0)) tk_X9_carries 86 rfl) (Nat.le_of_ble_eq_true rfl) ⟨Nat.le_of_ble_eq_true rfl, Nat.le_of_ble_eq_true rfl⟩ ⟨Nat.le_of_ble_eq_true rfl, Nat.le_of_ble_eq_true rfl⟩ ?_
        refine q_nrm 142 [.int (F_X9_of t 13 σ19), .int (1 + (σ19 230 2)), .int (14 + x1), .int t, .ref 229] 0 0 rfl rfl rfl rfl ?_
        refine q_go C tk_X9_carries [(87, 1)] [] (pc1 := 143) (σ1 := σ19) (lv1 := [(4, .int x5), (3, .int x3), (2, .int x1), (0, .ref 229), (1, .int t)]) (st1 := [.int ((1 + (σ19 230 2)) - (F_X9_of t 13 σ19)), .int (14 + x1), .int t, .ref 229]) rfl trivial ?_
        refine q_callV C hfl mw_X9_sets mi_X9_sets me_X9_sets lk_X9_67 (k_X9_sets t (14 + x1) ((1 + (σ19 230 2)) - (F_X9_of t 13 σ19)) σ19 ((((((((((hP.2 x1 e2).2.2.2 x3 e4) x5 e6).2 x9 e10).2 σ11 e12).2.2 σ13 e14).1 c15).2 c16).2 σ17 e18).2 σ19 e20).2.1) (rest := []) rfl rfl rfl (by decide) (by decide) rfl (q_dc (z := (143, .invokevirtual 67, 3, 0, 0)) tk_X9_carries 88 rfl) (Nat.le_of_ble_eq_true rfl) ⟨Nat.le_of_ble_eq_true rfl, Nat.le_of_ble_eq_true rfl⟩ ⟨Nat.le_of_ble_eq_true rfl, Nat.le_of_ble_eq_true rfl⟩ ?_
        refine q_nrm 146 [] 0 0 rfl rfl rfl rfl ?_
        generalize e22 : (F_X9_sets t (14 + x1) ((1 + (σ19 230 2)) - (F_X9_of t 13 σ19)) σ19) = σ21
        replace hF := q_let e22 hF
        exact q_vret C hr (q_dc (z := (146, .return_, 1, 0, 0)) tk_X9_carries 89 rfl) hF rfl (Nat.le_of_ble_eq_true rfl) (Nat.le_of_ble_eq_true rfl)
    · rw [if_neg c15] at hF
      refine q_go C tk_X9_carries [(53, 1)] [true] (pc1 := 146) (σ1 := σ13) (lv1 := [(4, .int x5), (3, .int x3), (2, .int x1), (0, .ref 229), (1, .int t)]) (st1 := []) rfl ⟨c15, trivial⟩ ?_
      exact q_vret C hr (q_dc (z := (146, .return_, 1, 0, 0)) tk_X9_carries 89 rfl) hF rfl (Nat.le_of_ble_eq_true rfl) (Nat.le_of_ble_eq_true rfl)
  · clear hF
    by_cases c7 : x1 < 3
    · skip
      refine q_go C tk_X9_carries [(33, 3)] [false] (pc1 := 58) (σ1 := σ) (lv1 := [(4, .int x5), (3, .int x3), (2, .int x1), (0, .ref 229), (1, .int t)]) (st1 := [.int x5, .int x3, .int 7, .int t, .ref 229]) rfl ⟨c7, trivial⟩ ?_
      by_cases c8 : x5 < x3
      · skip
        refine q_go C tk_X9_carries [(36, 3)] [false] (pc1 := 67) (σ1 := σ) (lv1 := [(4, .int x5), (3, .int x3), (2, .int x1), (0, .ref 229), (1, .int t)]) (st1 := [.int x5, .int 7, .int t, .ref 229]) rfl ⟨c8, trivial⟩ ?_
        rw [if_pos c7, if_pos c8] at K; exact K
      · skip
        refine q_go C tk_X9_carries [(36, 1), (39, 1)] [true] (pc1 := 67) (σ1 := σ) (lv1 := [(4, .int x5), (3, .int x3), (2, .int x1), (0, .ref 229), (1, .int t)]) (st1 := [.int x3, .int 7, .int t, .ref 229]) rfl ⟨c8, trivial⟩ ?_
        rw [if_pos c7, if_neg c8] at K; exact K
    · skip
      refine q_go C tk_X9_carries [(33, 1), (39, 1)] [true] (pc1 := 67) (σ1 := σ) (lv1 := [(4, .int x5), (3, .int x3), (2, .int x1), (0, .ref 229), (1, .int t)]) (st1 := [.int x3, .int 7, .int t, .ref 229]) rfl ⟨c7, trivial⟩ ?_
      rw [if_neg c7] at K; exact K
def F_X9_moves (t : Int32) (σ : q_M) : q_M := (if 0 < (F_X9_of t 10 σ) then (q_L (F_X9_sets t 10 ((F_X9_of t 10 σ) - 1) σ) (fun σ2 : q_M => σ2)) else (if (F_X9_standsAtBound t σ) = 0 then (q_L (F_X9_carries t σ) (fun σ5 : q_M => σ5)) else σ))
def P_X9_moves (t : Int32) (σ : q_M) : Prop := ((P_X9_of t 10 σ) ∧ ((0 < (F_X9_of t 10 σ) → ((P_X9_of t 10 σ) ∧ ((P_X9_sets t 10 ((F_X9_of t 10 σ) - 1) σ) ∧ True))) ∧ (¬ 0 < (F_X9_of t 10 σ) → ((P_X9_standsAtBound t σ) ∧ (((F_X9_standsAtBound t σ) = 0 → ((P_X9_carries t σ) ∧ True)) ∧ (¬ (F_X9_standsAtBound t σ) = 0 → True))))))
set_option maxRecDepth 100000 in
theorem k_X9_moves {α β : Nat → Nat} {D : va_G} {κ : Nat → ClassId} (t : Int32) (σ : q_M) (hP : P_X9_moves t σ) : q_C α β D κ yX9_moves cX9_moves 2 (Option.none : Option Jvm.ClassFile.FieldType) 2 47 0 0 [.ref 229, .int t] σ q_ov (F_X9_moves t σ) := by
  refine q_enter (own := RX9) (F := F_X9) (G := G_X9) (by decide +kernel) rfl Fok_X9 Gok_X9 (Nat.le_of_ble_eq_true rfl) (fun p l e s m args below meth c A hfl C hr hT => ?_)
  generalize hF : F_X9_moves t σ = rr
  unfold F_X9_moves at hF
  refine q_go C tk_X9_moves [(0, 3)] [] (pc1 := 4) (σ1 := σ) (lv1 := [(0, .ref 229), (1, .int t)]) (st1 := [.int 10, .int t, .ref 229]) rfl trivial ?_
  refine q_callV C hfl mw_X9_of mi_X9_of me_X9_of lk_X9_52 (k_X9_of t 10 σ hP.1) (rest := []) rfl rfl rfl (by decide) (by decide) rfl (q_dc (z := (4, .invokevirtual 52, 3, 0, 0)) tk_X9_moves 3 rfl) (Nat.le_of_ble_eq_true rfl) ⟨Nat.le_of_ble_eq_true rfl, Nat.le_of_ble_eq_true rfl⟩ ⟨Nat.le_of_ble_eq_true rfl, Nat.le_of_ble_eq_true rfl⟩ ?_
  refine q_nrm 7 [.int (F_X9_of t 10 σ)] 0 0 rfl rfl rfl rfl ?_
  by_cases c1 : 0 < (F_X9_of t 10 σ)
  · rw [if_pos c1] at hF
    refine q_go C tk_X9_moves [(4, 7)] [false] (pc1 := 18) (σ1 := σ) (lv1 := [(0, .ref 229), (1, .int t)]) (st1 := [.int 10, .int t, .ref 229, .int 10, .int t, .ref 229]) rfl ⟨c1, trivial⟩ ?_
    refine q_callV C hfl mw_X9_of mi_X9_of me_X9_of lk_X9_52 (k_X9_of t 10 σ (hP.2.1 c1).1) (rest := [.int 10, .int t, .ref 229]) rfl rfl rfl (by decide) (by decide) rfl (q_dc (z := (18, .invokevirtual 52, 3, 0, 0)) tk_X9_moves 11 rfl) (Nat.le_of_ble_eq_true rfl) ⟨Nat.le_of_ble_eq_true rfl, Nat.le_of_ble_eq_true rfl⟩ ⟨Nat.le_of_ble_eq_true rfl, Nat.le_of_ble_eq_true rfl⟩ ?_
    refine q_nrm 21 [.int (F_X9_of t 10 σ), .int 10, .int t, .ref 229] 0 0 rfl rfl rfl rfl ?_
    refine q_go C tk_X9_moves [(12, 2)] [] (pc1 := 23) (σ1 := σ) (lv1 := [(0, .ref 229), (1, .int t)]) (st1 := [.int ((F_X9_of t 10 σ) - 1), .int 10, .int t, .ref 229]) rfl trivial ?_
    refine q_callV C hfl mw_X9_sets mi_X9_sets me_X9_sets lk_X9_67 (k_X9_sets t 10 ((F_X9_of t 10 σ) - 1) σ (hP.2.1 c1).2.1) (rest := []) rfl rfl rfl (by decide) (by decide) rfl (q_dc (z := (23, .invokevirtual 67, 3, 0, 0)) tk_X9_moves 14 rfl) (Nat.le_of_ble_eq_true rfl) ⟨Nat.le_of_ble_eq_true rfl, Nat.le_of_ble_eq_true rfl⟩ ⟨Nat.le_of_ble_eq_true rfl, Nat.le_of_ble_eq_true rfl⟩ ?_
    refine q_nrm 26 [] 0 0 rfl rfl rfl rfl ?_
    generalize e3 : (F_X9_sets t 10 ((F_X9_of t 10 σ) - 1) σ) = σ2
    replace hF := q_let e3 hF
    refine q_go C tk_X9_moves [(15, 1)] [] (pc1 := 42) (σ1 := σ2) (lv1 := [(0, .ref 229), (1, .int t)]) (st1 := []) rfl trivial ?_
    exact q_vret C hr (q_dc (z := (42, .return_, 1, 0, 0)) tk_X9_moves 23 rfl) hF rfl (Nat.le_of_ble_eq_true rfl) (Nat.le_of_ble_eq_true rfl)
  · rw [if_neg c1] at hF
    refine q_go C tk_X9_moves [(4, 1), (16, 2)] [true] (pc1 := 31) (σ1 := σ) (lv1 := [(0, .ref 229), (1, .int t)]) (st1 := [.int t, .ref 229]) rfl ⟨c1, trivial⟩ ?_
    refine q_callV C hfl mw_X9_standsAtBound mi_X9_standsAtBound me_X9_standsAtBound lk_X9_102 (k_X9_standsAtBound t σ (hP.2.2 c1).1) (rest := []) rfl rfl rfl (by decide) (by decide) rfl (q_dc (z := (31, .invokevirtual 102, 3, 0, 0)) tk_X9_moves 18 rfl) (Nat.le_of_ble_eq_true rfl) ⟨Nat.le_of_ble_eq_true rfl, Nat.le_of_ble_eq_true rfl⟩ ⟨Nat.le_of_ble_eq_true rfl, Nat.le_of_ble_eq_true rfl⟩ ?_
    refine q_nrm 34 [.int (F_X9_standsAtBound t σ)] 0 0 rfl rfl rfl rfl ?_
    by_cases c4 : (F_X9_standsAtBound t σ) = 0
    · rw [if_pos c4] at hF
      refine q_go C tk_X9_moves [(19, 3)] [false] (pc1 := 39) (σ1 := σ) (lv1 := [(0, .ref 229), (1, .int t)]) (st1 := [.int t, .ref 229]) rfl ⟨c4, trivial⟩ ?_
      refine q_callV C hfl mw_X9_carries mi_X9_carries me_X9_carries lk_X9_105 (k_X9_carries t σ ((hP.2.2 c1).2.1 c4).1) (rest := []) rfl rfl rfl (by decide) (by decide) rfl (q_dc (z := (39, .invokevirtual 105, 3, 0, 0)) tk_X9_moves 22 rfl) (Nat.le_of_ble_eq_true rfl) ⟨Nat.le_of_ble_eq_true rfl, Nat.le_of_ble_eq_true rfl⟩ ⟨Nat.le_of_ble_eq_true rfl, Nat.le_of_ble_eq_true rfl⟩ ?_
      refine q_nrm 42 [] 0 0 rfl rfl rfl rfl ?_
      generalize e6 : (F_X9_carries t σ) = σ5
      replace hF := q_let e6 hF
      exact q_vret C hr (q_dc (z := (42, .return_, 1, 0, 0)) tk_X9_moves 23 rfl) hF rfl (Nat.le_of_ble_eq_true rfl) (Nat.le_of_ble_eq_true rfl)
    · rw [if_neg c4] at hF
      refine q_go C tk_X9_moves [(19, 1)] [true] (pc1 := 42) (σ1 := σ) (lv1 := [(0, .ref 229), (1, .int t)]) (st1 := []) rfl ⟨c4, trivial⟩ ?_
      exact q_vret C hr (q_dc (z := (42, .return_, 1, 0, 0)) tk_X9_moves 23 rfl) hF rfl (Nat.le_of_ble_eq_true rfl) (Nat.le_of_ble_eq_true rfl)
def F_X9_teamCount (σ : q_M) : (Int32) × q_M := ((σ 230 3), (q_up σ 229 5 0))
set_option maxRecDepth 100000 in
theorem k_X9_teamCount {α β : Nat → Nat} {D : va_G} {κ : Nat → ClassId} (σ : q_M) : q_C α β D κ yX9_teamCount cX9_teamCount 1 (Option.some Jvm.ClassFile.FieldType.int) 0 0 0 0 [.ref 229] σ (q_oi (F_X9_teamCount σ).1) (F_X9_teamCount σ).2 := by
  refine q_enter (own := RX9) (F := F_X9) (G := G_X9) (by decide +kernel) rfl Fok_X9 Gok_X9 (Nat.le_of_ble_eq_true rfl) (fun p l e s m args below meth c A hfl C hr hT => ?_)
  generalize hF : F_X9_teamCount σ = rr
  unfold F_X9_teamCount at hF
  refine q_go C tk_X9_teamCount [(0, 7)] [] (pc1 := 11) (σ1 := (q_up σ 229 5 0)) (lv1 := [(0, .ref 229)]) (st1 := [.int (σ 230 3)]) rfl ⟨rfl, rfl, rfl, (by unfold vp_in; decide +kernel), trivial⟩ ?_
  exact q_iret C hr (q_dc (z := (11, .ireturn, 1, 0, 0)) tk_X9_teamCount 7 rfl) (congrArg Prod.snd hF) (congrArg (fun z => q_oi z.1) hF.symm) (Nat.le_of_ble_eq_true rfl) (Nat.le_of_ble_eq_true rfl)
def F_X9_isStarted (σ : q_M) : (Int32) × q_M := (q_L (q_up σ 229 5 0) (fun σ1 : q_M => ((F_X9_isUnprepared σ1), σ1)))
set_option maxRecDepth 100000 in
theorem k_X9_isStarted {α β : Nat → Nat} {D : va_G} {κ : Nat → ClassId} (σ : q_M) : q_C α β D κ yX9_isStarted cX9_isStarted 1 (Option.some Jvm.ClassFile.FieldType.boolean) 1 20 0 0 [.ref 229] σ (q_oi (F_X9_isStarted σ).1) (F_X9_isStarted σ).2 := by
  refine q_enter (own := RX9) (F := F_X9) (G := G_X9) (by decide +kernel) rfl Fok_X9 Gok_X9 (Nat.le_of_ble_eq_true rfl) (fun p l e s m args below meth c A hfl C hr hT => ?_)
  generalize hF : F_X9_isStarted σ = rr
  unfold F_X9_isStarted at hF
  refine q_go C tk_X9_isStarted [(0, 4)] [] (pc1 := 6) (σ1 := (q_up σ 229 5 0)) (lv1 := [(0, .ref 229)]) (st1 := [.ref 229]) rfl ⟨rfl, trivial⟩ ?_
  generalize e2 : (q_up σ 229 5 0) = σ1
  replace hF := q_let e2 hF
  refine q_callV C hfl mw_X9_isUnprepared mi_X9_isUnprepared me_X9_isUnprepared lk_X9_59 (k_X9_isUnprepared σ1) (rest := []) rfl rfl rfl (by decide) (by decide) rfl (q_dc (z := (6, .invokevirtual 59, 3, 0, 0)) tk_X9_isStarted 4 rfl) (Nat.le_of_ble_eq_true rfl) ⟨Nat.le_of_ble_eq_true rfl, Nat.le_of_ble_eq_true rfl⟩ ⟨Nat.le_of_ble_eq_true rfl, Nat.le_of_ble_eq_true rfl⟩ ?_
  refine q_nrm 9 [.int (F_X9_isUnprepared σ1)] 0 0 rfl rfl rfl rfl ?_
  exact q_zret C hr (q_dc (z := (9, .ireturn, 1, 0, 0)) tk_X9_isStarted 5 rfl) (q_zb (z_X9_isUnprepared)).1 (congrArg Prod.snd hF) (congrArg (fun z => q_oi z.1) hF.symm) (Nat.le_of_ble_eq_true rfl) (Nat.le_of_ble_eq_true rfl)
def F_X9_clock (σ : q_M) : (Int32) × q_M := ((σ 230 2), (q_up σ 229 5 0))
set_option maxRecDepth 100000 in
theorem k_X9_clock {α β : Nat → Nat} {D : va_G} {κ : Nat → ClassId} (σ : q_M) : q_C α β D κ yX9_clock cX9_clock 1 (Option.some Jvm.ClassFile.FieldType.int) 0 0 0 0 [.ref 229] σ (q_oi (F_X9_clock σ).1) (F_X9_clock σ).2 := by
  refine q_enter (own := RX9) (F := F_X9) (G := G_X9) (by decide +kernel) rfl Fok_X9 Gok_X9 (Nat.le_of_ble_eq_true rfl) (fun p l e s m args below meth c A hfl C hr hT => ?_)
  generalize hF : F_X9_clock σ = rr
  unfold F_X9_clock at hF
  refine q_go C tk_X9_clock [(0, 7)] [] (pc1 := 11) (σ1 := (q_up σ 229 5 0)) (lv1 := [(0, .ref 229)]) (st1 := [.int (σ 230 2)]) rfl ⟨rfl, rfl, rfl, (by unfold vp_in; decide +kernel), trivial⟩ ?_
  exact q_iret C hr (q_dc (z := (11, .ireturn, 1, 0, 0)) tk_X9_clock 7 rfl) (congrArg Prod.snd hF) (congrArg (fun z => q_oi z.1) hF.symm) (Nat.le_of_ble_eq_true rfl) (Nat.le_of_ble_eq_true rfl)
def F_X9_length (σ : q_M) : (Int32) × q_M := ((σ 230 0), (q_up σ 229 5 0))
set_option maxRecDepth 100000 in
theorem k_X9_length {α β : Nat → Nat} {D : va_G} {κ : Nat → ClassId} (σ : q_M) : q_C α β D κ yX9_length cX9_length 1 (Option.some Jvm.ClassFile.FieldType.int) 0 0 0 0 [.ref 229] σ (q_oi (F_X9_length σ).1) (F_X9_length σ).2 := by
  refine q_enter (own := RX9) (F := F_X9) (G := G_X9) (by decide +kernel) rfl Fok_X9 Gok_X9 (Nat.le_of_ble_eq_true rfl) (fun p l e s m args below meth c A hfl C hr hT => ?_)
  generalize hF : F_X9_length σ = rr
  unfold F_X9_length at hF
  refine q_go C tk_X9_length [(0, 7)] [] (pc1 := 11) (σ1 := (q_up σ 229 5 0)) (lv1 := [(0, .ref 229)]) (st1 := [.int (σ 230 0)]) rfl ⟨rfl, rfl, rfl, (by unfold vp_in; decide +kernel), trivial⟩ ?_
  exact q_iret C hr (q_dc (z := (11, .ireturn, 1, 0, 0)) tk_X9_length 7 rfl) (congrArg Prod.snd hF) (congrArg (fun z => q_oi z.1) hF.symm) (Nat.le_of_ble_eq_true rfl) (Nat.le_of_ble_eq_true rfl)
def F_X9_thrown (σ : q_M) : Int32 := (σ 229 5)
set_option maxRecDepth 100000 in
theorem k_X9_thrown {α β : Nat → Nat} {D : va_G} {κ : Nat → ClassId} (σ : q_M) : q_C α β D κ yX9_thrown cX9_thrown 1 (Option.some Jvm.ClassFile.FieldType.int) 0 0 0 0 [.ref 229] σ (q_oi (F_X9_thrown σ)) σ := by
  refine q_enter (own := RX9) (F := F_X9) (G := G_X9) (by decide +kernel) rfl Fok_X9 Gok_X9 (Nat.le_of_ble_eq_true rfl) (fun p l e s m args below meth c A hfl C hr hT => ?_)
  generalize hF : F_X9_thrown σ = rr
  unfold F_X9_thrown at hF
  refine q_go C tk_X9_thrown [(0, 2)] [] (pc1 := 4) (σ1 := σ) (lv1 := [(0, .ref 229)]) (st1 := [.int (σ 229 5)]) rfl ⟨rfl, trivial⟩ ?_
  exact q_iret C hr (q_dc (z := (4, .ireturn, 1, 0, 0)) tk_X9_thrown 2 rfl) rfl (congrArg q_oi hF.symm) (Nat.le_of_ble_eq_true rfl) (Nat.le_of_ble_eq_true rfl)
def F_X9_refusalReason (σ : q_M) : (Int32) × q_M := (if (σ 229 8) = 0 then (0, (q_up σ 229 5 1)) else ((σ 229 8), (q_up σ 229 5 0)))
set_option maxRecDepth 100000 in
theorem k_X9_refusalReason {α β : Nat → Nat} {D : va_G} {κ : Nat → ClassId} (σ : q_M) : q_C α β D κ yX9_refusalReason cX9_refusalReason 1 (Option.some Jvm.ClassFile.FieldType.int) 1 22 0 0 [.ref 229] σ (q_oi (F_X9_refusalReason σ).1) (F_X9_refusalReason σ).2 := by
  refine q_enter (own := RX9) (F := F_X9) (G := G_X9) (by decide +kernel) rfl Fok_X9 Gok_X9 (Nat.le_of_ble_eq_true rfl) (fun p l e s m args below meth c A hfl C hr hT => ?_)
  generalize hF : F_X9_refusalReason σ = rr
  unfold F_X9_refusalReason at hF
  refine q_go C tk_X9_refusalReason [(0, 3)] [] (pc1 := 5) (σ1 := σ) (lv1 := [(0, .ref 229)]) (st1 := [.int (σ 229 8), .ref 229]) rfl ⟨rfl, trivial⟩ ?_
  by_cases c1 : (σ 229 8) = 0
  · rw [if_pos c1] at hF
    refine q_go C tk_X9_refusalReason [(3, 3), (7, 1)] [false] (pc1 := 14) (σ1 := σ) (lv1 := [(0, .ref 229)]) (st1 := [.int 1, .int 1, .ref 229]) rfl ⟨c1, trivial⟩ ?_
    refine q_callV C hfl mw_X9_isThrown mi_X9_isThrown me_X9_isThrown lk_X9_63 (k_X9_isThrownN 1 1 σ (by decide) (by decide)) (rest := []) rfl rfl rfl (by decide) (by decide) rfl (q_dc (z := (14, .invokevirtual 63, 3, 0, 0)) tk_X9_refusalReason 8 rfl) (Nat.le_of_ble_eq_true rfl) ⟨Nat.le_of_ble_eq_true rfl, Nat.le_of_ble_eq_true rfl⟩ ⟨Nat.le_of_ble_eq_true rfl, Nat.le_of_ble_eq_true rfl⟩ ?_
    refine q_nrm 17 [.int 1] 0 0 rfl rfl rfl rfl ?_
    refine q_go C tk_X9_refusalReason [(9, 3)] [false] (pc1 := 28) (σ1 := (q_up σ 229 5 1)) (lv1 := [(0, .ref 229)]) (st1 := [.int 0]) rfl ⟨(by decide : ¬ (1 : Int32) = 0), trivial⟩ ?_
    exact q_iret C hr (q_dc (z := (28, .ireturn, 1, 0, 0)) tk_X9_refusalReason 14 rfl) (congrArg Prod.snd hF) (congrArg (fun z => q_oi z.1) hF.symm) (Nat.le_of_ble_eq_true rfl) (Nat.le_of_ble_eq_true rfl)
  · rw [if_neg c1] at hF
    refine q_go C tk_X9_refusalReason [(3, 1), (6, 2)] [true] (pc1 := 14) (σ1 := σ) (lv1 := [(0, .ref 229)]) (st1 := [.int 1, .int 0, .ref 229]) rfl ⟨c1, trivial⟩ ?_
    refine q_callV C hfl mw_X9_isThrown mi_X9_isThrown me_X9_isThrown lk_X9_63 (k_X9_isThrownZ 0 1 σ (by decide)) (rest := []) rfl rfl rfl (by decide) (by decide) rfl (q_dc (z := (14, .invokevirtual 63, 3, 0, 0)) tk_X9_refusalReason 8 rfl) (Nat.le_of_ble_eq_true rfl) ⟨Nat.le_of_ble_eq_true rfl, Nat.le_of_ble_eq_true rfl⟩ ⟨Nat.le_of_ble_eq_true rfl, Nat.le_of_ble_eq_true rfl⟩ ?_
    refine q_nrm 17 [.int 0] 0 0 rfl rfl rfl rfl ?_
    refine q_go C tk_X9_refusalReason [(9, 1), (12, 2)] [true] (pc1 := 28) (σ1 := (q_up σ 229 5 0)) (lv1 := [(0, .ref 229)]) (st1 := [.int (σ 229 8)]) rfl ⟨(by decide : (0 : Int32) = 0), rfl, trivial⟩ ?_
    exact q_iret C hr (q_dc (z := (28, .ireturn, 1, 0, 0)) tk_X9_refusalReason 14 rfl) (congrArg Prod.snd hF) (congrArg (fun z => q_oi z.1) hF.symm) (Nat.le_of_ble_eq_true rfl) (Nat.le_of_ble_eq_true rfl)
def F_X9_refusedTeam (σ : q_M) : (Int32) × q_M := (if (σ 229 8) = 0 then (0, (q_up σ 229 5 1)) else ((σ 229 9), (q_up σ 229 5 0)))
set_option maxRecDepth 100000 in
theorem k_X9_refusedTeam {α β : Nat → Nat} {D : va_G} {κ : Nat → ClassId} (σ : q_M) : q_C α β D κ yX9_refusedTeam cX9_refusedTeam 1 (Option.some Jvm.ClassFile.FieldType.int) 1 22 0 0 [.ref 229] σ (q_oi (F_X9_refusedTeam σ).1) (F_X9_refusedTeam σ).2 := by
  refine q_enter (own := RX9) (F := F_X9) (G := G_X9) (by decide +kernel) rfl Fok_X9 Gok_X9 (Nat.le_of_ble_eq_true rfl) (fun p l e s m args below meth c A hfl C hr hT => ?_)
  generalize hF : F_X9_refusedTeam σ = rr
  unfold F_X9_refusedTeam at hF
  refine q_go C tk_X9_refusedTeam [(0, 3)] [] (pc1 := 5) (σ1 := σ) (lv1 := [(0, .ref 229)]) (st1 := [.int (σ 229 8), .ref 229]) rfl ⟨rfl, trivial⟩ ?_
  by_cases c1 : (σ 229 8) = 0
  · rw [if_pos c1] at hF
    refine q_go C tk_X9_refusedTeam [(3, 3), (7, 1)] [false] (pc1 := 14) (σ1 := σ) (lv1 := [(0, .ref 229)]) (st1 := [.int 1, .int 1, .ref 229]) rfl ⟨c1, trivial⟩ ?_
    refine q_callV C hfl mw_X9_isThrown mi_X9_isThrown me_X9_isThrown lk_X9_63 (k_X9_isThrownN 1 1 σ (by decide) (by decide)) (rest := []) rfl rfl rfl (by decide) (by decide) rfl (q_dc (z := (14, .invokevirtual 63, 3, 0, 0)) tk_X9_refusedTeam 8 rfl) (Nat.le_of_ble_eq_true rfl) ⟨Nat.le_of_ble_eq_true rfl, Nat.le_of_ble_eq_true rfl⟩ ⟨Nat.le_of_ble_eq_true rfl, Nat.le_of_ble_eq_true rfl⟩ ?_
    refine q_nrm 17 [.int 1] 0 0 rfl rfl rfl rfl ?_
    refine q_go C tk_X9_refusedTeam [(9, 3)] [false] (pc1 := 28) (σ1 := (q_up σ 229 5 1)) (lv1 := [(0, .ref 229)]) (st1 := [.int 0]) rfl ⟨(by decide : ¬ (1 : Int32) = 0), trivial⟩ ?_
    exact q_iret C hr (q_dc (z := (28, .ireturn, 1, 0, 0)) tk_X9_refusedTeam 14 rfl) (congrArg Prod.snd hF) (congrArg (fun z => q_oi z.1) hF.symm) (Nat.le_of_ble_eq_true rfl) (Nat.le_of_ble_eq_true rfl)
  · rw [if_neg c1] at hF
    refine q_go C tk_X9_refusedTeam [(3, 1), (6, 2)] [true] (pc1 := 14) (σ1 := σ) (lv1 := [(0, .ref 229)]) (st1 := [.int 1, .int 0, .ref 229]) rfl ⟨c1, trivial⟩ ?_
    refine q_callV C hfl mw_X9_isThrown mi_X9_isThrown me_X9_isThrown lk_X9_63 (k_X9_isThrownZ 0 1 σ (by decide)) (rest := []) rfl rfl rfl (by decide) (by decide) rfl (q_dc (z := (14, .invokevirtual 63, 3, 0, 0)) tk_X9_refusedTeam 8 rfl) (Nat.le_of_ble_eq_true rfl) ⟨Nat.le_of_ble_eq_true rfl, Nat.le_of_ble_eq_true rfl⟩ ⟨Nat.le_of_ble_eq_true rfl, Nat.le_of_ble_eq_true rfl⟩ ?_
    refine q_nrm 17 [.int 0] 0 0 rfl rfl rfl rfl ?_
    refine q_go C tk_X9_refusedTeam [(9, 1), (12, 2)] [true] (pc1 := 28) (σ1 := (q_up σ 229 5 0)) (lv1 := [(0, .ref 229)]) (st1 := [.int (σ 229 9)]) rfl ⟨(by decide : (0 : Int32) = 0), rfl, trivial⟩ ?_
    exact q_iret C hr (q_dc (z := (28, .ireturn, 1, 0, 0)) tk_X9_refusedTeam 14 rfl) (congrArg Prod.snd hF) (congrArg (fun z => q_oi z.1) hF.symm) (Nat.le_of_ble_eq_true rfl) (Nat.le_of_ble_eq_true rfl)
def F_X9_errorPosition (σ : q_M) : (Int32) × q_M := (if (σ 229 6) < 0 then (0, (q_up σ 229 5 1)) else ((σ 229 6), (q_up σ 229 5 0)))
set_option maxRecDepth 100000 in
theorem k_X9_errorPosition {α β : Nat → Nat} {D : va_G} {κ : Nat → ClassId} (σ : q_M) : q_C α β D κ yX9_errorPosition cX9_errorPosition 1 (Option.some Jvm.ClassFile.FieldType.int) 1 22 0 0 [.ref 229] σ (q_oi (F_X9_errorPosition σ).1) (F_X9_errorPosition σ).2 := by
  refine q_enter (own := RX9) (F := F_X9) (G := G_X9) (by decide +kernel) rfl Fok_X9 Gok_X9 (Nat.le_of_ble_eq_true rfl) (fun p l e s m args below meth c A hfl C hr hT => ?_)
  generalize hF : F_X9_errorPosition σ = rr
  unfold F_X9_errorPosition at hF
  refine q_go C tk_X9_errorPosition [(0, 3)] [] (pc1 := 5) (σ1 := σ) (lv1 := [(0, .ref 229)]) (st1 := [.int (σ 229 6), .ref 229]) rfl ⟨rfl, trivial⟩ ?_
  by_cases c1 : (σ 229 6) < 0
  · rw [if_pos c1] at hF
    refine q_go C tk_X9_errorPosition [(3, 3), (7, 1)] [false] (pc1 := 14) (σ1 := σ) (lv1 := [(0, .ref 229)]) (st1 := [.int 1, .int 1, .ref 229]) rfl ⟨c1, trivial⟩ ?_
    refine q_callV C hfl mw_X9_isThrown mi_X9_isThrown me_X9_isThrown lk_X9_63 (k_X9_isThrownN 1 1 σ (by decide) (by decide)) (rest := []) rfl rfl rfl (by decide) (by decide) rfl (q_dc (z := (14, .invokevirtual 63, 3, 0, 0)) tk_X9_errorPosition 8 rfl) (Nat.le_of_ble_eq_true rfl) ⟨Nat.le_of_ble_eq_true rfl, Nat.le_of_ble_eq_true rfl⟩ ⟨Nat.le_of_ble_eq_true rfl, Nat.le_of_ble_eq_true rfl⟩ ?_
    refine q_nrm 17 [.int 1] 0 0 rfl rfl rfl rfl ?_
    refine q_go C tk_X9_errorPosition [(9, 3)] [false] (pc1 := 28) (σ1 := (q_up σ 229 5 1)) (lv1 := [(0, .ref 229)]) (st1 := [.int 0]) rfl ⟨(by decide : ¬ (1 : Int32) = 0), trivial⟩ ?_
    exact q_iret C hr (q_dc (z := (28, .ireturn, 1, 0, 0)) tk_X9_errorPosition 14 rfl) (congrArg Prod.snd hF) (congrArg (fun z => q_oi z.1) hF.symm) (Nat.le_of_ble_eq_true rfl) (Nat.le_of_ble_eq_true rfl)
  · rw [if_neg c1] at hF
    refine q_go C tk_X9_errorPosition [(3, 1), (6, 2)] [true] (pc1 := 14) (σ1 := σ) (lv1 := [(0, .ref 229)]) (st1 := [.int 1, .int 0, .ref 229]) rfl ⟨c1, trivial⟩ ?_
    refine q_callV C hfl mw_X9_isThrown mi_X9_isThrown me_X9_isThrown lk_X9_63 (k_X9_isThrownZ 0 1 σ (by decide)) (rest := []) rfl rfl rfl (by decide) (by decide) rfl (q_dc (z := (14, .invokevirtual 63, 3, 0, 0)) tk_X9_errorPosition 8 rfl) (Nat.le_of_ble_eq_true rfl) ⟨Nat.le_of_ble_eq_true rfl, Nat.le_of_ble_eq_true rfl⟩ ⟨Nat.le_of_ble_eq_true rfl, Nat.le_of_ble_eq_true rfl⟩ ?_
    refine q_nrm 17 [.int 0] 0 0 rfl rfl rfl rfl ?_
    refine q_go C tk_X9_errorPosition [(9, 1), (12, 2)] [true] (pc1 := 28) (σ1 := (q_up σ 229 5 0)) (lv1 := [(0, .ref 229)]) (st1 := [.int (σ 229 6)]) rfl ⟨(by decide : (0 : Int32) = 0), rfl, trivial⟩ ?_
    exact q_iret C hr (q_dc (z := (28, .ireturn, 1, 0, 0)) tk_X9_errorPosition 14 rfl) (congrArg Prod.snd hF) (congrArg (fun z => q_oi z.1) hF.symm) (Nat.le_of_ble_eq_true rfl) (Nat.le_of_ble_eq_true rfl)
def F_X9_failedCommand (σ : q_M) : (Int32) × q_M := (if (σ 229 7) < 0 then (0, (q_up σ 229 5 1)) else ((σ 229 7), (q_up σ 229 5 0)))
set_option maxRecDepth 100000 in
theorem k_X9_failedCommand {α β : Nat → Nat} {D : va_G} {κ : Nat → ClassId} (σ : q_M) : q_C α β D κ yX9_failedCommand cX9_failedCommand 1 (Option.some Jvm.ClassFile.FieldType.int) 1 22 0 0 [.ref 229] σ (q_oi (F_X9_failedCommand σ).1) (F_X9_failedCommand σ).2 := by
  refine q_enter (own := RX9) (F := F_X9) (G := G_X9) (by decide +kernel) rfl Fok_X9 Gok_X9 (Nat.le_of_ble_eq_true rfl) (fun p l e s m args below meth c A hfl C hr hT => ?_)
  generalize hF : F_X9_failedCommand σ = rr
  unfold F_X9_failedCommand at hF
  refine q_go C tk_X9_failedCommand [(0, 3)] [] (pc1 := 5) (σ1 := σ) (lv1 := [(0, .ref 229)]) (st1 := [.int (σ 229 7), .ref 229]) rfl ⟨rfl, trivial⟩ ?_
  by_cases c1 : (σ 229 7) < 0
  · rw [if_pos c1] at hF
    refine q_go C tk_X9_failedCommand [(3, 3), (7, 1)] [false] (pc1 := 14) (σ1 := σ) (lv1 := [(0, .ref 229)]) (st1 := [.int 1, .int 1, .ref 229]) rfl ⟨c1, trivial⟩ ?_
    refine q_callV C hfl mw_X9_isThrown mi_X9_isThrown me_X9_isThrown lk_X9_63 (k_X9_isThrownN 1 1 σ (by decide) (by decide)) (rest := []) rfl rfl rfl (by decide) (by decide) rfl (q_dc (z := (14, .invokevirtual 63, 3, 0, 0)) tk_X9_failedCommand 8 rfl) (Nat.le_of_ble_eq_true rfl) ⟨Nat.le_of_ble_eq_true rfl, Nat.le_of_ble_eq_true rfl⟩ ⟨Nat.le_of_ble_eq_true rfl, Nat.le_of_ble_eq_true rfl⟩ ?_
    refine q_nrm 17 [.int 1] 0 0 rfl rfl rfl rfl ?_
    refine q_go C tk_X9_failedCommand [(9, 3)] [false] (pc1 := 28) (σ1 := (q_up σ 229 5 1)) (lv1 := [(0, .ref 229)]) (st1 := [.int 0]) rfl ⟨(by decide : ¬ (1 : Int32) = 0), trivial⟩ ?_
    exact q_iret C hr (q_dc (z := (28, .ireturn, 1, 0, 0)) tk_X9_failedCommand 14 rfl) (congrArg Prod.snd hF) (congrArg (fun z => q_oi z.1) hF.symm) (Nat.le_of_ble_eq_true rfl) (Nat.le_of_ble_eq_true rfl)
  · rw [if_neg c1] at hF
    refine q_go C tk_X9_failedCommand [(3, 1), (6, 2)] [true] (pc1 := 14) (σ1 := σ) (lv1 := [(0, .ref 229)]) (st1 := [.int 1, .int 0, .ref 229]) rfl ⟨c1, trivial⟩ ?_
    refine q_callV C hfl mw_X9_isThrown mi_X9_isThrown me_X9_isThrown lk_X9_63 (k_X9_isThrownZ 0 1 σ (by decide)) (rest := []) rfl rfl rfl (by decide) (by decide) rfl (q_dc (z := (14, .invokevirtual 63, 3, 0, 0)) tk_X9_failedCommand 8 rfl) (Nat.le_of_ble_eq_true rfl) ⟨Nat.le_of_ble_eq_true rfl, Nat.le_of_ble_eq_true rfl⟩ ⟨Nat.le_of_ble_eq_true rfl, Nat.le_of_ble_eq_true rfl⟩ ?_
    refine q_nrm 17 [.int 0] 0 0 rfl rfl rfl rfl ?_
    refine q_go C tk_X9_failedCommand [(9, 1), (12, 2)] [true] (pc1 := 28) (σ1 := (q_up σ 229 5 0)) (lv1 := [(0, .ref 229)]) (st1 := [.int (σ 229 7)]) rfl ⟨(by decide : (0 : Int32) = 0), rfl, trivial⟩ ?_
    exact q_iret C hr (q_dc (z := (28, .ireturn, 1, 0, 0)) tk_X9_failedCommand 14 rfl) (congrArg Prod.snd hF) (congrArg (fun z => q_oi z.1) hF.symm) (Nat.le_of_ble_eq_true rfl) (Nat.le_of_ble_eq_true rfl)
