/-! The class: 16.team. -/
def F_X8_isLeg (g : Int32) (σ : q_M) : Int32 := (if g < 0 then 0 else (if g < 4 then 1 else 0))
set_option maxRecDepth 100000 in
theorem k_X8_isLeg {α β : Nat → Nat} {D : va_G} {κ : Nat → ClassId} (g : Int32) (σ : q_M) : q_C α β D κ yX8_isLeg cX8_isLeg 1 (Option.some Jvm.ClassFile.FieldType.boolean) 0 0 0 0 [.int g] σ (q_oi (F_X8_isLeg g σ)) σ := by
  refine q_enter (own := RX8) (F := F_X8) (G := G_X8) (by decide +kernel) rfl Fok_X8 Gok_X8 (Nat.le_of_ble_eq_true rfl) (fun p l e s m args below meth c A hfl C hr hT => ?_)
  generalize hF : F_X8_isLeg g σ = rr
  unfold F_X8_isLeg at hF
  refine q_go C tk_X8_isLeg [(0, 1)] [] (pc1 := 1) (σ1 := σ) (lv1 := [(0, .int g)]) (st1 := [.int g]) rfl trivial ?_
  by_cases c1 : g < 0
  · rw [if_pos c1] at hF
    refine q_go C tk_X8_isLeg [(1, 1), (7, 1)] [true] (pc1 := 14) (σ1 := σ) (lv1 := [(0, .int g)]) (st1 := [.int 0]) rfl ⟨c1, trivial⟩ ?_
    exact q_zret C hr (q_dc (z := (14, .ireturn, 1, 0, 0)) tk_X8_isLeg 8 rfl) (by decide +kernel) rfl (congrArg q_oi hF.symm) (Nat.le_of_ble_eq_true rfl) (Nat.le_of_ble_eq_true rfl)
  · rw [if_neg c1] at hF
    refine q_go C tk_X8_isLeg [(1, 3)] [false] (pc1 := 6) (σ1 := σ) (lv1 := [(0, .int g)]) (st1 := [.int 4, .int g]) rfl ⟨c1, trivial⟩ ?_
    by_cases c2 : g < 4
    · rw [if_pos c2] at hF
      refine q_go C tk_X8_isLeg [(4, 3)] [false] (pc1 := 14) (σ1 := σ) (lv1 := [(0, .int g)]) (st1 := [.int 1]) rfl ⟨c2, trivial⟩ ?_
      exact q_zret C hr (q_dc (z := (14, .ireturn, 1, 0, 0)) tk_X8_isLeg 8 rfl) (by decide +kernel) rfl (congrArg q_oi hF.symm) (Nat.le_of_ble_eq_true rfl) (Nat.le_of_ble_eq_true rfl)
    · rw [if_neg c2] at hF
      refine q_go C tk_X8_isLeg [(4, 1), (7, 1)] [true] (pc1 := 14) (σ1 := σ) (lv1 := [(0, .int g)]) (st1 := [.int 0]) rfl ⟨c2, trivial⟩ ?_
      exact q_zret C hr (q_dc (z := (14, .ireturn, 1, 0, 0)) tk_X8_isLeg 8 rfl) (by decide +kernel) rfl (congrArg q_oi hF.symm) (Nat.le_of_ble_eq_true rfl) (Nat.le_of_ble_eq_true rfl)
theorem z_X8_isLeg {g : Int32} {σ : q_M} : (F_X8_isLeg g σ) = 0 ∨ (F_X8_isLeg g σ) = 1 := by
  unfold F_X8_isLeg
  try simp only [q_L]
  repeat' split
  all_goals first | exact Or.inl rfl | exact Or.inr rfl | exact rfl
def F_X8_isKind (k : Int32) (σ : q_M) : Int32 := (if k = 0 then 1 else (if k = 1 then 1 else 0))
set_option maxRecDepth 100000 in
theorem k_X8_isKind {α β : Nat → Nat} {D : va_G} {κ : Nat → ClassId} (k : Int32) (σ : q_M) : q_C α β D κ yX8_isKind cX8_isKind 1 (Option.some Jvm.ClassFile.FieldType.boolean) 0 0 0 0 [.int k] σ (q_oi (F_X8_isKind k σ)) σ := by
  refine q_enter (own := RX8) (F := F_X8) (G := G_X8) (by decide +kernel) rfl Fok_X8 Gok_X8 (Nat.le_of_ble_eq_true rfl) (fun p l e s m args below meth c A hfl C hr hT => ?_)
  generalize hF : F_X8_isKind k σ = rr
  unfold F_X8_isKind at hF
  refine q_go C tk_X8_isKind [(0, 1)] [] (pc1 := 1) (σ1 := σ) (lv1 := [(0, .int k)]) (st1 := [.int k]) rfl trivial ?_
  by_cases c1 : k = 0
  · rw [if_pos c1] at hF
    refine q_go C tk_X8_isKind [(1, 1), (5, 2)] [true] (pc1 := 14) (σ1 := σ) (lv1 := [(0, .int k)]) (st1 := [.int 1]) rfl ⟨c1, trivial⟩ ?_
    exact q_zret C hr (q_dc (z := (14, .ireturn, 1, 0, 0)) tk_X8_isKind 8 rfl) (by decide +kernel) rfl (congrArg q_oi hF.symm) (Nat.le_of_ble_eq_true rfl) (Nat.le_of_ble_eq_true rfl)
  · rw [if_neg c1] at hF
    refine q_go C tk_X8_isKind [(1, 3)] [false] (pc1 := 6) (σ1 := σ) (lv1 := [(0, .int k)]) (st1 := [.int 1, .int k]) rfl ⟨c1, trivial⟩ ?_
    by_cases c2 : k = 1
    · rw [if_pos c2] at hF
      refine q_go C tk_X8_isKind [(4, 3)] [false] (pc1 := 14) (σ1 := σ) (lv1 := [(0, .int k)]) (st1 := [.int 1]) rfl ⟨c2, trivial⟩ ?_
      exact q_zret C hr (q_dc (z := (14, .ireturn, 1, 0, 0)) tk_X8_isKind 8 rfl) (by decide +kernel) rfl (congrArg q_oi hF.symm) (Nat.le_of_ble_eq_true rfl) (Nat.le_of_ble_eq_true rfl)
    · rw [if_neg c2] at hF
      refine q_go C tk_X8_isKind [(4, 1), (7, 1)] [true] (pc1 := 14) (σ1 := σ) (lv1 := [(0, .int k)]) (st1 := [.int 0]) rfl ⟨c2, trivial⟩ ?_
      exact q_zret C hr (q_dc (z := (14, .ireturn, 1, 0, 0)) tk_X8_isKind 8 rfl) (by decide +kernel) rfl (congrArg q_oi hF.symm) (Nat.le_of_ble_eq_true rfl) (Nat.le_of_ble_eq_true rfl)
theorem z_X8_isKind {k : Int32} {σ : q_M} : (F_X8_isKind k σ) = 0 ∨ (F_X8_isKind k σ) = 1 := by
  unfold F_X8_isKind
  try simp only [q_L]
  repeat' split
  all_goals first | exact Or.inl rfl | exact Or.inr rfl | exact rfl
def F_X8_pace (v : Int32) (n : Int32) (σ : q_M) : Int32 := (q_max 10 (v - (n / 10)))
set_option maxRecDepth 100000 in
theorem k_X8_pace {α β : Nat → Nat} {D : va_G} {κ : Nat → ClassId} (v : Int32) (n : Int32) (σ : q_M) : q_C α β D κ yX8_pace cX8_pace 2 (Option.some Jvm.ClassFile.FieldType.int) 4 60 0 0 [.int v, .int n] σ (q_oi (F_X8_pace v n σ)) σ := by
  refine q_enter (own := RX8) (F := F_X8) (G := G_X8) (by decide +kernel) rfl Fok_X8 Gok_X8 (Nat.le_of_ble_eq_true rfl) (fun p l e s m args below meth c A hfl C hr hT => ?_)
  generalize hF : F_X8_pace v n σ = rr
  unfold F_X8_pace at hF
  refine q_go C tk_X8_pace [(0, 6)] [] (pc1 := 8) (σ1 := σ) (lv1 := [(0, .int v), (1, .int n)]) (st1 := [.int (v - (n / 10)), .int 10]) rfl ⟨(by decide), trivial⟩ ?_
  refine q_mmax C lk_X8_417 (q_dc (z := (8, .invokestatic 417, 3, 0, 0)) tk_X8_pace 6 rfl) (Nat.le_of_ble_eq_true rfl) ⟨Nat.le_of_ble_eq_true rfl, Nat.le_of_ble_eq_true rfl⟩ ⟨Nat.le_of_ble_eq_true rfl, Nat.le_of_ble_eq_true rfl⟩ ?_
  refine q_nrm 11 [.int (q_max 10 (v - (n / 10)))] 0 0 rfl rfl rfl rfl ?_
  exact q_iret C hr (q_dc (z := (11, .ireturn, 1, 0, 0)) tk_X8_pace 7 rfl) rfl (congrArg q_oi hF.symm) (Nat.le_of_ble_eq_true rfl) (Nat.le_of_ble_eq_true rfl)
def F_X8_at (f : Nat) (j : Int32) (σ : q_M) : Int32 := (if j < 0 then 0 else (if j < (nI (q_len f)) then (σ f (j).toNatClampNeg) else 0))
def P_X8_at (f : Nat) (j : Int32) (σ : q_M) : Prop := ((j < 0 → True) ∧ (¬ j < 0 → ((j < (nI (q_len f)) → (vp_in j (q_len f) ∧ True)) ∧ (¬ j < (nI (q_len f)) → True))))
set_option maxRecDepth 100000 in
theorem k_X8_at {α β : Nat → Nat} {D : va_G} {κ : Nat → ClassId} (f : Nat) (j : Int32) (σ : q_M) (h_f : q_kd f = 20) (hP : P_X8_at f j σ) : q_C α β D κ yX8_at cX8_at 2 (Option.some Jvm.ClassFile.FieldType.int) 0 0 0 0 [.ref f, .int j] σ (q_oi (F_X8_at f j σ)) σ := by
  refine q_enter (own := RX8) (F := F_X8) (G := G_X8) (by decide +kernel) rfl Fok_X8 Gok_X8 (Nat.le_of_ble_eq_true rfl) (fun p l e s m args below meth c A hfl C hr hT => ?_)
  generalize hF : F_X8_at f j σ = rr
  unfold F_X8_at at hF
  refine q_go C tk_X8_at [(0, 1)] [] (pc1 := 1) (σ1 := σ) (lv1 := [(0, .ref f), (1, .int j)]) (st1 := [.int j]) rfl trivial ?_
  by_cases c1 : j < 0
  · rw [if_pos c1] at hF
    refine q_go C tk_X8_at [(1, 1), (10, 1)] [true] (pc1 := 17) (σ1 := σ) (lv1 := [(0, .ref f), (1, .int j)]) (st1 := [.int 0]) rfl ⟨c1, trivial⟩ ?_
    exact q_iret C hr (q_dc (z := (17, .ireturn, 1, 0, 0)) tk_X8_at 11 rfl) rfl (congrArg q_oi hF.symm) (Nat.le_of_ble_eq_true rfl) (Nat.le_of_ble_eq_true rfl)
  · rw [if_neg c1] at hF
    refine q_go C tk_X8_at [(1, 4)] [false] (pc1 := 7) (σ1 := σ) (lv1 := [(0, .ref f), (1, .int j)]) (st1 := [.int (nI (q_len f)), .int j]) rfl ⟨c1, h_f, trivial⟩ ?_
    by_cases c2 : j < (nI (q_len f))
    · rw [if_pos c2] at hF
      refine q_go C tk_X8_at [(5, 5)] [false] (pc1 := 17) (σ1 := σ) (lv1 := [(0, .ref f), (1, .int j)]) (st1 := [.int (σ f (j).toNatClampNeg)]) rfl ⟨c2, h_f, ((hP.2 c1).1 c2).1, trivial⟩ ?_
      exact q_iret C hr (q_dc (z := (17, .ireturn, 1, 0, 0)) tk_X8_at 11 rfl) rfl (congrArg q_oi hF.symm) (Nat.le_of_ble_eq_true rfl) (Nat.le_of_ble_eq_true rfl)
    · rw [if_neg c2] at hF
      refine q_go C tk_X8_at [(5, 1), (10, 1)] [true] (pc1 := 17) (σ1 := σ) (lv1 := [(0, .ref f), (1, .int j)]) (st1 := [.int 0]) rfl ⟨c2, trivial⟩ ?_
      exact q_iret C hr (q_dc (z := (17, .ireturn, 1, 0, 0)) tk_X8_at 11 rfl) rfl (congrArg q_oi hF.symm) (Nat.le_of_ble_eq_true rfl) (Nat.le_of_ble_eq_true rfl)
def F_X8_put (f : Nat) (j : Int32) (v : Int32) (σ : q_M) : q_M := (if j < 0 then σ else (if j < (nI (q_len f)) then (q_up σ f (j).toNatClampNeg v) else σ))
def P_X8_put (f : Nat) (j : Int32) (v : Int32) (σ : q_M) : Prop := ((j < 0 → True) ∧ (¬ j < 0 → ((j < (nI (q_len f)) → (vp_in j (q_len f) ∧ True)) ∧ (¬ j < (nI (q_len f)) → True))))
set_option maxRecDepth 100000 in
theorem k_X8_put {α β : Nat → Nat} {D : va_G} {κ : Nat → ClassId} (f : Nat) (j : Int32) (v : Int32) (σ : q_M) (h_f : q_kd f = 20) (hP : P_X8_put f j v σ) : q_C α β D κ yX8_put cX8_put 3 (Option.none : Option Jvm.ClassFile.FieldType) 0 0 0 0 [.ref f, .int j, .int v] σ q_ov (F_X8_put f j v σ) := by
  refine q_enter (own := RX8) (F := F_X8) (G := G_X8) (by decide +kernel) rfl Fok_X8 Gok_X8 (Nat.le_of_ble_eq_true rfl) (fun p l e s m args below meth c A hfl C hr hT => ?_)
  generalize hF : F_X8_put f j v σ = rr
  unfold F_X8_put at hF
  refine q_go C tk_X8_put [(0, 1)] [] (pc1 := 1) (σ1 := σ) (lv1 := [(0, .ref f), (1, .int j), (2, .int v)]) (st1 := [.int j]) rfl trivial ?_
  by_cases c1 : j < 0
  · rw [if_pos c1] at hF
    refine q_go C tk_X8_put [(1, 1)] [true] (pc1 := 14) (σ1 := σ) (lv1 := [(0, .ref f), (1, .int j), (2, .int v)]) (st1 := []) rfl ⟨c1, trivial⟩ ?_
    exact q_vret C hr (q_dc (z := (14, .return_, 1, 0, 0)) tk_X8_put 10 rfl) hF rfl (Nat.le_of_ble_eq_true rfl) (Nat.le_of_ble_eq_true rfl)
  · rw [if_neg c1] at hF
    refine q_go C tk_X8_put [(1, 4)] [false] (pc1 := 7) (σ1 := σ) (lv1 := [(0, .ref f), (1, .int j), (2, .int v)]) (st1 := [.int (nI (q_len f)), .int j]) rfl ⟨c1, h_f, trivial⟩ ?_
    by_cases c2 : j < (nI (q_len f))
    · rw [if_pos c2] at hF
      refine q_go C tk_X8_put [(5, 5)] [false] (pc1 := 14) (σ1 := (q_up σ f (j).toNatClampNeg v)) (lv1 := [(0, .ref f), (1, .int j), (2, .int v)]) (st1 := []) rfl ⟨c2, h_f, ((hP.2 c1).1 c2).1, trivial⟩ ?_
      exact q_vret C hr (q_dc (z := (14, .return_, 1, 0, 0)) tk_X8_put 10 rfl) hF rfl (Nat.le_of_ble_eq_true rfl) (Nat.le_of_ble_eq_true rfl)
    · rw [if_neg c2] at hF
      refine q_go C tk_X8_put [(5, 1)] [true] (pc1 := 14) (σ1 := σ) (lv1 := [(0, .ref f), (1, .int j), (2, .int v)]) (st1 := []) rfl ⟨c2, trivial⟩ ?_
      exact q_vret C hr (q_dc (z := (14, .return_, 1, 0, 0)) tk_X8_put 10 rfl) hF rfl (Nat.le_of_ble_eq_true rfl) (Nat.le_of_ble_eq_true rfl)
def FL_X8_copyRow_2 (f : Nat) (g : Nat) : Nat → Int32 → q_M → q_M
  | 0, v2, τ => τ
  | nn + 1, v2, τ => (if v2 < (nI (q_len g)) then (FL_X8_copyRow_2 f g nn (v2 + 1) (q_up τ g (v2).toNatClampNeg (F_X8_at f v2 τ))) else τ)
def PL_X8_copyRow_2 (f : Nat) (g : Nat) : Nat → Int32 → q_M → Prop
  | 0, v2, τ => False
  | nn + 1, v2, τ => ((v2 < (nI (q_len g)) → ((P_X8_at f v2 τ) ∧ (vp_in v2 (q_len g) ∧ (PL_X8_copyRow_2 f g nn (v2 + 1) (q_up τ g (v2).toNatClampNeg (F_X8_at f v2 τ)))))) ∧ (¬ v2 < (nI (q_len g)) → True))
set_option maxRecDepth 100000 in
theorem kl_X8_copyRow_2 {α β : Nat → Nat} {D : va_G} {κ : Nat → ClassId} (f : Nat) (g : Nat) (h_f : q_kd f = 20) (h_g : q_kd g = 20) {p : Program} {l : Launch} {e : Env} {s : State} {m : MethodId} {args : Array Value} {below : List Frame} {meth : Method} {c : Code} {A : Nat → Prop} (hfl : l.flags = flags0) (C : q_Cx α β D κ p s m args meth c cX8_copyRow RX8 F_X8 G_X8 3 A) (hr : meth.sig.returnType = (Option.none : Option Jvm.ClassFile.FieldType)) (hT : ∀ x ∈ c.exceptionTable.toList, False) : ∀ (nn : Nat) (v2 : Int32) (τ : q_M) (rr : q_M), PL_X8_copyRow_2 f g nn v2 τ → FL_X8_copyRow_2 f g nn v2 τ = rr → q_St α β D κ p l e ({ frames := 1, cells := 0, slots := 0, locals := 21 } : Room) s m args below meth c 3 A (vx_MQ below (q_Qc α β D κ A q_ov rr) (q_XC α β D κ A q_ov rr) args s 0 0 A) 0 0 τ [(0, .ref f), (1, .ref g), (2, .int v2)] 2 [] := by
  intro nn
  induction nn with
  | zero => intro v2 τ rr hP; exact hP.elim
  | succ nn ih =>
    intro v2 τ rr hP hF
    unfold FL_X8_copyRow_2 at hF
    refine q_go C tk_X8_copyRow [(2, 3)] [] (pc1 := 5) (σ1 := τ) (lv1 := [(0, .ref f), (1, .ref g), (2, .int v2)]) (st1 := [.int (nI (q_len g)), .int v2]) rfl ⟨h_g, trivial⟩ ?_
    by_cases c1 : v2 < (nI (q_len g))
    · rw [if_pos c1] at hF
      refine q_go C tk_X8_copyRow [(5, 5)] [false] (pc1 := 12) (σ1 := τ) (lv1 := [(0, .ref f), (1, .ref g), (2, .int v2)]) (st1 := [.int v2, .ref f, .int v2, .ref g]) rfl ⟨c1, trivial⟩ ?_
      refine q_callS C hfl mw_X8_at ms_X8_at lk_X8_222 (k_X8_at f v2 τ h_f (hP.1 c1).1) (rest := [.int v2, .ref g]) rfl rfl (q_dc (z := (12, .invokestatic 222, 3, 0, 0)) tk_X8_copyRow 10 rfl) (Nat.le_of_ble_eq_true rfl) ⟨Nat.le_of_ble_eq_true rfl, Nat.le_of_ble_eq_true rfl⟩ ⟨Nat.le_of_ble_eq_true rfl, Nat.le_of_ble_eq_true rfl⟩ ?_
      refine q_nrm 15 [.int (F_X8_at f v2 τ), .int v2, .ref g] 0 0 rfl rfl rfl rfl ?_
      refine q_go C tk_X8_copyRow [(11, 3)] [] (pc1 := 2) (σ1 := (q_up τ g (v2).toNatClampNeg (F_X8_at f v2 τ))) (lv1 := [(2, .int (v2 + 1)), (0, .ref f), (1, .ref g)]) (st1 := []) rfl ⟨h_g, (hP.1 c1).2.1, trivial⟩ ?_
      refine q_lvpick [1, 2, 0] (lv' := [(0, .ref f), (1, .ref g), (2, .int (v2 + 1))]) rfl ?_
      exact ih (v2 + 1) (q_up τ g (v2).toNatClampNeg (F_X8_at f v2 τ)) rr (hP.1 c1).2.2 hF
    · rw [if_neg c1] at hF
      refine q_go C tk_X8_copyRow [(5, 1)] [true] (pc1 := 22) (σ1 := τ) (lv1 := [(0, .ref f), (1, .ref g), (2, .int v2)]) (st1 := []) rfl ⟨c1, trivial⟩ ?_
      exact q_vret C hr (q_dc (z := (22, .return_, 1, 0, 0)) tk_X8_copyRow 14 rfl) hF rfl (Nat.le_of_ble_eq_true rfl) (Nat.le_of_ble_eq_true rfl)
def F_X8_copyRow (f : Nat) (g : Nat) (σ : q_M) : q_M := (FL_X8_copyRow_2 f g 8 0 σ)
def P_X8_copyRow (f : Nat) (g : Nat) (σ : q_M) : Prop := (PL_X8_copyRow_2 f g 8 0 σ)
set_option maxRecDepth 100000 in
theorem k_X8_copyRow {α β : Nat → Nat} {D : va_G} {κ : Nat → ClassId} (f : Nat) (g : Nat) (σ : q_M) (h_f : q_kd f = 20) (h_g : q_kd g = 20) (hP : P_X8_copyRow f g σ) : q_C α β D κ yX8_copyRow cX8_copyRow 3 (Option.none : Option Jvm.ClassFile.FieldType) 1 21 0 0 [.ref f, .ref g] σ q_ov (F_X8_copyRow f g σ) := by
  refine q_enter (own := RX8) (F := F_X8) (G := G_X8) (by decide +kernel) rfl Fok_X8 Gok_X8 (Nat.le_of_ble_eq_true rfl) (fun p l e s m args below meth c A hfl C hr hT => ?_)
  generalize hF : F_X8_copyRow f g σ = rr
  unfold F_X8_copyRow at hF
  refine q_go C tk_X8_copyRow [(0, 2)] [] (pc1 := 2) (σ1 := σ) (lv1 := [(2, .int 0), (0, .ref f), (1, .ref g)]) (st1 := []) rfl trivial ?_
  refine q_lvpick [1, 2, 0] (lv' := [(0, .ref f), (1, .ref g), (2, .int 0)]) rfl ?_
  exact kl_X8_copyRow_2 f g h_f h_g hfl C hr hT 8 0 σ rr hP hF
def F_X6_copyFrom (t : Nat) (u : Nat) (σ : q_M) : q_M := (q_L (F_X8_copyRow (u + 1) (t + 1) σ) (fun σ1 : q_M => (q_L (F_X8_copyRow (u + 2) (t + 2) σ1) (fun σ3 : q_M => (q_up (q_up (q_up (q_up (q_up (q_up (q_up (q_up (q_up (q_up (q_up σ3 t 3 (σ3 u 3)) t 4 (σ3 u 4)) t 5 (σ3 u 5)) t 6 (σ3 u 6)) t 7 (σ3 u 7)) t 8 (σ3 u 8)) t 9 (σ3 u 9)) t 10 (σ3 u 10)) t 11 (σ3 u 11)) t 12 (σ3 u 12)) t 13 (σ3 u 13))))))
def P_X6_copyFrom (t : Nat) (u : Nat) (σ : q_M) : Prop := ((P_X8_copyRow (u + 1) (t + 1) σ) ∧ (∀ σ1 : q_M, (F_X8_copyRow (u + 1) (t + 1) σ) = σ1 → ((P_X8_copyRow (u + 2) (t + 2) σ1) ∧ (∀ σ3 : q_M, (F_X8_copyRow (u + 2) (t + 2) σ1) = σ3 → (((σ3 u 12) = 0 ∨ (σ3 u 12) = 1) ∧ (((σ3 u 13) = 0 ∨ (σ3 u 13) = 1) ∧ True))))))
set_option maxRecDepth 100000 in
theorem k_X6_copyFrom {α β : Nat → Nat} {D : va_G} {κ : Nat → ClassId} (t : Nat) (u : Nat) (σ : q_M) (h_t : q_kd t = 7) (h_u : q_kd u = 7) (hP : P_X6_copyFrom t u σ) : q_C α β D κ yX6_copyFrom cX6_copyFrom 2 (Option.none : Option Jvm.ClassFile.FieldType) 2 43 0 0 [.ref t, .ref u] σ q_ov (F_X6_copyFrom t u σ) := by
  refine q_enter (own := RX6) (F := F_X6) (G := G_X6) (by decide +kernel) rfl Fok_X6 Gok_X6 (Nat.le_of_ble_eq_true rfl) (fun p l e s m args below meth c A hfl C hr hT => ?_)
  generalize hF : F_X6_copyFrom t u σ = rr
  unfold F_X6_copyFrom at hF
  refine q_go C tk_X6_copyFrom [(0, 4)] [] (pc1 := 8) (σ1 := σ) (lv1 := [(0, .ref t), (1, .ref u)]) (st1 := [.ref (t + 1), .ref (u + 1)]) rfl ⟨h_u, h_t, trivial⟩ ?_
  refine q_callN C hfl mw_X8_copyRow ms_X8_copyRow nl_X6_34 (k_X8_copyRow (u + 1) (t + 1) σ (q_kd_sp h_u) (q_kd_sp h_t) hP.1) (rest := []) rfl rfl (q_dc (z := (8, .invokestatic 34, 3, 0, 0)) tk_X6_copyFrom 4 rfl) (Nat.le_of_ble_eq_true rfl) ⟨Nat.le_of_ble_eq_true rfl, Nat.le_of_ble_eq_true rfl⟩ ⟨Nat.le_of_ble_eq_true rfl, Nat.le_of_ble_eq_true rfl⟩ ?_
  refine q_nrm 11 [] 0 0 rfl rfl rfl rfl ?_
  generalize e2 : (F_X8_copyRow (u + 1) (t + 1) σ) = σ1
  replace hF := q_let e2 hF
  refine q_go C tk_X6_copyFrom [(5, 4)] [] (pc1 := 19) (σ1 := σ1) (lv1 := [(0, .ref t), (1, .ref u)]) (st1 := [.ref (t + 2), .ref (u + 2)]) rfl ⟨h_u, h_t, trivial⟩ ?_
  refine q_callN C hfl mw_X8_copyRow ms_X8_copyRow nl_X6_34 (k_X8_copyRow (u + 2) (t + 2) σ1 (q_kd_sl h_u) (q_kd_sl h_t) (hP.2 σ1 e2).1) (rest := []) rfl rfl (q_dc (z := (19, .invokestatic 34, 3, 0, 0)) tk_X6_copyFrom 9 rfl) (Nat.le_of_ble_eq_true rfl) ⟨Nat.le_of_ble_eq_true rfl, Nat.le_of_ble_eq_true rfl⟩ ⟨Nat.le_of_ble_eq_true rfl, Nat.le_of_ble_eq_true rfl⟩ ?_
  refine q_nrm 22 [] 0 0 rfl rfl rfl rfl ?_
  generalize e4 : (F_X8_copyRow (u + 2) (t + 2) σ1) = σ3
  replace hF := q_let e4 hF
  refine q_go C tk_X6_copyFrom [(10, 44)] [] (pc1 := 110) (σ1 := (q_up (q_up (q_up (q_up (q_up (q_up (q_up (q_up (q_up (q_up (q_up σ3 t 3 (σ3 u 3)) t 4 (σ3 u 4)) t 5 (σ3 u 5)) t 6 (σ3 u 6)) t 7 (σ3 u 7)) t 8 (σ3 u 8)) t 9 (σ3 u 9)) t 10 (σ3 u 10)) t 11 (σ3 u 11)) t 12 (σ3 u 12)) t 13 (σ3 u 13))) (lv1 := [(0, .ref t), (1, .ref u)]) (st1 := []) rfl ⟨h_u, h_t, h_u, h_t, h_u, h_t, h_u, h_t, h_u, h_t, h_u, h_t, h_u, h_t, h_u, h_t, h_u, h_t, h_u, h_t, ((hP.2 σ1 e2).2 σ3 e4).1, h_u, h_t, ((hP.2 σ1 e2).2 σ3 e4).2.1, trivial⟩ ?_
  exact q_vret C hr (q_dc (z := (110, .return_, 1, 0, 0)) tk_X6_copyFrom 54 rfl) hF rfl (Nat.le_of_ble_eq_true rfl) (Nat.le_of_ble_eq_true rfl)
def F_X6_speedOn (t : Nat) (g : Int32) (σ : q_M) : Int32 := (F_X8_at (t + 1) g σ)
def P_X6_speedOn (t : Nat) (g : Int32) (σ : q_M) : Prop := ((P_X8_at (t + 1) g σ) ∧ True)
set_option maxRecDepth 100000 in
theorem k_X6_speedOn {α β : Nat → Nat} {D : va_G} {κ : Nat → ClassId} (t : Nat) (g : Int32) (σ : q_M) (h_t : q_kd t = 7) (hP : P_X6_speedOn t g σ) : q_C α β D κ yX6_speedOn cX6_speedOn 2 (Option.some Jvm.ClassFile.FieldType.int) 1 21 0 0 [.ref t, .int g] σ (q_oi (F_X6_speedOn t g σ)) σ := by
  refine q_enter (own := RX6) (F := F_X6) (G := G_X6) (by decide +kernel) rfl Fok_X6 Gok_X6 (Nat.le_of_ble_eq_true rfl) (fun p l e s m args below meth c A hfl C hr hT => ?_)
  generalize hF : F_X6_speedOn t g σ = rr
  unfold F_X6_speedOn at hF
  refine q_go C tk_X6_speedOn [(0, 3)] [] (pc1 := 5) (σ1 := σ) (lv1 := [(0, .ref t), (1, .int g)]) (st1 := [.int g, .ref (t + 1)]) rfl ⟨h_t, trivial⟩ ?_
  refine q_callN C hfl mw_X8_at ms_X8_at nl_X6_66 (k_X8_at (t + 1) g σ (q_kd_sp h_t) hP.1) (rest := []) rfl rfl (q_dc (z := (5, .invokestatic 66, 3, 0, 0)) tk_X6_speedOn 3 rfl) (Nat.le_of_ble_eq_true rfl) ⟨Nat.le_of_ble_eq_true rfl, Nat.le_of_ble_eq_true rfl⟩ ⟨Nat.le_of_ble_eq_true rfl, Nat.le_of_ble_eq_true rfl⟩ ?_
  refine q_nrm 8 [.int (F_X8_at (t + 1) g σ)] 0 0 rfl rfl rfl rfl ?_
  exact q_iret C hr (q_dc (z := (8, .ireturn, 1, 0, 0)) tk_X6_speedOn 4 rfl) rfl (congrArg q_oi hF.symm) (Nat.le_of_ble_eq_true rfl) (Nat.le_of_ble_eq_true rfl)
def F_X6_changeSpeed (t : Nat) (g : Int32) (v : Int32) (σ : q_M) : (Int32) × q_M := (q_L (F_X8_at (t + 1) g σ) (fun x1 : Int32 => (q_L (F_X8_put (t + 1) g v σ) (fun σ3 : q_M => (x1, σ3)))))
def P_X6_changeSpeed (t : Nat) (g : Int32) (v : Int32) (σ : q_M) : Prop := ((P_X8_at (t + 1) g σ) ∧ (∀ x1 : Int32, (F_X8_at (t + 1) g σ) = x1 → ((P_X8_put (t + 1) g v σ) ∧ True)))
set_option maxRecDepth 100000 in
theorem k_X6_changeSpeed {α β : Nat → Nat} {D : va_G} {κ : Nat → ClassId} (t : Nat) (g : Int32) (v : Int32) (σ : q_M) (h_t : q_kd t = 7) (hP : P_X6_changeSpeed t g v σ) : q_C α β D κ yX6_changeSpeed cX6_changeSpeed 4 (Option.some Jvm.ClassFile.FieldType.int) 1 22 0 0 [.ref t, .int g, .int v] σ (q_oi (F_X6_changeSpeed t g v σ).1) (F_X6_changeSpeed t g v σ).2 := by
  refine q_enter (own := RX6) (F := F_X6) (G := G_X6) (by decide +kernel) rfl Fok_X6 Gok_X6 (Nat.le_of_ble_eq_true rfl) (fun p l e s m args below meth c A hfl C hr hT => ?_)
  generalize hF : F_X6_changeSpeed t g v σ = rr
  unfold F_X6_changeSpeed at hF
  refine q_go C tk_X6_changeSpeed [(0, 3)] [] (pc1 := 5) (σ1 := σ) (lv1 := [(0, .ref t), (1, .int g), (2, .int v)]) (st1 := [.int g, .ref (t + 1)]) rfl ⟨h_t, trivial⟩ ?_
  refine q_callN C hfl mw_X8_at ms_X8_at nl_X6_66 (k_X8_at (t + 1) g σ (q_kd_sp h_t) hP.1) (rest := []) rfl rfl (q_dc (z := (5, .invokestatic 66, 3, 0, 0)) tk_X6_changeSpeed 3 rfl) (Nat.le_of_ble_eq_true rfl) ⟨Nat.le_of_ble_eq_true rfl, Nat.le_of_ble_eq_true rfl⟩ ⟨Nat.le_of_ble_eq_true rfl, Nat.le_of_ble_eq_true rfl⟩ ?_
  refine q_nrm 8 [.int (F_X8_at (t + 1) g σ)] 0 0 rfl rfl rfl rfl ?_
  generalize e2 : (F_X8_at (t + 1) g σ) = x1
  replace hF := q_let e2 hF
  refine q_go C tk_X6_changeSpeed [(4, 5)] [] (pc1 := 15) (σ1 := σ) (lv1 := [(3, .int x1), (0, .ref t), (1, .int g), (2, .int v)]) (st1 := [.int v, .int g, .ref (t + 1)]) rfl ⟨h_t, trivial⟩ ?_
  refine q_callN C hfl mw_X8_put ms_X8_put nl_X6_70 (k_X8_put (t + 1) g v σ (q_kd_sp h_t) (hP.2 x1 e2).1) (rest := []) rfl rfl (q_dc (z := (15, .invokestatic 70, 3, 0, 0)) tk_X6_changeSpeed 9 rfl) (Nat.le_of_ble_eq_true rfl) ⟨Nat.le_of_ble_eq_true rfl, Nat.le_of_ble_eq_true rfl⟩ ⟨Nat.le_of_ble_eq_true rfl, Nat.le_of_ble_eq_true rfl⟩ ?_
  refine q_nrm 18 [] 0 0 rfl rfl rfl rfl ?_
  generalize e4 : (F_X8_put (t + 1) g v σ) = σ3
  replace hF := q_let e4 hF
  refine q_go C tk_X6_changeSpeed [(10, 1)] [] (pc1 := 19) (σ1 := σ3) (lv1 := [(3, .int x1), (0, .ref t), (1, .int g), (2, .int v)]) (st1 := [.int x1]) rfl trivial ?_
  exact q_iret C hr (q_dc (z := (19, .ireturn, 1, 0, 0)) tk_X6_changeSpeed 11 rfl) (congrArg Prod.snd hF) (congrArg (fun z => q_oi z.1) hF.symm) (Nat.le_of_ble_eq_true rfl) (Nat.le_of_ble_eq_true rfl)
def F_X6_legEnd (t : Nat) (q : Int32) (σ : q_M) : Int32 := (((σ t 6) + 1) * q)
set_option maxRecDepth 100000 in
theorem k_X6_legEnd {α β : Nat → Nat} {D : va_G} {κ : Nat → ClassId} (t : Nat) (q : Int32) (σ : q_M) (h_t : q_kd t = 7) : q_C α β D κ yX6_legEnd cX6_legEnd 2 (Option.some Jvm.ClassFile.FieldType.int) 0 0 0 0 [.ref t, .int q] σ (q_oi (F_X6_legEnd t q σ)) σ := by
  refine q_enter (own := RX6) (F := F_X6) (G := G_X6) (by decide +kernel) rfl Fok_X6 Gok_X6 (Nat.le_of_ble_eq_true rfl) (fun p l e s m args below meth c A hfl C hr hT => ?_)
  generalize hF : F_X6_legEnd t q σ = rr
  unfold F_X6_legEnd at hF
  refine q_go C tk_X6_legEnd [(0, 6)] [] (pc1 := 8) (σ1 := σ) (lv1 := [(0, .ref t), (1, .int q)]) (st1 := [.int (((σ t 6) + 1) * q)]) rfl ⟨h_t, trivial⟩ ?_
  exact q_iret C hr (q_dc (z := (8, .ireturn, 1, 0, 0)) tk_X6_legEnd 6 rfl) rfl (congrArg q_oi hF.symm) (Nat.le_of_ble_eq_true rfl) (Nat.le_of_ble_eq_true rfl)
def F_X6_inZone (t : Nat) (q : Int32) (σ : q_M) : Int32 := (if (σ t 6) < 3 then (if (σ t 5) < ((F_X6_legEnd t q σ) - 100) then 0 else (if ((F_X6_legEnd t q σ) + 100) < (σ t 5) then 0 else 1)) else 0)
set_option maxRecDepth 100000 in
theorem k_X6_inZone {α β : Nat → Nat} {D : va_G} {κ : Nat → ClassId} (t : Nat) (q : Int32) (σ : q_M) (h_t : q_kd t = 7) : q_C α β D κ yX6_inZone cX6_inZone 2 (Option.some Jvm.ClassFile.FieldType.boolean) 1 21 0 0 [.ref t, .int q] σ (q_oi (F_X6_inZone t q σ)) σ := by
  refine q_enter (own := RX6) (F := F_X6) (G := G_X6) (by decide +kernel) rfl Fok_X6 Gok_X6 (Nat.le_of_ble_eq_true rfl) (fun p l e s m args below meth c A hfl C hr hT => ?_)
  generalize hF : F_X6_inZone t q σ = rr
  unfold F_X6_inZone at hF
  refine q_go C tk_X6_inZone [(0, 3)] [] (pc1 := 5) (σ1 := σ) (lv1 := [(0, .ref t), (1, .int q)]) (st1 := [.int 3, .int (σ t 6)]) rfl ⟨h_t, trivial⟩ ?_
  by_cases c1 : (σ t 6) < 3
  · rw [if_pos c1] at hF
    refine q_go C tk_X6_inZone [(3, 5)] [false] (pc1 := 14) (σ1 := σ) (lv1 := [(0, .ref t), (1, .int q)]) (st1 := [.int q, .ref t, .int (σ t 5)]) rfl ⟨c1, h_t, trivial⟩ ?_
    refine q_callV C hfl mw_X6_legEnd mi_X6_legEnd me_X6_legEnd lk_X6_74 (k_X6_legEnd t q σ h_t) (rest := [.int (σ t 5)]) rfl h_t rfl (by decide) (by decide) rfl (q_dc (z := (14, .invokevirtual 74, 3, 0, 0)) tk_X6_inZone 8 rfl) (Nat.le_of_ble_eq_true rfl) ⟨Nat.le_of_ble_eq_true rfl, Nat.le_of_ble_eq_true rfl⟩ ⟨Nat.le_of_ble_eq_true rfl, Nat.le_of_ble_eq_true rfl⟩ ?_
    refine q_nrm 17 [.int (F_X6_legEnd t q σ), .int (σ t 5)] 0 0 rfl rfl rfl rfl ?_
    refine q_go C tk_X6_inZone [(9, 2)] [] (pc1 := 20) (σ1 := σ) (lv1 := [(0, .ref t), (1, .int q)]) (st1 := [.int ((F_X6_legEnd t q σ) - 100), .int (σ t 5)]) rfl trivial ?_
    by_cases c2 : (σ t 5) < ((F_X6_legEnd t q σ) - 100)
    · rw [if_pos c2] at hF
      refine q_go C tk_X6_inZone [(11, 1), (22, 1)] [true] (pc1 := 43) (σ1 := σ) (lv1 := [(0, .ref t), (1, .int q)]) (st1 := [.int 0]) rfl ⟨c2, trivial⟩ ?_
      exact q_zret C hr (q_dc (z := (43, .ireturn, 1, 0, 0)) tk_X6_inZone 23 rfl) (by decide +kernel) rfl (congrArg q_oi hF.symm) (Nat.le_of_ble_eq_true rfl) (Nat.le_of_ble_eq_true rfl)
    · rw [if_neg c2] at hF
      refine q_go C tk_X6_inZone [(11, 5)] [false] (pc1 := 29) (σ1 := σ) (lv1 := [(0, .ref t), (1, .int q)]) (st1 := [.int q, .ref t, .int (σ t 5)]) rfl ⟨c2, h_t, trivial⟩ ?_
      refine q_callV C hfl mw_X6_legEnd mi_X6_legEnd me_X6_legEnd lk_X6_74 (k_X6_legEnd t q σ h_t) (rest := [.int (σ t 5)]) rfl h_t rfl (by decide) (by decide) rfl (q_dc (z := (29, .invokevirtual 74, 3, 0, 0)) tk_X6_inZone 16 rfl) (Nat.le_of_ble_eq_true rfl) ⟨Nat.le_of_ble_eq_true rfl, Nat.le_of_ble_eq_true rfl⟩ ⟨Nat.le_of_ble_eq_true rfl, Nat.le_of_ble_eq_true rfl⟩ ?_
      refine q_nrm 32 [.int (F_X6_legEnd t q σ), .int (σ t 5)] 0 0 rfl rfl rfl rfl ?_
      refine q_go C tk_X6_inZone [(17, 2)] [] (pc1 := 35) (σ1 := σ) (lv1 := [(0, .ref t), (1, .int q)]) (st1 := [.int ((F_X6_legEnd t q σ) + 100), .int (σ t 5)]) rfl trivial ?_
      by_cases c3 : ((F_X6_legEnd t q σ) + 100) < (σ t 5)
      · rw [if_pos c3] at hF
        refine q_go C tk_X6_inZone [(19, 1), (22, 1)] [true] (pc1 := 43) (σ1 := σ) (lv1 := [(0, .ref t), (1, .int q)]) (st1 := [.int 0]) rfl ⟨c3, trivial⟩ ?_
        exact q_zret C hr (q_dc (z := (43, .ireturn, 1, 0, 0)) tk_X6_inZone 23 rfl) (by decide +kernel) rfl (congrArg q_oi hF.symm) (Nat.le_of_ble_eq_true rfl) (Nat.le_of_ble_eq_true rfl)
      · rw [if_neg c3] at hF
        refine q_go C tk_X6_inZone [(19, 3)] [false] (pc1 := 43) (σ1 := σ) (lv1 := [(0, .ref t), (1, .int q)]) (st1 := [.int 1]) rfl ⟨c3, trivial⟩ ?_
        exact q_zret C hr (q_dc (z := (43, .ireturn, 1, 0, 0)) tk_X6_inZone 23 rfl) (by decide +kernel) rfl (congrArg q_oi hF.symm) (Nat.le_of_ble_eq_true rfl) (Nat.le_of_ble_eq_true rfl)
  · rw [if_neg c1] at hF
    refine q_go C tk_X6_inZone [(3, 1), (22, 1)] [true] (pc1 := 43) (σ1 := σ) (lv1 := [(0, .ref t), (1, .int q)]) (st1 := [.int 0]) rfl ⟨c1, trivial⟩ ?_
    exact q_zret C hr (q_dc (z := (43, .ireturn, 1, 0, 0)) tk_X6_inZone 23 rfl) (by decide +kernel) rfl (congrArg q_oi hF.symm) (Nat.le_of_ble_eq_true rfl) (Nat.le_of_ble_eq_true rfl)
theorem z_X6_inZone {t : Nat} {q : Int32} {σ : q_M} : (F_X6_inZone t q σ) = 0 ∨ (F_X6_inZone t q σ) = 1 := by
  unfold F_X6_inZone
  try simp only [q_L]
  repeat' split
  all_goals first | exact Or.inl rfl | exact Or.inr rfl | exact rfl
def F_X6_reasonToRefuse (t : Nat) (q : Int32) (σ : q_M) : Int32 := (if 0 < (σ t 8) then 1 else (if (σ t 6) < 3 then (if (σ t 5) < ((F_X6_legEnd t q σ) - 100) then 3 else 0) else 2))
set_option maxRecDepth 100000 in
theorem k_X6_reasonToRefuse {α β : Nat → Nat} {D : va_G} {κ : Nat → ClassId} (t : Nat) (q : Int32) (σ : q_M) (h_t : q_kd t = 7) : q_C α β D κ yX6_reasonToRefuse cX6_reasonToRefuse 2 (Option.some Jvm.ClassFile.FieldType.int) 1 21 0 0 [.ref t, .int q] σ (q_oi (F_X6_reasonToRefuse t q σ)) σ := by
  refine q_enter (own := RX6) (F := F_X6) (G := G_X6) (by decide +kernel) rfl Fok_X6 Gok_X6 (Nat.le_of_ble_eq_true rfl) (fun p l e s m args below meth c A hfl C hr hT => ?_)
  generalize hF : F_X6_reasonToRefuse t q σ = rr
  unfold F_X6_reasonToRefuse at hF
  refine q_go C tk_X6_reasonToRefuse [(0, 2)] [] (pc1 := 4) (σ1 := σ) (lv1 := [(0, .ref t), (1, .int q)]) (st1 := [.int (σ t 8)]) rfl ⟨h_t, trivial⟩ ?_
  by_cases c1 : 0 < (σ t 8)
  · rw [if_pos c1] at hF
    refine q_go C tk_X6_reasonToRefuse [(2, 2)] [false] (pc1 := 8) (σ1 := σ) (lv1 := [(0, .ref t), (1, .int q)]) (st1 := [.int 1]) rfl ⟨c1, trivial⟩ ?_
    exact q_iret C hr (q_dc (z := (8, .ireturn, 1, 0, 0)) tk_X6_reasonToRefuse 4 rfl) rfl (congrArg q_oi hF.symm) (Nat.le_of_ble_eq_true rfl) (Nat.le_of_ble_eq_true rfl)
  · rw [if_neg c1] at hF
    refine q_go C tk_X6_reasonToRefuse [(2, 1), (5, 3)] [true] (pc1 := 14) (σ1 := σ) (lv1 := [(0, .ref t), (1, .int q)]) (st1 := [.int 3, .int (σ t 6)]) rfl ⟨c1, h_t, trivial⟩ ?_
    by_cases c2 : (σ t 6) < 3
    · rw [if_pos c2] at hF
      refine q_go C tk_X6_reasonToRefuse [(8, 1), (11, 4)] [true] (pc1 := 25) (σ1 := σ) (lv1 := [(0, .ref t), (1, .int q)]) (st1 := [.int q, .ref t, .int (σ t 5)]) rfl ⟨c2, h_t, trivial⟩ ?_
      refine q_callV C hfl mw_X6_legEnd mi_X6_legEnd me_X6_legEnd lk_X6_74 (k_X6_legEnd t q σ h_t) (rest := [.int (σ t 5)]) rfl h_t rfl (by decide) (by decide) rfl (q_dc (z := (25, .invokevirtual 74, 3, 0, 0)) tk_X6_reasonToRefuse 15 rfl) (Nat.le_of_ble_eq_true rfl) ⟨Nat.le_of_ble_eq_true rfl, Nat.le_of_ble_eq_true rfl⟩ ⟨Nat.le_of_ble_eq_true rfl, Nat.le_of_ble_eq_true rfl⟩ ?_
      refine q_nrm 28 [.int (F_X6_legEnd t q σ), .int (σ t 5)] 0 0 rfl rfl rfl rfl ?_
      refine q_go C tk_X6_reasonToRefuse [(16, 2)] [] (pc1 := 31) (σ1 := σ) (lv1 := [(0, .ref t), (1, .int q)]) (st1 := [.int ((F_X6_legEnd t q σ) - 100), .int (σ t 5)]) rfl trivial ?_
      by_cases c3 : (σ t 5) < ((F_X6_legEnd t q σ) - 100)
      · rw [if_pos c3] at hF
        refine q_go C tk_X6_reasonToRefuse [(18, 3)] [false] (pc1 := 39) (σ1 := σ) (lv1 := [(0, .ref t), (1, .int q)]) (st1 := [.int 3]) rfl ⟨c3, trivial⟩ ?_
        exact q_iret C hr (q_dc (z := (39, .ireturn, 1, 0, 0)) tk_X6_reasonToRefuse 22 rfl) rfl (congrArg q_oi hF.symm) (Nat.le_of_ble_eq_true rfl) (Nat.le_of_ble_eq_true rfl)
      · rw [if_neg c3] at hF
        refine q_go C tk_X6_reasonToRefuse [(18, 1), (21, 1)] [true] (pc1 := 39) (σ1 := σ) (lv1 := [(0, .ref t), (1, .int q)]) (st1 := [.int 0]) rfl ⟨c3, trivial⟩ ?_
        exact q_iret C hr (q_dc (z := (39, .ireturn, 1, 0, 0)) tk_X6_reasonToRefuse 22 rfl) rfl (congrArg q_oi hF.symm) (Nat.le_of_ble_eq_true rfl) (Nat.le_of_ble_eq_true rfl)
    · rw [if_neg c2] at hF
      refine q_go C tk_X6_reasonToRefuse [(8, 2)] [false] (pc1 := 18) (σ1 := σ) (lv1 := [(0, .ref t), (1, .int q)]) (st1 := [.int 2]) rfl ⟨c2, trivial⟩ ?_
      exact q_iret C hr (q_dc (z := (18, .ireturn, 1, 0, 0)) tk_X6_reasonToRefuse 10 rfl) rfl (congrArg q_oi hF.symm) (Nat.le_of_ble_eq_true rfl) (Nat.le_of_ble_eq_true rfl)
def F_X6_endLeg (t : Nat) (q : Int32) (σ : q_M) : (Int32) × q_M := (q_L (q - (σ t 10)) (fun x1 : Int32 => (q_L (F_X8_put (t + 2) (σ t 6) x1 σ) (fun σ3 : q_M => (x1, (q_up σ3 t 10 q))))))
def P_X6_endLeg (t : Nat) (q : Int32) (σ : q_M) : Prop := (∀ x1 : Int32, (q - (σ t 10)) = x1 → ((P_X8_put (t + 2) (σ t 6) x1 σ) ∧ True))
set_option maxRecDepth 100000 in
theorem k_X6_endLeg {α β : Nat → Nat} {D : va_G} {κ : Nat → ClassId} (t : Nat) (q : Int32) (σ : q_M) (h_t : q_kd t = 7) (hP : P_X6_endLeg t q σ) : q_C α β D κ yX6_endLeg cX6_endLeg 3 (Option.some Jvm.ClassFile.FieldType.int) 1 22 0 0 [.ref t, .int q] σ (q_oi (F_X6_endLeg t q σ).1) (F_X6_endLeg t q σ).2 := by
  refine q_enter (own := RX6) (F := F_X6) (G := G_X6) (by decide +kernel) rfl Fok_X6 Gok_X6 (Nat.le_of_ble_eq_true rfl) (fun p l e s m args below meth c A hfl C hr hT => ?_)
  generalize hF : F_X6_endLeg t q σ = rr
  unfold F_X6_endLeg at hF
  refine q_go C tk_X6_endLeg [(0, 4)] [] (pc1 := 6) (σ1 := σ) (lv1 := [(0, .ref t), (1, .int q)]) (st1 := [.int (q - (σ t 10))]) rfl ⟨h_t, trivial⟩ ?_
  generalize e2 : (q - (σ t 10)) = x1
  replace hF := q_let e2 hF
  refine q_go C tk_X6_endLeg [(4, 6)] [] (pc1 := 16) (σ1 := σ) (lv1 := [(2, .int x1), (0, .ref t), (1, .int q)]) (st1 := [.int x1, .int (σ t 6), .ref (t + 2)]) rfl ⟨h_t, h_t, trivial⟩ ?_
  refine q_callN C hfl mw_X8_put ms_X8_put nl_X6_70 (k_X8_put (t + 2) (σ t 6) x1 σ (q_kd_sl h_t) (hP x1 e2).1) (rest := []) rfl rfl (q_dc (z := (16, .invokestatic 70, 3, 0, 0)) tk_X6_endLeg 10 rfl) (Nat.le_of_ble_eq_true rfl) ⟨Nat.le_of_ble_eq_true rfl, Nat.le_of_ble_eq_true rfl⟩ ⟨Nat.le_of_ble_eq_true rfl, Nat.le_of_ble_eq_true rfl⟩ ?_
  refine q_nrm 19 [] 0 0 rfl rfl rfl rfl ?_
  generalize e4 : (F_X8_put (t + 2) (σ t 6) x1 σ) = σ3
  replace hF := q_let e4 hF
  refine q_go C tk_X6_endLeg [(11, 4)] [] (pc1 := 25) (σ1 := (q_up σ3 t 10 q)) (lv1 := [(2, .int x1), (0, .ref t), (1, .int q)]) (st1 := [.int x1]) rfl ⟨h_t, trivial⟩ ?_
  exact q_iret C hr (q_dc (z := (25, .ireturn, 1, 0, 0)) tk_X6_endLeg 15 rfl) (congrArg Prod.snd hF) (congrArg (fun z => q_oi z.1) hF.symm) (Nat.le_of_ble_eq_true rfl) (Nat.le_of_ble_eq_true rfl)
def F_X6_runOneSecond (t : Nat) (q : Int32) (σ : q_M) : q_M := (q_L ((F_X6_legEnd t q σ) + 300) (fun x1 : Int32 => (q_L ((σ t 5) + (F_X8_pace (F_X8_at (t + 1) (σ t 6) σ) (σ t 7) σ)) (fun x3 : Int32 => (if (σ t 6) < 3 then (if (σ t 5) < x1 then (q_up (q_up σ t 5 (q_min x1 x3)) t 7 ((σ t 7) + 1)) else σ) else (q_up (q_up σ t 5 x3) t 7 ((σ t 7) + 1)))))))
def P_X6_runOneSecond (t : Nat) (q : Int32) (σ : q_M) : Prop := (∀ x1 : Int32, ((F_X6_legEnd t q σ) + 300) = x1 → ((P_X8_at (t + 1) (σ t 6) σ) ∧ True))
set_option maxRecDepth 100000 in
theorem k_X6_runOneSecond {α β : Nat → Nat} {D : va_G} {κ : Nat → ClassId} (t : Nat) (q : Int32) (σ : q_M) (h_t : q_kd t = 7) (hP : P_X6_runOneSecond t q σ) : q_C α β D κ yX6_runOneSecond cX6_runOneSecond 4 (Option.none : Option Jvm.ClassFile.FieldType) 5 81 0 0 [.ref t, .int q] σ q_ov (F_X6_runOneSecond t q σ) := by
  refine q_enter (own := RX6) (F := F_X6) (G := G_X6) (by decide +kernel) rfl Fok_X6 Gok_X6 (Nat.le_of_ble_eq_true rfl) (fun p l e s m args below meth c A hfl C hr hT => ?_)
  generalize hF : F_X6_runOneSecond t q σ = rr
  unfold F_X6_runOneSecond at hF
  refine q_go C tk_X6_runOneSecond [(0, 2)] [] (pc1 := 2) (σ1 := σ) (lv1 := [(0, .ref t), (1, .int q)]) (st1 := [.int q, .ref t]) rfl trivial ?_
  refine q_callV C hfl mw_X6_legEnd mi_X6_legEnd me_X6_legEnd lk_X6_74 (k_X6_legEnd t q σ h_t) (rest := []) rfl h_t rfl (by decide) (by decide) rfl (q_dc (z := (2, .invokevirtual 74, 3, 0, 0)) tk_X6_runOneSecond 2 rfl) (Nat.le_of_ble_eq_true rfl) ⟨Nat.le_of_ble_eq_true rfl, Nat.le_of_ble_eq_true rfl⟩ ⟨Nat.le_of_ble_eq_true rfl, Nat.le_of_ble_eq_true rfl⟩ ?_
  refine q_nrm 5 [.int (F_X6_legEnd t q σ)] 0 0 rfl rfl rfl rfl ?_
  refine q_go C tk_X6_runOneSecond [(3, 2)] [] (pc1 := 9) (σ1 := σ) (lv1 := [(0, .ref t), (1, .int q)]) (st1 := [.int ((F_X6_legEnd t q σ) + 300)]) rfl trivial ?_
  generalize e2 : ((F_X6_legEnd t q σ) + 300) = x1
  replace hF := q_let e2 hF
  refine q_go C tk_X6_runOneSecond [(5, 7)] [] (pc1 := 22) (σ1 := σ) (lv1 := [(2, .int x1), (0, .ref t), (1, .int q)]) (st1 := [.int (σ t 6), .ref (t + 1), .int (σ t 5)]) rfl ⟨h_t, h_t, h_t, trivial⟩ ?_
  refine q_callN C hfl mw_X8_at ms_X8_at nl_X6_66 (k_X8_at (t + 1) (σ t 6) σ (q_kd_sp h_t) (hP x1 e2).1) (rest := [.int (σ t 5)]) rfl rfl (q_dc (z := (22, .invokestatic 66, 3, 0, 0)) tk_X6_runOneSecond 12 rfl) (Nat.le_of_ble_eq_true rfl) ⟨Nat.le_of_ble_eq_true rfl, Nat.le_of_ble_eq_true rfl⟩ ⟨Nat.le_of_ble_eq_true rfl, Nat.le_of_ble_eq_true rfl⟩ ?_
  refine q_nrm 25 [.int (F_X8_at (t + 1) (σ t 6) σ), .int (σ t 5)] 0 0 rfl rfl rfl rfl ?_
  refine q_go C tk_X6_runOneSecond [(13, 2)] [] (pc1 := 29) (σ1 := σ) (lv1 := [(2, .int x1), (0, .ref t), (1, .int q)]) (st1 := [.int (σ t 7), .int (F_X8_at (t + 1) (σ t 6) σ), .int (σ t 5)]) rfl ⟨h_t, trivial⟩ ?_
  refine q_callN C hfl mw_X8_pace ms_X8_pace nl_X6_88 (k_X8_pace (F_X8_at (t + 1) (σ t 6) σ) (σ t 7) σ) (rest := [.int (σ t 5)]) rfl rfl (q_dc (z := (29, .invokestatic 88, 3, 0, 0)) tk_X6_runOneSecond 15 rfl) (Nat.le_of_ble_eq_true rfl) ⟨Nat.le_of_ble_eq_true rfl, Nat.le_of_ble_eq_true rfl⟩ ⟨Nat.le_of_ble_eq_true rfl, Nat.le_of_ble_eq_true rfl⟩ ?_
  refine q_nrm 32 [.int (F_X8_pace (F_X8_at (t + 1) (σ t 6) σ) (σ t 7) σ), .int (σ t 5)] 0 0 rfl rfl rfl rfl ?_
  refine q_go C tk_X6_runOneSecond [(16, 1)] [] (pc1 := 33) (σ1 := σ) (lv1 := [(2, .int x1), (0, .ref t), (1, .int q)]) (st1 := [.int ((σ t 5) + (F_X8_pace (F_X8_at (t + 1) (σ t 6) σ) (σ t 7) σ))]) rfl trivial ?_
  generalize e4 : ((σ t 5) + (F_X8_pace (F_X8_at (t + 1) (σ t 6) σ) (σ t 7) σ)) = x3
  replace hF := q_let e4 hF
  refine q_go C tk_X6_runOneSecond [(17, 4)] [] (pc1 := 39) (σ1 := σ) (lv1 := [(3, .int x3), (2, .int x1), (0, .ref t), (1, .int q)]) (st1 := [.int 3, .int (σ t 6)]) rfl ⟨h_t, trivial⟩ ?_
  by_cases c5 : (σ t 6) < 3
  · rw [if_pos c5] at hF
    refine q_go C tk_X6_runOneSecond [(21, 4)] [false] (pc1 := 47) (σ1 := σ) (lv1 := [(3, .int x3), (2, .int x1), (0, .ref t), (1, .int q)]) (st1 := [.int x1, .int (σ t 5)]) rfl ⟨c5, h_t, trivial⟩ ?_
    by_cases c6 : (σ t 5) < x1
    · rw [if_pos c6] at hF
      refine q_go C tk_X6_runOneSecond [(25, 1), (27, 7)] [true, false] (pc1 := 62) (σ1 := σ) (lv1 := [(3, .int x3), (2, .int x1), (0, .ref t), (1, .int q)]) (st1 := [.int x3, .int x1, .ref t]) rfl ⟨c6, h_t, c5, trivial⟩ ?_
      refine q_mmin C lk_X6_92 (q_dc (z := (62, .invokestatic 92, 3, 0, 0)) tk_X6_runOneSecond 34 rfl) (Nat.le_of_ble_eq_true rfl) ⟨Nat.le_of_ble_eq_true rfl, Nat.le_of_ble_eq_true rfl⟩ ⟨Nat.le_of_ble_eq_true rfl, Nat.le_of_ble_eq_true rfl⟩ ?_
      refine q_nrm 65 [.int (q_min x1 x3), .ref t] 0 0 rfl rfl rfl rfl ?_
      refine q_go C tk_X6_runOneSecond [(35, 1), (37, 7)] [] (pc1 := 82) (σ1 := (q_up (q_up σ t 5 (q_min x1 x3)) t 7 ((σ t 7) + 1))) (lv1 := [(3, .int x3), (2, .int x1), (0, .ref t), (1, .int q)]) (st1 := []) rfl ⟨h_t, h_t, h_t, trivial⟩ ?_
      exact q_vret C hr (q_dc (z := (82, .return_, 1, 0, 0)) tk_X6_runOneSecond 44 rfl) hF rfl (Nat.le_of_ble_eq_true rfl) (Nat.le_of_ble_eq_true rfl)
    · rw [if_neg c6] at hF
      refine q_go C tk_X6_runOneSecond [(25, 1)] [false] (pc1 := 50) (σ1 := σ) (lv1 := [(3, .int x3), (2, .int x1), (0, .ref t), (1, .int q)]) (st1 := []) rfl ⟨c6, trivial⟩ ?_
      exact q_vret C hr (q_dc (z := (50, .return_, 1, 0, 0)) tk_X6_runOneSecond 26 rfl) hF rfl (Nat.le_of_ble_eq_true rfl) (Nat.le_of_ble_eq_true rfl)
  · rw [if_neg c5] at hF
    refine q_go C tk_X6_runOneSecond [(21, 1), (27, 5), (36, 8)] [true, true] (pc1 := 82) (σ1 := (q_up (q_up σ t 5 x3) t 7 ((σ t 7) + 1))) (lv1 := [(3, .int x3), (2, .int x1), (0, .ref t), (1, .int q)]) (st1 := []) rfl ⟨c5, h_t, c5, h_t, h_t, h_t, trivial⟩ ?_
    exact q_vret C hr (q_dc (z := (82, .return_, 1, 0, 0)) tk_X6_runOneSecond 44 rfl) hF rfl (Nat.le_of_ble_eq_true rfl) (Nat.le_of_ble_eq_true rfl)
def F_X6_moveOneSecond (t : Nat) (q : Int32) (k : Int32) (σ : q_M) : (Int32) × q_M := (if 0 < (σ t 8) then (0, (q_up σ t 8 ((σ t 8) - 1))) else (q_L (F_X6_runOneSecond t q σ) (fun σ2 : q_M => (if (σ2 t 6) < 3 then (0, σ2) else (if (σ2 t 5) < (4 * q) then (0, σ2) else (q_L (q_up (q_up σ2 t 3 3) t 11 k) (fun σ6 : q_M => (q_L (F_X6_endLeg t k σ6).2 (fun σ8 : q_M => (1, σ8))))))))))
def P_X6_moveOneSecond (t : Nat) (q : Int32) (k : Int32) (σ : q_M) : Prop := ((0 < (σ t 8) → True) ∧ (¬ 0 < (σ t 8) → ((P_X6_runOneSecond t q σ) ∧ (∀ σ2 : q_M, (F_X6_runOneSecond t q σ) = σ2 → (((σ2 t 6) < 3 → True) ∧ (¬ (σ2 t 6) < 3 → (((σ2 t 5) < (4 * q) → True) ∧ (¬ (σ2 t 5) < (4 * q) → (∀ σ6 : q_M, (q_up (q_up σ2 t 3 3) t 11 k) = σ6 → ((P_X6_endLeg t k σ6) ∧ True))))))))))
set_option maxRecDepth 100000 in
theorem k_X6_moveOneSecond {α β : Nat → Nat} {D : va_G} {κ : Nat → ClassId} (t : Nat) (q : Int32) (k : Int32) (σ : q_M) (h_t : q_kd t = 7) (hP : P_X6_moveOneSecond t q k σ) : q_C α β D κ yX6_moveOneSecond cX6_moveOneSecond 3 (Option.some Jvm.ClassFile.FieldType.boolean) 6 104 0 0 [.ref t, .int q, .int k] σ (q_oi (F_X6_moveOneSecond t q k σ).1) (F_X6_moveOneSecond t q k σ).2 := by
  refine q_enter (own := RX6) (F := F_X6) (G := G_X6) (by decide +kernel) rfl Fok_X6 Gok_X6 (Nat.le_of_ble_eq_true rfl) (fun p l e s m args below meth c A hfl C hr hT => ?_)
  generalize hF : F_X6_moveOneSecond t q k σ = rr
  unfold F_X6_moveOneSecond at hF
  refine q_go C tk_X6_moveOneSecond [(0, 2)] [] (pc1 := 4) (σ1 := σ) (lv1 := [(0, .ref t), (1, .int q), (2, .int k)]) (st1 := [.int (σ t 8)]) rfl ⟨h_t, trivial⟩ ?_
  by_cases c1 : 0 < (σ t 8)
  · rw [if_pos c1] at hF
    refine q_go C tk_X6_moveOneSecond [(2, 8)] [false] (pc1 := 18) (σ1 := (q_up σ t 8 ((σ t 8) - 1))) (lv1 := [(0, .ref t), (1, .int q), (2, .int k)]) (st1 := [.int 0]) rfl ⟨c1, h_t, h_t, trivial⟩ ?_
    exact q_zret C hr (q_dc (z := (18, .ireturn, 1, 0, 0)) tk_X6_moveOneSecond 10 rfl) (by decide +kernel) (congrArg Prod.snd hF) (congrArg (fun z => q_oi z.1) hF.symm) (Nat.le_of_ble_eq_true rfl) (Nat.le_of_ble_eq_true rfl)
  · rw [if_neg c1] at hF
    refine q_go C tk_X6_moveOneSecond [(2, 1), (11, 2)] [true] (pc1 := 21) (σ1 := σ) (lv1 := [(0, .ref t), (1, .int q), (2, .int k)]) (st1 := [.int q, .ref t]) rfl ⟨c1, trivial⟩ ?_
    refine q_callV C hfl mw_X6_runOneSecond mi_X6_runOneSecond me_X6_runOneSecond lk_X6_78 (k_X6_runOneSecond t q σ h_t (hP.2 c1).1) (rest := []) rfl h_t rfl (by decide) (by decide) rfl (q_dc (z := (21, .invokevirtual 78, 3, 0, 0)) tk_X6_moveOneSecond 13 rfl) (Nat.le_of_ble_eq_true rfl) ⟨Nat.le_of_ble_eq_true rfl, Nat.le_of_ble_eq_true rfl⟩ ⟨Nat.le_of_ble_eq_true rfl, Nat.le_of_ble_eq_true rfl⟩ ?_
    refine q_nrm 24 [] 0 0 rfl rfl rfl rfl ?_
    generalize e3 : (F_X6_runOneSecond t q σ) = σ2
    replace hF := q_let e3 hF
    refine q_go C tk_X6_moveOneSecond [(14, 3)] [] (pc1 := 29) (σ1 := σ2) (lv1 := [(0, .ref t), (1, .int q), (2, .int k)]) (st1 := [.int 3, .int (σ2 t 6)]) rfl ⟨h_t, trivial⟩ ?_
    by_cases c4 : (σ2 t 6) < 3
    · rw [if_pos c4] at hF
      refine q_go C tk_X6_moveOneSecond [(17, 1), (24, 1)] [true] (pc1 := 43) (σ1 := σ2) (lv1 := [(0, .ref t), (1, .int q), (2, .int k)]) (st1 := [.int 0]) rfl ⟨c4, trivial⟩ ?_
      exact q_zret C hr (q_dc (z := (43, .ireturn, 1, 0, 0)) tk_X6_moveOneSecond 25 rfl) (by decide +kernel) (congrArg Prod.snd hF) (congrArg (fun z => q_oi z.1) hF.symm) (Nat.le_of_ble_eq_true rfl) (Nat.le_of_ble_eq_true rfl)
    · rw [if_neg c4] at hF
      refine q_go C tk_X6_moveOneSecond [(17, 6)] [false] (pc1 := 39) (σ1 := σ2) (lv1 := [(0, .ref t), (1, .int q), (2, .int k)]) (st1 := [.int (4 * q), .int (σ2 t 5)]) rfl ⟨c4, h_t, trivial⟩ ?_
      by_cases c5 : (σ2 t 5) < (4 * q)
      · rw [if_pos c5] at hF
        refine q_go C tk_X6_moveOneSecond [(23, 2)] [false] (pc1 := 43) (σ1 := σ2) (lv1 := [(0, .ref t), (1, .int q), (2, .int k)]) (st1 := [.int 0]) rfl ⟨c5, trivial⟩ ?_
        exact q_zret C hr (q_dc (z := (43, .ireturn, 1, 0, 0)) tk_X6_moveOneSecond 25 rfl) (by decide +kernel) (congrArg Prod.snd hF) (congrArg (fun z => q_oi z.1) hF.symm) (Nat.le_of_ble_eq_true rfl) (Nat.le_of_ble_eq_true rfl)
      · rw [if_neg c5] at hF
        refine q_go C tk_X6_moveOneSecond [(23, 1), (26, 8)] [true] (pc1 := 58) (σ1 := (q_up (q_up σ2 t 3 3) t 11 k)) (lv1 := [(0, .ref t), (1, .int q), (2, .int k)]) (st1 := [.int k, .ref t]) rfl ⟨c5, h_t, h_t, trivial⟩ ?_
        generalize e7 : (q_up (q_up σ2 t 3 3) t 11 k) = σ6
        replace hF := q_let e7 hF
        refine q_callV C hfl mw_X6_endLeg mi_X6_endLeg me_X6_endLeg lk_X6_85 (k_X6_endLeg t k σ6 h_t (((((hP.2 c1).2 σ2 e3).2 c4).2 c5) σ6 e7).1) (rest := []) rfl h_t rfl (by decide) (by decide) rfl (q_dc (z := (58, .invokevirtual 85, 3, 0, 0)) tk_X6_moveOneSecond 34 rfl) (Nat.le_of_ble_eq_true rfl) ⟨Nat.le_of_ble_eq_true rfl, Nat.le_of_ble_eq_true rfl⟩ ⟨Nat.le_of_ble_eq_true rfl, Nat.le_of_ble_eq_true rfl⟩ ?_
        refine q_nrm 61 [.int (F_X6_endLeg t k σ6).1] 0 0 rfl rfl rfl rfl ?_
        generalize e9 : (F_X6_endLeg t k σ6).2 = σ8
        replace hF := q_let e9 hF
        refine q_go C tk_X6_moveOneSecond [(35, 2)] [] (pc1 := 63) (σ1 := σ8) (lv1 := [(0, .ref t), (1, .int q), (2, .int k)]) (st1 := [.int 1]) rfl trivial ?_
        exact q_zret C hr (q_dc (z := (63, .ireturn, 1, 0, 0)) tk_X6_moveOneSecond 37 rfl) (by decide +kernel) (congrArg Prod.snd hF) (congrArg (fun z => q_oi z.1) hF.symm) (Nat.le_of_ble_eq_true rfl) (Nat.le_of_ble_eq_true rfl)
def F_X6_hasEnded (t : Nat) (g : Int32) (σ : q_M) : Int32 := (if g < (σ t 6) then 1 else (if (σ t 3) = 3 then 1 else 0))
set_option maxRecDepth 100000 in
theorem k_X6_hasEnded {α β : Nat → Nat} {D : va_G} {κ : Nat → ClassId} (t : Nat) (g : Int32) (σ : q_M) (h_t : q_kd t = 7) : q_C α β D κ yX6_hasEnded cX6_hasEnded 2 (Option.some Jvm.ClassFile.FieldType.boolean) 0 0 0 0 [.ref t, .int g] σ (q_oi (F_X6_hasEnded t g σ)) σ := by
  refine q_enter (own := RX6) (F := F_X6) (G := G_X6) (by decide +kernel) rfl Fok_X6 Gok_X6 (Nat.le_of_ble_eq_true rfl) (fun p l e s m args below meth c A hfl C hr hT => ?_)
  generalize hF : F_X6_hasEnded t g σ = rr
  unfold F_X6_hasEnded at hF
  refine q_go C tk_X6_hasEnded [(0, 3)] [] (pc1 := 5) (σ1 := σ) (lv1 := [(0, .ref t), (1, .int g)]) (st1 := [.int (σ t 6), .int g]) rfl ⟨h_t, trivial⟩ ?_
  by_cases c1 : g < (σ t 6)
  · rw [if_pos c1] at hF
    refine q_go C tk_X6_hasEnded [(3, 1), (8, 2)] [true] (pc1 := 23) (σ1 := σ) (lv1 := [(0, .ref t), (1, .int g)]) (st1 := [.int 1]) rfl ⟨c1, trivial⟩ ?_
    exact q_zret C hr (q_dc (z := (23, .ireturn, 1, 0, 0)) tk_X6_hasEnded 11 rfl) (by decide +kernel) rfl (congrArg q_oi hF.symm) (Nat.le_of_ble_eq_true rfl) (Nat.le_of_ble_eq_true rfl)
  · rw [if_neg c1] at hF
    refine q_go C tk_X6_hasEnded [(3, 4)] [false] (pc1 := 15) (σ1 := σ) (lv1 := [(0, .ref t), (1, .int g)]) (st1 := [q_e 3, q_e (σ t 3)]) rfl ⟨c1, h_t, trivial⟩ ?_
    by_cases c2 : (σ t 3) = 3
    · rw [if_pos c2] at hF
      refine q_go C tk_X6_hasEnded [(7, 3)] [false] (pc1 := 23) (σ1 := σ) (lv1 := [(0, .ref t), (1, .int g)]) (st1 := [.int 1]) rfl ⟨(congrArg Int32.toUInt32 c2), trivial⟩ ?_
      exact q_zret C hr (q_dc (z := (23, .ireturn, 1, 0, 0)) tk_X6_hasEnded 11 rfl) (by decide +kernel) rfl (congrArg q_oi hF.symm) (Nat.le_of_ble_eq_true rfl) (Nat.le_of_ble_eq_true rfl)
    · rw [if_neg c2] at hF
      refine q_go C tk_X6_hasEnded [(7, 1), (10, 1)] [true] (pc1 := 23) (σ1 := σ) (lv1 := [(0, .ref t), (1, .int g)]) (st1 := [.int 0]) rfl ⟨(fun q => c2 (q_u32 q)), trivial⟩ ?_
      exact q_zret C hr (q_dc (z := (23, .ireturn, 1, 0, 0)) tk_X6_hasEnded 11 rfl) (by decide +kernel) rfl (congrArg q_oi hF.symm) (Nat.le_of_ble_eq_true rfl) (Nat.le_of_ble_eq_true rfl)
theorem z_X6_hasEnded {t : Nat} {g : Int32} {σ : q_M} : (F_X6_hasEnded t g σ) = 0 ∨ (F_X6_hasEnded t g σ) = 1 := by
  unfold F_X6_hasEnded
  try simp only [q_L]
  repeat' split
  all_goals first | exact Or.inl rfl | exact Or.inr rfl | exact rfl
def FL_X6_secondsUntilZone_27 (t : Nat) (q : Int32) : Nat → Int32 → Int32 → Int32 → q_M → Int32
  | 0, v2, v3, v4, τ => 0
  | nn + 1, v2, v3, v4, τ => (if v3 < v2 then (if v4 < 1000000 then (q_L (v3 + (F_X8_pace (F_X8_at (t + 1) (τ t 6) τ) ((τ t 7) + v4) τ)) (fun x6 : Int32 => (FL_X6_secondsUntilZone_27 t q nn v2 x6 (v4 + 1) τ))) else ((τ t 8) + v4)) else ((τ t 8) + v4))
def PL_X6_secondsUntilZone_27 (t : Nat) (q : Int32) : Nat → Int32 → Int32 → Int32 → q_M → Prop
  | 0, v2, v3, v4, τ => False
  | nn + 1, v2, v3, v4, τ => ((v3 < v2 → ((v4 < 1000000 → ((P_X8_at (t + 1) (τ t 6) τ) ∧ (∀ x6 : Int32, (v3 + (F_X8_pace (F_X8_at (t + 1) (τ t 6) τ) ((τ t 7) + v4) τ)) = x6 → (PL_X6_secondsUntilZone_27 t q nn v2 x6 (v4 + 1) τ)))) ∧ (¬ v4 < 1000000 → True))) ∧ (¬ v3 < v2 → True))
set_option maxRecDepth 100000 in
theorem kl_X6_secondsUntilZone_27 {α β : Nat → Nat} {D : va_G} {κ : Nat → ClassId} (t : Nat) (q : Int32) (h_t : q_kd t = 7) {p : Program} {l : Launch} {e : Env} {s : State} {m : MethodId} {args : Array Value} {below : List Frame} {meth : Method} {c : Code} {A : Nat → Prop} (hfl : l.flags = flags0) (C : q_Cx α β D κ p s m args meth c cX6_secondsUntilZone RX6 F_X6 G_X6 5 A) (hr : meth.sig.returnType = (Option.some Jvm.ClassFile.FieldType.int)) (hT : ∀ x ∈ c.exceptionTable.toList, False) : ∀ (nn : Nat) (v2 : Int32) (v3 : Int32) (v4 : Int32) (τ : q_M) (rr : Int32), PL_X6_secondsUntilZone_27 t q nn v2 v3 v4 τ → FL_X6_secondsUntilZone_27 t q nn v2 v3 v4 τ = rr → q_St α β D κ p l e ({ frames := 5, cells := 0, slots := 0, locals := 81 } : Room) s m args below meth c 5 A (vx_MQ below (q_Qc α β D κ A (q_oi rr) τ) (q_XC α β D κ A (q_oi rr) τ) args s 0 0 A) 0 0 τ [(0, .ref t), (1, .int q), (2, .int v2), (3, .int v3), (4, .int v4)] 27 [] := by
  intro nn
  induction nn with
  | zero => intro v2 v3 v4 τ rr hP; exact hP.elim
  | succ nn ih =>
    intro v2 v3 v4 τ rr hP hF
    unfold FL_X6_secondsUntilZone_27 at hF
    refine q_go C tk_X6_secondsUntilZone [(17, 2)] [] (pc1 := 29) (σ1 := τ) (lv1 := [(0, .ref t), (1, .int q), (2, .int v2), (3, .int v3), (4, .int v4)]) (st1 := [.int v2, .int v3]) rfl trivial ?_
    by_cases c4 : v3 < v2
    · rw [if_pos c4] at hF
      refine q_go C tk_X6_secondsUntilZone [(19, 2)] [false] (pc1 := 34) (σ1 := τ) (lv1 := [(0, .ref t), (1, .int q), (2, .int v2), (3, .int v3), (4, .int v4)]) (st1 := [.int v4]) rfl ⟨c4, trivial⟩ ?_
      refine q_ldc C ck_X6_97 (q_dc (z := (34, .ldc 97, 2, 0, 0)) tk_X6_secondsUntilZone 21 rfl) ?_
      by_cases c5 : v4 < 1000000
      · rw [if_pos c5] at hF
        refine q_go C tk_X6_secondsUntilZone [(22, 6)] [false] (pc1 := 48) (σ1 := τ) (lv1 := [(0, .ref t), (1, .int q), (2, .int v2), (3, .int v3), (4, .int v4)]) (st1 := [.int (τ t 6), .ref (t + 1), .int v3]) rfl ⟨c5, h_t, h_t, trivial⟩ ?_
        refine q_callN C hfl mw_X8_at ms_X8_at nl_X6_66 (k_X8_at (t + 1) (τ t 6) τ (q_kd_sp h_t) ((hP.1 c4).1 c5).1) (rest := [.int v3]) rfl rfl (q_dc (z := (48, .invokestatic 66, 3, 0, 0)) tk_X6_secondsUntilZone 28 rfl) (Nat.le_of_ble_eq_true rfl) ⟨Nat.le_of_ble_eq_true rfl, Nat.le_of_ble_eq_true rfl⟩ ⟨Nat.le_of_ble_eq_true rfl, Nat.le_of_ble_eq_true rfl⟩ ?_
        refine q_nrm 51 [.int (F_X8_at (t + 1) (τ t 6) τ), .int v3] 0 0 rfl rfl rfl rfl ?_
        refine q_go C tk_X6_secondsUntilZone [(29, 4)] [] (pc1 := 58) (σ1 := τ) (lv1 := [(0, .ref t), (1, .int q), (2, .int v2), (3, .int v3), (4, .int v4)]) (st1 := [.int ((τ t 7) + v4), .int (F_X8_at (t + 1) (τ t 6) τ), .int v3]) rfl ⟨h_t, trivial⟩ ?_
        refine q_callN C hfl mw_X8_pace ms_X8_pace nl_X6_88 (k_X8_pace (F_X8_at (t + 1) (τ t 6) τ) ((τ t 7) + v4) τ) (rest := [.int v3]) rfl rfl (q_dc (z := (58, .invokestatic 88, 3, 0, 0)) tk_X6_secondsUntilZone 33 rfl) (Nat.le_of_ble_eq_true rfl) ⟨Nat.le_of_ble_eq_true rfl, Nat.le_of_ble_eq_true rfl⟩ ⟨Nat.le_of_ble_eq_true rfl, Nat.le_of_ble_eq_true rfl⟩ ?_
        refine q_nrm 61 [.int (F_X8_pace (F_X8_at (t + 1) (τ t 6) τ) ((τ t 7) + v4) τ), .int v3] 0 0 rfl rfl rfl rfl ?_
        refine q_go C tk_X6_secondsUntilZone [(34, 1)] [] (pc1 := 62) (σ1 := τ) (lv1 := [(0, .ref t), (1, .int q), (2, .int v2), (3, .int v3), (4, .int v4)]) (st1 := [.int (v3 + (F_X8_pace (F_X8_at (t + 1) (τ t 6) τ) ((τ t 7) + v4) τ))]) rfl trivial ?_
        generalize e7 : (v3 + (F_X8_pace (F_X8_at (t + 1) (τ t 6) τ) ((τ t 7) + v4) τ)) = x6
        replace hF := q_let e7 hF
        refine q_go C tk_X6_secondsUntilZone [(35, 3)] [] (pc1 := 27) (σ1 := τ) (lv1 := [(4, .int (v4 + 1)), (3, .int x6), (0, .ref t), (1, .int q), (2, .int v2)]) (st1 := []) rfl trivial ?_
        refine q_lvpick [2, 3, 4, 1, 0] (lv' := [(0, .ref t), (1, .int q), (2, .int v2), (3, .int x6), (4, .int (v4 + 1))]) rfl ?_
        exact ih v2 x6 (v4 + 1) τ rr (((hP.1 c4).1 c5).2 x6 e7) hF
      · rw [if_neg c5] at hF
        refine q_go C tk_X6_secondsUntilZone [(22, 1), (38, 4)] [true] (pc1 := 76) (σ1 := τ) (lv1 := [(0, .ref t), (1, .int q), (2, .int v2), (3, .int v3), (4, .int v4)]) (st1 := [.int ((τ t 8) + v4)]) rfl ⟨c5, h_t, trivial⟩ ?_
        exact q_iret C hr (q_dc (z := (76, .ireturn, 1, 0, 0)) tk_X6_secondsUntilZone 42 rfl) rfl (congrArg q_oi hF.symm) (Nat.le_of_ble_eq_true rfl) (Nat.le_of_ble_eq_true rfl)
    · rw [if_neg c4] at hF
      refine q_go C tk_X6_secondsUntilZone [(19, 1), (38, 4)] [true] (pc1 := 76) (σ1 := τ) (lv1 := [(0, .ref t), (1, .int q), (2, .int v2), (3, .int v3), (4, .int v4)]) (st1 := [.int ((τ t 8) + v4)]) rfl ⟨c4, h_t, trivial⟩ ?_
      exact q_iret C hr (q_dc (z := (76, .ireturn, 1, 0, 0)) tk_X6_secondsUntilZone 42 rfl) rfl (congrArg q_oi hF.symm) (Nat.le_of_ble_eq_true rfl) (Nat.le_of_ble_eq_true rfl)
def F_X6_secondsUntilZone (t : Nat) (q : Int32) (σ : q_M) : Int32 := (q_L ((F_X6_legEnd t q σ) - 100) (fun x1 : Int32 => (if (σ t 5) < x1 then (FL_X6_secondsUntilZone_27 t q 2010 x1 (σ t 5) 0 σ) else 0)))
def P_X6_secondsUntilZone (t : Nat) (q : Int32) (σ : q_M) : Prop := (∀ x1 : Int32, ((F_X6_legEnd t q σ) - 100) = x1 → (((σ t 5) < x1 → (PL_X6_secondsUntilZone_27 t q 2010 x1 (σ t 5) 0 σ)) ∧ (¬ (σ t 5) < x1 → True)))
set_option maxRecDepth 100000 in
theorem k_X6_secondsUntilZone {α β : Nat → Nat} {D : va_G} {κ : Nat → ClassId} (t : Nat) (q : Int32) (σ : q_M) (h_t : q_kd t = 7) (hP : P_X6_secondsUntilZone t q σ) : q_C α β D κ yX6_secondsUntilZone cX6_secondsUntilZone 5 (Option.some Jvm.ClassFile.FieldType.int) 5 81 0 0 [.ref t, .int q] σ (q_oi (F_X6_secondsUntilZone t q σ)) σ := by
  refine q_enter (own := RX6) (F := F_X6) (G := G_X6) (by decide +kernel) rfl Fok_X6 Gok_X6 (Nat.le_of_ble_eq_true rfl) (fun p l e s m args below meth c A hfl C hr hT => ?_)
  generalize hF : F_X6_secondsUntilZone t q σ = rr
  unfold F_X6_secondsUntilZone at hF
  refine q_go C tk_X6_secondsUntilZone [(0, 2)] [] (pc1 := 2) (σ1 := σ) (lv1 := [(0, .ref t), (1, .int q)]) (st1 := [.int q, .ref t]) rfl trivial ?_
  refine q_callV C hfl mw_X6_legEnd mi_X6_legEnd me_X6_legEnd lk_X6_74 (k_X6_legEnd t q σ h_t) (rest := []) rfl h_t rfl (by decide) (by decide) rfl (q_dc (z := (2, .invokevirtual 74, 3, 0, 0)) tk_X6_secondsUntilZone 2 rfl) (Nat.le_of_ble_eq_true rfl) ⟨Nat.le_of_ble_eq_true rfl, Nat.le_of_ble_eq_true rfl⟩ ⟨Nat.le_of_ble_eq_true rfl, Nat.le_of_ble_eq_true rfl⟩ ?_
  refine q_nrm 5 [.int (F_X6_legEnd t q σ)] 0 0 rfl rfl rfl rfl ?_
  refine q_go C tk_X6_secondsUntilZone [(3, 2)] [] (pc1 := 8) (σ1 := σ) (lv1 := [(0, .ref t), (1, .int q)]) (st1 := [.int ((F_X6_legEnd t q σ) - 100)]) rfl trivial ?_
  generalize e2 : ((F_X6_legEnd t q σ) - 100) = x1
  replace hF := q_let e2 hF
  refine q_go C tk_X6_secondsUntilZone [(5, 4)] [] (pc1 := 14) (σ1 := σ) (lv1 := [(2, .int x1), (0, .ref t), (1, .int q)]) (st1 := [.int x1, .int (σ t 5)]) rfl ⟨h_t, trivial⟩ ?_
  by_cases c3 : (σ t 5) < x1
  · rw [if_pos c3] at hF
    refine q_go C tk_X6_secondsUntilZone [(9, 1), (12, 5)] [true] (pc1 := 27) (σ1 := σ) (lv1 := [(4, .int 0), (3, .int (σ t 5)), (2, .int x1), (0, .ref t), (1, .int q)]) (st1 := []) rfl ⟨c3, h_t, trivial⟩ ?_
    refine q_lvpick [3, 4, 2, 1, 0] (lv' := [(0, .ref t), (1, .int q), (2, .int x1), (3, .int (σ t 5)), (4, .int 0)]) rfl ?_
    exact kl_X6_secondsUntilZone_27 t q h_t hfl C hr hT 2010 x1 (σ t 5) 0 σ rr ((hP x1 e2).1 c3) hF
  · rw [if_neg c3] at hF
    refine q_go C tk_X6_secondsUntilZone [(9, 2)] [false] (pc1 := 18) (σ1 := σ) (lv1 := [(2, .int x1), (0, .ref t), (1, .int q)]) (st1 := [.int 0]) rfl ⟨c3, trivial⟩ ?_
    exact q_iret C hr (q_dc (z := (18, .ireturn, 1, 0, 0)) tk_X6_secondsUntilZone 11 rfl) rfl (congrArg q_oi hF.symm) (Nat.le_of_ble_eq_true rfl) (Nat.le_of_ble_eq_true rfl)
def F_X6_committed (t : Nat) (k : Int32) (σ : q_M) : Int32 := (if k = 0 then (σ t 12) else (σ t 13))
def P_X6_committed (t : Nat) (k : Int32) (σ : q_M) : Prop := ((k = 0 → (((σ t 12) = 0 ∨ (σ t 12) = 1) ∧ True)) ∧ (¬ k = 0 → (((σ t 13) = 0 ∨ (σ t 13) = 1) ∧ True)))
set_option maxRecDepth 100000 in
theorem k_X6_committed {α β : Nat → Nat} {D : va_G} {κ : Nat → ClassId} (t : Nat) (k : Int32) (σ : q_M) (h_t : q_kd t = 7) (hP : P_X6_committed t k σ) : q_C α β D κ yX6_committed cX6_committed 2 (Option.some Jvm.ClassFile.FieldType.boolean) 0 0 0 0 [.ref t, .int k] σ (q_oi (F_X6_committed t k σ)) σ := by
  refine q_enter (own := RX6) (F := F_X6) (G := G_X6) (by decide +kernel) rfl Fok_X6 Gok_X6 (Nat.le_of_ble_eq_true rfl) (fun p l e s m args below meth c A hfl C hr hT => ?_)
  generalize hF : F_X6_committed t k σ = rr
  unfold F_X6_committed at hF
  refine q_go C tk_X6_committed [(0, 1)] [] (pc1 := 1) (σ1 := σ) (lv1 := [(0, .ref t), (1, .int k)]) (st1 := [.int k]) rfl trivial ?_
  by_cases c1 : k = 0
  · rw [if_pos c1] at hF
    refine q_go C tk_X6_committed [(1, 4)] [false] (pc1 := 15) (σ1 := σ) (lv1 := [(0, .ref t), (1, .int k)]) (st1 := [.int (σ t 12)]) rfl ⟨c1, h_t, trivial⟩ ?_
    exact q_zret C hr (q_dc (z := (15, .ireturn, 1, 0, 0)) tk_X6_committed 7 rfl) (q_zb ((hP.1 c1).1)).1 rfl (congrArg q_oi hF.symm) (Nat.le_of_ble_eq_true rfl) (Nat.le_of_ble_eq_true rfl)
  · rw [if_neg c1] at hF
    refine q_go C tk_X6_committed [(1, 1), (5, 2)] [true] (pc1 := 15) (σ1 := σ) (lv1 := [(0, .ref t), (1, .int k)]) (st1 := [.int (σ t 13)]) rfl ⟨c1, h_t, trivial⟩ ?_
    exact q_zret C hr (q_dc (z := (15, .ireturn, 1, 0, 0)) tk_X6_committed 7 rfl) (q_zb ((hP.2 c1).1)).1 rfl (congrArg q_oi hF.symm) (Nat.le_of_ble_eq_true rfl) (Nat.le_of_ble_eq_true rfl)
def F_X6_removeFoul (t : Nat) (k : Int32) (σ : q_M) : q_M := (if k = 0 then (q_up σ t 12 0) else (q_up σ t 13 0))
set_option maxRecDepth 100000 in
theorem k_X6_removeFoul {α β : Nat → Nat} {D : va_G} {κ : Nat → ClassId} (t : Nat) (k : Int32) (σ : q_M) (h_t : q_kd t = 7) : q_C α β D κ yX6_removeFoul cX6_removeFoul 2 (Option.none : Option Jvm.ClassFile.FieldType) 0 0 0 0 [.ref t, .int k] σ q_ov (F_X6_removeFoul t k σ) := by
  refine q_enter (own := RX6) (F := F_X6) (G := G_X6) (by decide +kernel) rfl Fok_X6 Gok_X6 (Nat.le_of_ble_eq_true rfl) (fun p l e s m args below meth c A hfl C hr hT => ?_)
  generalize hF : F_X6_removeFoul t k σ = rr
  unfold F_X6_removeFoul at hF
  refine q_go C tk_X6_removeFoul [(0, 1)] [] (pc1 := 1) (σ1 := σ) (lv1 := [(0, .ref t), (1, .int k)]) (st1 := [.int k]) rfl trivial ?_
  by_cases c1 : k = 0
  · rw [if_pos c1] at hF
    refine q_go C tk_X6_removeFoul [(1, 5)] [false] (pc1 := 17) (σ1 := (q_up σ t 12 0)) (lv1 := [(0, .ref t), (1, .int k)]) (st1 := []) rfl ⟨c1, h_t, (by decide), trivial⟩ ?_
    exact q_vret C hr (q_dc (z := (17, .return_, 1, 0, 0)) tk_X6_removeFoul 9 rfl) hF rfl (Nat.le_of_ble_eq_true rfl) (Nat.le_of_ble_eq_true rfl)
  · rw [if_neg c1] at hF
    refine q_go C tk_X6_removeFoul [(1, 1), (6, 3)] [true] (pc1 := 17) (σ1 := (q_up σ t 13 0)) (lv1 := [(0, .ref t), (1, .int k)]) (st1 := []) rfl ⟨c1, h_t, (by decide), trivial⟩ ?_
    exact q_vret C hr (q_dc (z := (17, .return_, 1, 0, 0)) tk_X6_removeFoul 9 rfl) hF rfl (Nat.le_of_ble_eq_true rfl) (Nat.le_of_ble_eq_true rfl)
def F_X6_result (t : Nat) (σ : q_M) : Int32 := ((σ t 11) + (σ t 9))
set_option maxRecDepth 100000 in
theorem k_X6_result {α β : Nat → Nat} {D : va_G} {κ : Nat → ClassId} (t : Nat) (σ : q_M) (h_t : q_kd t = 7) : q_C α β D κ yX6_result cX6_result 1 (Option.some Jvm.ClassFile.FieldType.int) 0 0 0 0 [.ref t] σ (q_oi (F_X6_result t σ)) σ := by
  refine q_enter (own := RX6) (F := F_X6) (G := G_X6) (by decide +kernel) rfl Fok_X6 Gok_X6 (Nat.le_of_ble_eq_true rfl) (fun p l e s m args below meth c A hfl C hr hT => ?_)
  generalize hF : F_X6_result t σ = rr
  unfold F_X6_result at hF
  refine q_go C tk_X6_result [(0, 5)] [] (pc1 := 9) (σ1 := σ) (lv1 := [(0, .ref t)]) (st1 := [.int ((σ t 11) + (σ t 9))]) rfl ⟨h_t, h_t, trivial⟩ ?_
  exact q_iret C hr (q_dc (z := (9, .ireturn, 1, 0, 0)) tk_X6_result 5 rfl) rfl (congrArg q_oi hF.symm) (Nat.le_of_ble_eq_true rfl) (Nat.le_of_ble_eq_true rfl)
def F_X6_isAheadOf (t : Nat) (u : Nat) (σ : q_M) : Int32 := (if (q_rg (σ t 3)) = (q_rg (σ u 3)) then (q_L (if (σ t 3) = 3 then ((F_X6_result u σ) - (F_X6_result t σ)) else ((σ t 5) - (σ u 5))) (fun x3 : Int32 => (if x3 = 0 then (if (σ t 4) < (σ u 4) then 1 else 0) else (if 0 < x3 then 1 else 0)))) else (if (q_rg (σ t 3)) < (q_rg (σ u 3)) then 1 else 0))
def P_X6_isAheadOf (t : Nat) (u : Nat) (σ : q_M) : Prop := (q_okS (σ t 3) ∧ (q_okS (σ u 3) ∧ (((q_rg (σ t 3)) = (q_rg (σ u 3)) → True) ∧ (¬ (q_rg (σ t 3)) = (q_rg (σ u 3)) → (q_okS (σ t 3) ∧ (q_okS (σ u 3) ∧ True))))))
set_option maxRecDepth 100000 in
theorem k_X6_isAheadOf {α β : Nat → Nat} {D : va_G} {κ : Nat → ClassId} (t : Nat) (u : Nat) (σ : q_M) (h_t : q_kd t = 7) (h_u : q_kd u = 7) (hP : P_X6_isAheadOf t u σ) : q_C α β D κ yX6_isAheadOf cX6_isAheadOf 3 (Option.some Jvm.ClassFile.FieldType.boolean) 1 20 0 0 [.ref t, .ref u] σ (q_oi (F_X6_isAheadOf t u σ)) σ := by
  refine q_enter (own := RX6) (F := F_X6) (G := G_X6) (by decide +kernel) rfl Fok_X6 Gok_X6 (Nat.le_of_ble_eq_true rfl) (fun p l e s m args below meth c A hfl C hr hT => ?_)
  generalize hF : F_X6_isAheadOf t u σ = rr
  unfold F_X6_isAheadOf at hF
  refine q_go C tk_X6_isAheadOf [(0, 2)] [] (pc1 := 4) (σ1 := σ) (lv1 := [(0, .ref t), (1, .ref u)]) (st1 := [q_e (σ t 3)]) rfl ⟨h_t, trivial⟩ ?_
  refine q_getR C rk_X6_98 (q_dc (z := (4, .getfield 98, 3, 0, 0)) tk_X6_isAheadOf 2 rfl) hP.1 ?_
  refine q_go C tk_X6_isAheadOf [(3, 2)] [] (pc1 := 11) (σ1 := σ) (lv1 := [(0, .ref t), (1, .ref u)]) (st1 := [q_e (σ u 3), .int (q_rg (σ t 3))]) rfl ⟨h_u, trivial⟩ ?_
  refine q_getR C rk_X6_98 (q_dc (z := (11, .getfield 98, 3, 0, 0)) tk_X6_isAheadOf 5 rfl) hP.2.1 ?_
  by_cases c1 : (q_rg (σ t 3)) = (q_rg (σ u 3))
  · rw [if_pos c1] at hF
    refine q_go C tk_X6_isAheadOf [(6, 1), (18, 3)] [true] (pc1 := 47) (σ1 := σ) (lv1 := [(0, .ref t), (1, .ref u)]) (st1 := [q_e 3, q_e (σ t 3)]) rfl ⟨c1, h_t, trivial⟩ ?_
    refine q_mrg (v := (if (σ t 3) = 3 then ((F_X6_result u σ) - (F_X6_result t σ)) else ((σ t 5) - (σ u 5)))) (M := 71) (σ1 := σ) (lv1 := [(0, .ref t), (1, .ref u)]) (st1 := []) (fun x3 e4 => ?_) (fun K => ?_)
    · replace hF := q_let e4 hF
      refine q_go C tk_X6_isAheadOf [(33, 2)] [] (pc1 := 73) (σ1 := σ) (lv1 := [(2, .int x3), (0, .ref t), (1, .ref u)]) (st1 := [.int x3]) rfl trivial ?_
      by_cases c5 : x3 = 0
      · rw [if_pos c5] at hF
        refine q_go C tk_X6_isAheadOf [(35, 1), (42, 4)] [true] (pc1 := 96) (σ1 := σ) (lv1 := [(2, .int x3), (0, .ref t), (1, .ref u)]) (st1 := [.int (σ u 4), .int (σ t 4)]) rfl ⟨c5, h_t, h_u, trivial⟩ ?_
        by_cases c6 : (σ t 4) < (σ u 4)
        · rw [if_pos c6] at hF
          refine q_go C tk_X6_isAheadOf [(46, 3)] [false] (pc1 := 104) (σ1 := σ) (lv1 := [(2, .int x3), (0, .ref t), (1, .ref u)]) (st1 := [.int 1]) rfl ⟨c6, trivial⟩ ?_
          exact q_zret C hr (q_dc (z := (104, .ireturn, 1, 0, 0)) tk_X6_isAheadOf 50 rfl) (by decide +kernel) rfl (congrArg q_oi hF.symm) (Nat.le_of_ble_eq_true rfl) (Nat.le_of_ble_eq_true rfl)
        · rw [if_neg c6] at hF
          refine q_go C tk_X6_isAheadOf [(46, 1), (49, 1)] [true] (pc1 := 104) (σ1 := σ) (lv1 := [(2, .int x3), (0, .ref t), (1, .ref u)]) (st1 := [.int 0]) rfl ⟨c6, trivial⟩ ?_
          exact q_zret C hr (q_dc (z := (104, .ireturn, 1, 0, 0)) tk_X6_isAheadOf 50 rfl) (by decide +kernel) rfl (congrArg q_oi hF.symm) (Nat.le_of_ble_eq_true rfl) (Nat.le_of_ble_eq_true rfl)
      · rw [if_neg c5] at hF
        refine q_go C tk_X6_isAheadOf [(35, 2)] [false] (pc1 := 77) (σ1 := σ) (lv1 := [(2, .int x3), (0, .ref t), (1, .ref u)]) (st1 := [.int x3]) rfl ⟨c5, trivial⟩ ?_
        by_cases c7 : 0 < x3
        · rw [if_pos c7] at hF
          refine q_go C tk_X6_isAheadOf [(37, 3)] [false] (pc1 := 104) (σ1 := σ) (lv1 := [(2, .int x3), (0, .ref t), (1, .ref u)]) (st1 := [.int 1]) rfl ⟨c7, trivial⟩ ?_
          exact q_zret C hr (q_dc (z := (104, .ireturn, 1, 0, 0)) tk_X6_isAheadOf 50 rfl) (by decide +kernel) rfl (congrArg q_oi hF.symm) (Nat.le_of_ble_eq_true rfl) (Nat.le_of_ble_eq_true rfl)
        · rw [if_neg c7] at hF
          refine q_go C tk_X6_isAheadOf [(37, 1), (40, 2)] [true] (pc1 := 104) (σ1 := σ) (lv1 := [(2, .int x3), (0, .ref t), (1, .ref u)]) (st1 := [.int 0]) rfl ⟨c7, trivial⟩ ?_
          exact q_zret C hr (q_dc (z := (104, .ireturn, 1, 0, 0)) tk_X6_isAheadOf 50 rfl) (by decide +kernel) rfl (congrArg q_oi hF.symm) (Nat.le_of_ble_eq_true rfl) (Nat.le_of_ble_eq_true rfl)
    · clear hF
      by_cases c2 : (σ t 3) = 3
      · skip
        refine q_go C tk_X6_isAheadOf [(21, 2)] [false] (pc1 := 51) (σ1 := σ) (lv1 := [(0, .ref t), (1, .ref u)]) (st1 := [.ref u]) rfl ⟨(congrArg Int32.toUInt32 c2), trivial⟩ ?_
        refine q_callV C hfl mw_X6_result mi_X6_result me_X6_result lk_X6_101 (k_X6_result u σ h_u) (rest := []) rfl h_u rfl (by decide) (by decide) rfl (q_dc (z := (51, .invokevirtual 101, 3, 0, 0)) tk_X6_isAheadOf 23 rfl) (Nat.le_of_ble_eq_true rfl) ⟨Nat.le_of_ble_eq_true rfl, Nat.le_of_ble_eq_true rfl⟩ ⟨Nat.le_of_ble_eq_true rfl, Nat.le_of_ble_eq_true rfl⟩ ?_
        refine q_nrm 54 [.int (F_X6_result u σ)] 0 0 rfl rfl rfl rfl ?_
        refine q_go C tk_X6_isAheadOf [(24, 1)] [] (pc1 := 55) (σ1 := σ) (lv1 := [(0, .ref t), (1, .ref u)]) (st1 := [.ref t, .int (F_X6_result u σ)]) rfl trivial ?_
        refine q_callV C hfl mw_X6_result mi_X6_result me_X6_result lk_X6_101 (k_X6_result t σ h_t) (rest := [.int (F_X6_result u σ)]) rfl h_t rfl (by decide) (by decide) rfl (q_dc (z := (55, .invokevirtual 101, 3, 0, 0)) tk_X6_isAheadOf 25 rfl) (Nat.le_of_ble_eq_true rfl) ⟨Nat.le_of_ble_eq_true rfl, Nat.le_of_ble_eq_true rfl⟩ ⟨Nat.le_of_ble_eq_true rfl, Nat.le_of_ble_eq_true rfl⟩ ?_
        refine q_nrm 58 [.int (F_X6_result t σ), .int (F_X6_result u σ)] 0 0 rfl rfl rfl rfl ?_
        refine q_go C tk_X6_isAheadOf [(26, 2)] [] (pc1 := 71) (σ1 := σ) (lv1 := [(0, .ref t), (1, .ref u)]) (st1 := [.int ((F_X6_result u σ) - (F_X6_result t σ))]) rfl trivial ?_
        rw [if_pos c2] at K; exact K
      · skip
        refine q_go C tk_X6_isAheadOf [(21, 1), (28, 5)] [true] (pc1 := 71) (σ1 := σ) (lv1 := [(0, .ref t), (1, .ref u)]) (st1 := [.int ((σ t 5) - (σ u 5))]) rfl ⟨(fun q => c2 (q_u32 q)), h_t, h_u, trivial⟩ ?_
        rw [if_neg c2] at K; exact K
  · rw [if_neg c1] at hF
    refine q_go C tk_X6_isAheadOf [(6, 3)] [false] (pc1 := 21) (σ1 := σ) (lv1 := [(0, .ref t), (1, .ref u)]) (st1 := [q_e (σ t 3)]) rfl ⟨c1, h_t, trivial⟩ ?_
    refine q_getR C rk_X6_98 (q_dc (z := (21, .getfield 98, 3, 0, 0)) tk_X6_isAheadOf 9 rfl) (hP.2.2.2 c1).1 ?_
    refine q_go C tk_X6_isAheadOf [(10, 2)] [] (pc1 := 28) (σ1 := σ) (lv1 := [(0, .ref t), (1, .ref u)]) (st1 := [q_e (σ u 3), .int (q_rg (σ t 3))]) rfl ⟨h_u, trivial⟩ ?_
    refine q_getR C rk_X6_98 (q_dc (z := (28, .getfield 98, 3, 0, 0)) tk_X6_isAheadOf 12 rfl) (hP.2.2.2 c1).2.1 ?_
    by_cases c8 : (q_rg (σ t 3)) < (q_rg (σ u 3))
    · rw [if_pos c8] at hF
      refine q_go C tk_X6_isAheadOf [(13, 3)] [false] (pc1 := 39) (σ1 := σ) (lv1 := [(0, .ref t), (1, .ref u)]) (st1 := [.int 1]) rfl ⟨c8, trivial⟩ ?_
      exact q_zret C hr (q_dc (z := (39, .ireturn, 1, 0, 0)) tk_X6_isAheadOf 17 rfl) (by decide +kernel) rfl (congrArg q_oi hF.symm) (Nat.le_of_ble_eq_true rfl) (Nat.le_of_ble_eq_true rfl)
    · rw [if_neg c8] at hF
      refine q_go C tk_X6_isAheadOf [(13, 1), (16, 1)] [true] (pc1 := 39) (σ1 := σ) (lv1 := [(0, .ref t), (1, .ref u)]) (st1 := [.int 0]) rfl ⟨c8, trivial⟩ ?_
      exact q_zret C hr (q_dc (z := (39, .ireturn, 1, 0, 0)) tk_X6_isAheadOf 17 rfl) (by decide +kernel) rfl (congrArg q_oi hF.symm) (Nat.le_of_ble_eq_true rfl) (Nat.le_of_ble_eq_true rfl)
