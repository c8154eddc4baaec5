/-! The class: 25.prog. -/
def F_X3_rewind (σ : q_M) : q_M := (q_up σ 223 3 0)
set_option maxRecDepth 100000 in
theorem k_X3_rewind {α β : Nat → Nat} {D : va_G} {κ : Nat → ClassId} (σ : q_M) : q_C α β D κ yX3_rewind cX3_rewind 1 (Option.none : Option Jvm.ClassFile.FieldType) 0 0 0 0 [.ref 223] σ q_ov (F_X3_rewind σ) := by
  refine q_enter (own := RX3) (F := F_X3) (G := G_X3) (by decide +kernel) rfl Fok_X3 Gok_X3 (Nat.le_of_ble_eq_true rfl) (fun p l e s m args below meth c A hfl C hr hT => ?_)
  generalize hF : F_X3_rewind σ = rr
  unfold F_X3_rewind at hF
  refine q_go C tk_X3_rewind [(0, 3)] [] (pc1 := 5) (σ1 := (q_up σ 223 3 0)) (lv1 := [(0, .ref 223)]) (st1 := []) rfl ⟨rfl, trivial⟩ ?_
  exact q_vret C hr (q_dc (z := (5, .return_, 1, 0, 0)) tk_X3_rewind 3 rfl) hF rfl (Nat.le_of_ble_eq_true rfl) (Nat.le_of_ble_eq_true rfl)
def F_X3_isDigit (ch : Int32) (σ : q_M) : Int32 := (if ch < 48 then 0 else (if 57 < ch then 0 else 1))
set_option maxRecDepth 100000 in
theorem k_X3_isDigit {α β : Nat → Nat} {D : va_G} {κ : Nat → ClassId} (ch : Int32) (σ : q_M) : q_C α β D κ yX3_isDigit cX3_isDigit 1 (Option.some Jvm.ClassFile.FieldType.boolean) 0 0 0 0 [.int ch] σ (q_oi (F_X3_isDigit ch σ)) σ := by
  refine q_enter (own := RX3) (F := F_X3) (G := G_X3) (by decide +kernel) rfl Fok_X3 Gok_X3 (Nat.le_of_ble_eq_true rfl) (fun p l e s m args below meth c A hfl C hr hT => ?_)
  generalize hF : F_X3_isDigit ch σ = rr
  unfold F_X3_isDigit at hF
  refine q_go C tk_X3_isDigit [(0, 2)] [] (pc1 := 3) (σ1 := σ) (lv1 := [(0, .int ch)]) (st1 := [.int 48, .int ch]) rfl trivial ?_
  by_cases c1 : ch < 48
  · rw [if_pos c1] at hF
    refine q_go C tk_X3_isDigit [(2, 1), (8, 1)] [true] (pc1 := 17) (σ1 := σ) (lv1 := [(0, .int ch)]) (st1 := [.int 0]) rfl ⟨c1, trivial⟩ ?_
    exact q_zret C hr (q_dc (z := (17, .ireturn, 1, 0, 0)) tk_X3_isDigit 9 rfl) (by decide +kernel) rfl (congrArg q_oi hF.symm) (Nat.le_of_ble_eq_true rfl) (Nat.le_of_ble_eq_true rfl)
  · rw [if_neg c1] at hF
    refine q_go C tk_X3_isDigit [(2, 3)] [false] (pc1 := 9) (σ1 := σ) (lv1 := [(0, .int ch)]) (st1 := [.int 57, .int ch]) rfl ⟨c1, trivial⟩ ?_
    by_cases c2 : 57 < ch
    · rw [if_pos c2] at hF
      refine q_go C tk_X3_isDigit [(5, 1), (8, 1)] [true] (pc1 := 17) (σ1 := σ) (lv1 := [(0, .int ch)]) (st1 := [.int 0]) rfl ⟨c2, trivial⟩ ?_
      exact q_zret C hr (q_dc (z := (17, .ireturn, 1, 0, 0)) tk_X3_isDigit 9 rfl) (by decide +kernel) rfl (congrArg q_oi hF.symm) (Nat.le_of_ble_eq_true rfl) (Nat.le_of_ble_eq_true rfl)
    · rw [if_neg c2] at hF
      refine q_go C tk_X3_isDigit [(5, 3)] [false] (pc1 := 17) (σ1 := σ) (lv1 := [(0, .int ch)]) (st1 := [.int 1]) rfl ⟨c2, trivial⟩ ?_
      exact q_zret C hr (q_dc (z := (17, .ireturn, 1, 0, 0)) tk_X3_isDigit 9 rfl) (by decide +kernel) rfl (congrArg q_oi hF.symm) (Nat.le_of_ble_eq_true rfl) (Nat.le_of_ble_eq_true rfl)
theorem z_X3_isDigit {ch : Int32} {σ : q_M} : (F_X3_isDigit ch σ) = 0 ∨ (F_X3_isDigit ch σ) = 1 := by
  unfold F_X3_isDigit
  try simp only [q_L]
  repeat' split
  all_goals first | exact Or.inl rfl | exact Or.inr rfl | exact rfl
def F_X3_addArgument (v : Int32) (σ : q_M) : q_M := (if (σ 223 2) < 0 then σ else (if (σ 223 2) < (nI (q_len 224)) then (q_L (q_up (q_up σ 224 ((σ 223 2)).toNatClampNeg v) 223 2 (((q_up σ 224 ((σ 223 2)).toNatClampNeg v) 223 2) + 1)) (fun σ3 : q_M => σ3)) else σ))
def P_X3_addArgument (v : Int32) (σ : q_M) : Prop := (((σ 223 2) < 0 → True) ∧ (¬ (σ 223 2) < 0 → (((σ 223 2) < (nI (q_len 224)) → (vp_in (σ 223 2) (q_len 224) ∧ True)) ∧ (¬ (σ 223 2) < (nI (q_len 224)) → True))))
set_option maxRecDepth 100000 in
theorem k_X3_addArgument {α β : Nat → Nat} {D : va_G} {κ : Nat → ClassId} (v : Int32) (σ : q_M) (hP : P_X3_addArgument v σ) : q_C α β D κ yX3_addArgument cX3_addArgument 2 (Option.none : Option Jvm.ClassFile.FieldType) 0 0 0 0 [.ref 223, .int v] σ q_ov (F_X3_addArgument v σ) := by
  refine q_enter (own := RX3) (F := F_X3) (G := G_X3) (by decide +kernel) rfl Fok_X3 Gok_X3 (Nat.le_of_ble_eq_true rfl) (fun p l e s m args below meth c A hfl C hr hT => ?_)
  generalize hF : F_X3_addArgument v σ = rr
  unfold F_X3_addArgument at hF
  refine q_go C tk_X3_addArgument [(0, 2)] [] (pc1 := 4) (σ1 := σ) (lv1 := [(0, .ref 223), (1, .int v)]) (st1 := [.int (σ 223 2)]) rfl ⟨rfl, trivial⟩ ?_
  by_cases c1 : (σ 223 2) < 0
  · rw [if_pos c1] at hF
    refine q_go C tk_X3_addArgument [(2, 1)] [true] (pc1 := 39) (σ1 := σ) (lv1 := [(0, .ref 223), (1, .int v)]) (st1 := []) rfl ⟨c1, trivial⟩ ?_
    exact q_vret C hr (q_dc (z := (39, .return_, 1, 0, 0)) tk_X3_addArgument 21 rfl) hF rfl (Nat.le_of_ble_eq_true rfl) (Nat.le_of_ble_eq_true rfl)
  · rw [if_neg c1] at hF
    refine q_go C tk_X3_addArgument [(2, 6)] [false] (pc1 := 16) (σ1 := σ) (lv1 := [(0, .ref 223), (1, .int v)]) (st1 := [.int (nI (q_len 224)), .int (σ 223 2)]) rfl ⟨c1, rfl, rfl, rfl, trivial⟩ ?_
    by_cases c2 : (σ 223 2) < (nI (q_len 224))
    · rw [if_pos c2] at hF
      refine q_go C tk_X3_addArgument [(8, 13)] [false] (pc1 := 39) (σ1 := (q_up (q_up σ 224 ((σ 223 2)).toNatClampNeg v) 223 2 (((q_up σ 224 ((σ 223 2)).toNatClampNeg v) 223 2) + 1))) (lv1 := [(0, .ref 223), (1, .int v)]) (st1 := []) rfl ⟨c2, rfl, rfl, rfl, ((hP.2 c1).1 c2).1, rfl, rfl, trivial⟩ ?_
      generalize e4 : (q_up (q_up σ 224 ((σ 223 2)).toNatClampNeg v) 223 2 (((q_up σ 224 ((σ 223 2)).toNatClampNeg v) 223 2) + 1)) = σ3
      replace hF := q_let e4 hF
      exact q_vret C hr (q_dc (z := (39, .return_, 1, 0, 0)) tk_X3_addArgument 21 rfl) hF rfl (Nat.le_of_ble_eq_true rfl) (Nat.le_of_ble_eq_true rfl)
    · rw [if_neg c2] at hF
      refine q_go C tk_X3_addArgument [(8, 1)] [true] (pc1 := 39) (σ1 := σ) (lv1 := [(0, .ref 223), (1, .int v)]) (st1 := []) rfl ⟨c2, trivial⟩ ?_
      exact q_vret C hr (q_dc (z := (39, .return_, 1, 0, 0)) tk_X3_addArgument 21 rfl) hF rfl (Nat.le_of_ble_eq_true rfl) (Nat.le_of_ble_eq_true rfl)
