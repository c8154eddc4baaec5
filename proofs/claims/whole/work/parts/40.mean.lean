/-! 40.mean. -/
theorem q_nn {x y : Int32} (h : ¬ y = 0) : vf_n64 (FP.ddiv (FP.i2d x) (FP.i2d y)) := by
  have h0 : FP.Core.dIsNaN (FP.Core.i2d x) = false := by
    cases hn : FP.Core.dIsNaN (FP.Core.i2d x) with
    | false => rfl
    | true =>
      have h1 := (FP.Core.isNaN_bits _).mp hn
      have h2 := FP.Core.i2d_mag x
      omega
  have h1 : FP.Core.dIsNaN (FP.Core.ddiv (FP.Core.i2d x) (FP.Core.i2d y)) = false := FP.Core.ddiv_out h0 (FP.Core.i2d_fin y) (fun z => FP.Core.i2d_ne_zero h ((FP.Core.zero_bits2 _).mp z))
  have h2 : ¬ 9218868437227405312 < (FP.Core.ddiv (FP.Core.i2d x) (FP.Core.i2d y)).toNat % 2 ^ 63 := fun q => by
    rw [(FP.Core.isNaN_bits _).mpr q] at h1
    cases h1
  unfold vf_n64
  show FP.Core.ddiv (FP.Core.i2d x) (FP.Core.i2d y) &&& _ ≤ _
  generalize FP.Core.ddiv (FP.Core.i2d x) (FP.Core.i2d y) = r at h2 ⊢
  rw [UInt64.le_iff_toNat_le, UInt64.toNat_and]
  show r.toNat &&& (2 ^ 63 - 1) ≤ 9218868437227405312
  rw [Nat.and_two_pow_sub_one_eq_mod]
  omega
def q_od (x : UInt64) : q_O := .inl (some (.double x))
def q_oxd (r : UInt64 ⊕ String) : q_O := match r with | .inl x => .inl (some (.double x)) | .inr E => q_ox E
section q40
variable {α β : Nat → Nat} {D : va_G} {κ : Nat → ClassId} {p : Program} {l : Launch} {e : Env} {R : Room} {s : State} {m : MethodId} {args : Array Value} {below : List Frame} {meth : Method} {c : Code} {cc : ByteArray} {own : String} {F : Nat → Option (Nat × Nat)} {G : Nat → Option Int32} {nL : Nat} {A : Nat → Prop} {Q : State → Prop} {n1 n2 : Nat} {pc : Nat} {σ : q_M} {lv : q_Lv} {rest : List Value} {x y : Int32}
theorem q_dc0 (C : q_Cx α β D κ p s m args meth c cc own F G nL A) (hd : decode cc pc = .ok (.dconst 0, 1)) (kk : q_St α β D κ p l e R s m args below meth c nL A Q n1 n2 σ lv (pc + 1) (.double FP.dconst0 :: rest)) : q_St α β D κ p l e R s m args below meth c nL A Q n1 n2 σ lv pc rest :=
  fun Y H locs ls hY hP hD hS hl => lv_dconst0 C.1 C.2.1 hd (kk Y H locs ls hY hP hD hS hl)
theorem q_ddiv (C : q_Cx α β D κ p s m args meth c cc own F G nL A) (h : ¬ y = 0) (hd : decode cc pc = .ok (.ddiv, 1)) (kk : q_St α β D κ p l e R s m args below meth c nL A Q n1 n2 σ lv (pc + 1) (.double (FP.ddiv (FP.i2d x) (FP.i2d y)) :: rest)) : q_St α β D κ p l e R s m args below meth c nL A Q n1 n2 σ lv pc (.double (FP.i2d y) :: .double (FP.i2d x) :: rest) :=
  fun Y H locs ls hY hP hD hS hl => lv_ddiv C.1 C.2.1 hd (q_nn h) (kk Y H locs ls hY hP hD hS hl)
end q40
def F_X8_meanTime (σ : q_M) : UInt64 ⊕ String := (q_L (F_X4_countFinished 0 σ) (fun x1 : Int32 => (if x1 = 0 then (.inr "java/lang/ArithmeticException") else (.inl (FP.ddiv (FP.i2d (F_X4_sumOfTimes 0 σ)) (FP.i2d x1))))))
def P_X8_meanTime (σ : q_M) : Prop := ((P_X4_countFinished 0 σ) ∧ (∀ x1 : Int32, (F_X4_countFinished 0 σ) = x1 → ((x1 = 0 → True) ∧ (¬ x1 = 0 → ((P_X4_sumOfTimes 0 σ) ∧ True)))))
set_option maxRecDepth 100000 in
theorem k_X8_meanTime {α β : Nat → Nat} {D : va_G} {κ : Nat → ClassId} (σ : q_M) (hP : P_X8_meanTime σ) : q_C α β D κ yX8_meanTime cX8_meanTime 2 (Option.some Jvm.ClassFile.FieldType.double) 6 90 1 6 [.ref 220] σ (q_oxd (F_X8_meanTime σ)) σ := by
  refine q_enter (own := RX8) (F := F_X8) (G := G_X8) (by decide +kernel) rfl Fok_X8 Gok_X8 (Nat.le_of_ble_eq_true rfl) (fun p l e s m args below meth c A hfl C hr hT => ?_)
  generalize hF : F_X8_meanTime σ = rr
  unfold F_X8_meanTime at hF
  refine q_go C tk_X8_meanTime [(0, 2)] [] (pc1 := 4) (σ1 := σ) (lv1 := [(0, .ref 220)]) (st1 := [.ref 0]) rfl ⟨rfl, trivial⟩ ?_
  refine q_callV C hfl mw_X4_countFinished mi_X4_countFinished me_X4_countFinished lk_X8_243 (k_X4_countFinished 0 σ rfl hP.1) (rest := []) rfl rfl rfl (by decide) (by decide) rfl (q_dc (z := (4, .invokevirtual 243, 3, 0, 0)) tk_X8_meanTime 2 rfl) (Nat.le_of_ble_eq_true rfl) ⟨Nat.le_of_ble_eq_true rfl, Nat.le_of_ble_eq_true rfl⟩ ⟨Nat.le_of_ble_eq_true rfl, Nat.le_of_ble_eq_true rfl⟩ ?_
  refine q_nrm 7 [.int (F_X4_countFinished 0 σ)] 0 0 rfl rfl rfl rfl ?_
  generalize e2 : (F_X4_countFinished 0 σ) = x1
  replace hF := q_let e2 hF
  refine q_go C tk_X8_meanTime [(3, 2)] [] (pc1 := 9) (σ1 := σ) (lv1 := [(1, .int x1), (0, .ref 220)]) (st1 := [.int x1]) rfl trivial ?_
  by_cases c3 : x1 = 0
  · rw [if_pos c3] at hF
    refine q_go C tk_X8_meanTime [(5, 1)] [false] (pc1 := 12) (σ1 := σ) (lv1 := [(1, .int x1), (0, .ref 220)]) (st1 := []) rfl ⟨c3, trivial⟩ ?_
    exact q_throw C hT hfl xk_ArithmeticException (is := 248) (List.mem_of_getElem? (l := q_msg) (i := 11) rfl) (q_dc (z := (12, .new 246, 3, 0, 0)) tk_X8_meanTime 6 rfl) (q_dc (z := (15, .dup, 1, 0, 0)) tk_X8_meanTime 7 rfl) (q_dc (z := (16, .ldc 248, 2, 0, 0)) tk_X8_meanTime 8 rfl) (q_dc (z := (18, .invokespecial 250, 3, 0, 0)) tk_X8_meanTime 9 rfl) (q_dc (z := (21, .athrow, 1, 0, 0)) tk_X8_meanTime 10 rfl) (Nat.le_of_ble_eq_true rfl) (Nat.le_of_ble_eq_true rfl) (Nat.le_of_ble_eq_true rfl) (Nat.le_of_ble_eq_true rfl) (Nat.le_of_ble_eq_true rfl) rfl (congrArg q_oxd hF.symm) (Nat.le_of_ble_eq_true rfl) (Nat.le_of_ble_eq_true rfl)
  · rw [if_neg c3] at hF
    refine q_go C tk_X8_meanTime [(5, 1), (11, 2)] [true] (pc1 := 26) (σ1 := σ) (lv1 := [(1, .int x1), (0, .ref 220)]) (st1 := [.ref 0]) rfl ⟨c3, rfl, trivial⟩ ?_
    refine q_callV C hfl mw_X4_sumOfTimes mi_X4_sumOfTimes me_X4_sumOfTimes lk_X8_251 (k_X4_sumOfTimes 0 σ rfl ((hP.2 x1 e2).2 c3).1) (rest := []) rfl rfl rfl (by decide) (by decide) rfl (q_dc (z := (26, .invokevirtual 251, 3, 0, 0)) tk_X8_meanTime 13 rfl) (Nat.le_of_ble_eq_true rfl) ⟨Nat.le_of_ble_eq_true rfl, Nat.le_of_ble_eq_true rfl⟩ ⟨Nat.le_of_ble_eq_true rfl, Nat.le_of_ble_eq_true rfl⟩ ?_
    refine q_nrm 29 [.int (F_X4_sumOfTimes 0 σ)] 0 0 rfl rfl rfl rfl ?_
    refine q_go C tk_X8_meanTime [(14, 3)] [] (pc1 := 32) (σ1 := σ) (lv1 := [(1, .int x1), (0, .ref 220)]) (st1 := [.double (FP.i2d x1), .double (FP.i2d (F_X4_sumOfTimes 0 σ))]) rfl trivial ?_
    refine q_ddiv C c3 (q_dc (z := (32, .ddiv, 1, 0, 0)) tk_X8_meanTime 17 rfl) ?_
    refine q_nrm 33 [.double (FP.ddiv (FP.i2d (F_X4_sumOfTimes 0 σ)) (FP.i2d x1))] 0 0 rfl rfl rfl rfl ?_
    exact q_dret C hr (q_dc (z := (33, .dreturn, 1, 0, 0)) tk_X8_meanTime 18 rfl) rfl (congrArg q_oxd hF.symm) (Nat.le_of_ble_eq_true rfl) (Nat.le_of_ble_eq_true rfl)
def FL_X9_meanTime_10  : Nat → Int32 → Int32 → Int32 → q_M → (UInt64) × q_M
  | 0, v1, v2, v3, τ => (0, τ)
  | nn + 1, v1, v2, v3, τ => (if v3 < (τ 230 3) then (q_L (if (F_X9_of v3 6 τ) = 2 then (F_X9_of v3 18 τ) else 0) (fun x5 : Int32 => (FL_X9_meanTime_10  nn v1 (v2 + x5) (v3 + 1) τ))) else (if v1 = 0 then (FP.dconst0, (q_up τ 229 5 1)) else ((FP.ddiv (FP.i2d v2) (FP.i2d v1)), (q_up τ 229 5 0))))
def PL_X9_meanTime_10  : Nat → Int32 → Int32 → Int32 → q_M → Prop
  | 0, v1, v2, v3, τ => False
  | nn + 1, v1, v2, v3, τ => ((v3 < (τ 230 3) → ((P_X9_of v3 6 τ) ∧ ((((F_X9_of v3 6 τ) = 2 → ((P_X9_of v3 18 τ) ∧ True)) ∧ (¬ (F_X9_of v3 6 τ) = 2 → True)) ∧ (∀ x5 : Int32, (if (F_X9_of v3 6 τ) = 2 then (F_X9_of v3 18 τ) else 0) = x5 → (PL_X9_meanTime_10  nn v1 (v2 + x5) (v3 + 1) τ))))) ∧ (¬ v3 < (τ 230 3) → True))
set_option maxRecDepth 100000 in
theorem kl_X9_meanTime_10 {α β : Nat → Nat} {D : va_G} {κ : Nat → ClassId}  {p : Program} {l : Launch} {e : Env} {s : State} {m : MethodId} {args : Array Value} {below : List Frame} {meth : Method} {c : Code} {A : Nat → Prop} (hfl : l.flags = flags0) (C : q_Cx α β D κ p s m args meth c cX9_meanTime RX9 F_X9 G_X9 4 A) (hr : meth.sig.returnType = (Option.some Jvm.ClassFile.FieldType.double)) (hT : ∀ x ∈ c.exceptionTable.toList, False) : ∀ (nn : Nat) (v1 : Int32) (v2 : Int32) (v3 : Int32) (τ : q_M) (rr : (UInt64) × q_M), PL_X9_meanTime_10  nn v1 v2 v3 τ → FL_X9_meanTime_10  nn v1 v2 v3 τ = rr → q_St α β D κ p l e ({ frames := 2, cells := 0, slots := 0, locals := 45 } : Room) s m args below meth c 4 A (vx_MQ below (q_Qc α β D κ A (q_od rr.1) rr.2) (q_XC α β D κ A (q_od rr.1) rr.2) args s 0 0 A) 0 0 τ [(0, .ref 229), (1, .int v1), (2, .int v2), (3, .int v3)] 10 [] := by
  intro nn
  induction nn with
  | zero => intro v1 v2 v3 τ rr hP; exact hP.elim
  | succ nn ih =>
    intro v1 v2 v3 τ rr hP hF
    unfold FL_X9_meanTime_10 at hF
    refine q_go C tk_X9_meanTime [(8, 5)] [] (pc1 := 17) (σ1 := τ) (lv1 := [(0, .ref 229), (1, .int v1), (2, .int v2), (3, .int v3)]) (st1 := [.int (τ 230 3), .int v3]) rfl ⟨rfl, rfl, (by unfold vp_in; decide +kernel), trivial⟩ ?_
    by_cases c3 : v3 < (τ 230 3)
    · rw [if_pos c3] at hF
      refine q_go C tk_X9_meanTime [(13, 5)] [false] (pc1 := 25) (σ1 := τ) (lv1 := [(0, .ref 229), (1, .int v1), (2, .int v2), (3, .int v3)]) (st1 := [.int 6, .int v3, .ref 229, .int v2]) rfl ⟨c3, trivial⟩ ?_
      refine q_callV C hfl mw_X9_of mi_X9_of me_X9_of lk_X9_52 (k_X9_of v3 6 τ (hP.1 c3).1) (rest := [.int v2]) rfl rfl rfl (by decide) (by decide) rfl (q_dc (z := (25, .invokevirtual 52, 3, 0, 0)) tk_X9_meanTime 18 rfl) (Nat.le_of_ble_eq_true rfl) ⟨Nat.le_of_ble_eq_true rfl, Nat.le_of_ble_eq_true rfl⟩ ⟨Nat.le_of_ble_eq_true rfl, Nat.le_of_ble_eq_true rfl⟩ ?_
      refine q_nrm 28 [.int (F_X9_of v3 6 τ), .int v2] 0 0 rfl rfl rfl rfl ?_
      refine q_go C tk_X9_meanTime [(19, 1)] [] (pc1 := 29) (σ1 := τ) (lv1 := [(0, .ref 229), (1, .int v1), (2, .int v2), (3, .int v3)]) (st1 := [.int 2, .int (F_X9_of v3 6 τ), .int v2]) rfl trivial ?_
      refine q_mrg (v := (if (F_X9_of v3 6 τ) = 2 then (F_X9_of v3 18 τ) else 0)) (M := 43) (σ1 := τ) (lv1 := [(0, .ref 229), (1, .int v1), (2, .int v2), (3, .int v3)]) (st1 := [.int v2]) (fun x5 e6 => ?_) (fun K => ?_)
      · replace hF := q_let e6 hF
        refine q_go C tk_X9_meanTime [(27, 4)] [] (pc1 := 10) (σ1 := τ) (lv1 := [(3, .int (v3 + 1)), (2, .int (v2 + x5)), (0, .ref 229), (1, .int v1)]) (st1 := []) rfl trivial ?_
        refine q_lvpick [2, 3, 1, 0] (lv' := [(0, .ref 229), (1, .int v1), (2, .int (v2 + x5)), (3, .int (v3 + 1))]) rfl ?_
        exact ih v1 (v2 + x5) (v3 + 1) τ rr ((hP.1 c3).2.2 x5 e6) hF
      · clear hF
        by_cases c4 : (F_X9_of v3 6 τ) = 2
        · skip
          refine q_go C tk_X9_meanTime [(20, 4)] [false] (pc1 := 36) (σ1 := τ) (lv1 := [(0, .ref 229), (1, .int v1), (2, .int v2), (3, .int v3)]) (st1 := [.int 18, .int v3, .ref 229, .int v2]) rfl ⟨c4, trivial⟩ ?_
          refine q_callV C hfl mw_X9_of mi_X9_of me_X9_of lk_X9_52 (k_X9_of v3 18 τ ((hP.1 c3).2.1.1 c4).1) (rest := [.int v2]) rfl rfl rfl (by decide) (by decide) rfl (q_dc (z := (36, .invokevirtual 52, 3, 0, 0)) tk_X9_meanTime 24 rfl) (Nat.le_of_ble_eq_true rfl) ⟨Nat.le_of_ble_eq_true rfl, Nat.le_of_ble_eq_true rfl⟩ ⟨Nat.le_of_ble_eq_true rfl, Nat.le_of_ble_eq_true rfl⟩ ?_
          refine q_nrm 39 [.int (F_X9_of v3 18 τ), .int v2] 0 0 rfl rfl rfl rfl ?_
          refine q_go C tk_X9_meanTime [(25, 1)] [] (pc1 := 43) (σ1 := τ) (lv1 := [(0, .ref 229), (1, .int v1), (2, .int v2), (3, .int v3)]) (st1 := [.int (F_X9_of v3 18 τ), .int v2]) rfl trivial ?_
          rw [if_pos c4] at K; exact K
        · skip
          refine q_go C tk_X9_meanTime [(20, 1), (26, 1)] [true] (pc1 := 43) (σ1 := τ) (lv1 := [(0, .ref 229), (1, .int v1), (2, .int v2), (3, .int v3)]) (st1 := [.int 0, .int v2]) rfl ⟨c4, trivial⟩ ?_
          rw [if_neg c4] at K; exact K
    · rw [if_neg c3] at hF
      refine q_go C tk_X9_meanTime [(13, 1), (31, 2)] [true] (pc1 := 53) (σ1 := τ) (lv1 := [(0, .ref 229), (1, .int v1), (2, .int v2), (3, .int v3)]) (st1 := [.int v1, .ref 229]) rfl ⟨c3, trivial⟩ ?_
      by_cases c7 : v1 = 0
      · rw [if_pos c7] at hF
        refine q_go C tk_X9_meanTime [(33, 3), (37, 1)] [false] (pc1 := 62) (σ1 := τ) (lv1 := [(0, .ref 229), (1, .int v1), (2, .int v2), (3, .int v3)]) (st1 := [.int 1, .int 1, .ref 229]) rfl ⟨c7, trivial⟩ ?_
        refine q_callV C hfl mw_X9_isThrown mi_X9_isThrown me_X9_isThrown lk_X9_63 (k_X9_isThrownN 1 1 τ (by decide) (by decide)) (rest := []) rfl rfl rfl (by decide) (by decide) rfl (q_dc (z := (62, .invokevirtual 63, 3, 0, 0)) tk_X9_meanTime 38 rfl) (Nat.le_of_ble_eq_true rfl) ⟨Nat.le_of_ble_eq_true rfl, Nat.le_of_ble_eq_true rfl⟩ ⟨Nat.le_of_ble_eq_true rfl, Nat.le_of_ble_eq_true rfl⟩ ?_
        refine q_nrm 65 [.int 1] 0 0 rfl rfl rfl rfl ?_
        refine q_go C tk_X9_meanTime [(39, 1)] [false] (pc1 := 68) (σ1 := (q_up τ 229 5 1)) (lv1 := [(0, .ref 229), (1, .int v1), (2, .int v2), (3, .int v3)]) (st1 := []) rfl ⟨(by decide : ¬ (1 : Int32) = 0), trivial⟩ ?_
        refine q_dc0 C (q_dc (z := (68, .dconst 0, 1, 0, 0)) tk_X9_meanTime 40 rfl) ?_
        refine q_nrm 69 [.double FP.dconst0] 0 0 rfl rfl rfl rfl ?_
        refine q_go C tk_X9_meanTime [(41, 1)] [] (pc1 := 77) (σ1 := (q_up τ 229 5 1)) (lv1 := [(0, .ref 229), (1, .int v1), (2, .int v2), (3, .int v3)]) (st1 := [.double FP.dconst0]) rfl trivial ?_
        exact q_dret C hr (q_dc (z := (77, .dreturn, 1, 0, 0)) tk_X9_meanTime 47 rfl) (congrArg Prod.snd hF) (congrArg (fun z => q_od z.1) hF.symm) (Nat.le_of_ble_eq_true rfl) (Nat.le_of_ble_eq_true rfl)
      · rw [if_neg c7] at hF
        refine q_go C tk_X9_meanTime [(33, 1), (36, 2)] [true] (pc1 := 62) (σ1 := τ) (lv1 := [(0, .ref 229), (1, .int v1), (2, .int v2), (3, .int v3)]) (st1 := [.int 1, .int 0, .ref 229]) rfl ⟨c7, trivial⟩ ?_
        refine q_callV C hfl mw_X9_isThrown mi_X9_isThrown me_X9_isThrown lk_X9_63 (k_X9_isThrownZ 0 1 τ (by decide)) (rest := []) rfl rfl rfl (by decide) (by decide) rfl (q_dc (z := (62, .invokevirtual 63, 3, 0, 0)) tk_X9_meanTime 38 rfl) (Nat.le_of_ble_eq_true rfl) ⟨Nat.le_of_ble_eq_true rfl, Nat.le_of_ble_eq_true rfl⟩ ⟨Nat.le_of_ble_eq_true rfl, Nat.le_of_ble_eq_true rfl⟩ ?_
        refine q_nrm 65 [.int 0] 0 0 rfl rfl rfl rfl ?_
        refine q_go C tk_X9_meanTime [(39, 1), (42, 4)] [true] (pc1 := 76) (σ1 := (q_up τ 229 5 0)) (lv1 := [(0, .ref 229), (1, .int v1), (2, .int v2), (3, .int v3)]) (st1 := [.double (FP.i2d v1), .double (FP.i2d v2)]) rfl ⟨(by decide : (0 : Int32) = 0), trivial⟩ ?_
        refine q_ddiv C c7 (q_dc (z := (76, .ddiv, 1, 0, 0)) tk_X9_meanTime 46 rfl) ?_
        refine q_nrm 77 [.double (FP.ddiv (FP.i2d v2) (FP.i2d v1))] 0 0 rfl rfl rfl rfl ?_
        exact q_dret C hr (q_dc (z := (77, .dreturn, 1, 0, 0)) tk_X9_meanTime 47 rfl) (congrArg Prod.snd hF) (congrArg (fun z => q_od z.1) hF.symm) (Nat.le_of_ble_eq_true rfl) (Nat.le_of_ble_eq_true rfl)
def F_X9_meanTime (σ : q_M) : (UInt64) × q_M := (q_L (F_X9_inStatus 2 σ) (fun x1 : Int32 => (FL_X9_meanTime_10  10 x1 0 0 σ)))
def P_X9_meanTime (σ : q_M) : Prop := ((P_X9_inStatus 2 σ) ∧ (∀ x1 : Int32, (F_X9_inStatus 2 σ) = x1 → (PL_X9_meanTime_10  10 x1 0 0 σ)))
set_option maxRecDepth 100000 in
theorem k_X9_meanTime {α β : Nat → Nat} {D : va_G} {κ : Nat → ClassId} (σ : q_M) (hP : P_X9_meanTime σ) : q_C α β D κ yX9_meanTime cX9_meanTime 4 (Option.some Jvm.ClassFile.FieldType.double) 2 45 0 0 [.ref 229] σ (q_od (F_X9_meanTime σ).1) (F_X9_meanTime σ).2 := by
  refine q_enter (own := RX9) (F := F_X9) (G := G_X9) (by decide +kernel) rfl Fok_X9 Gok_X9 (Nat.le_of_ble_eq_true rfl) (fun p l e s m args below meth c A hfl C hr hT => ?_)
  generalize hF : F_X9_meanTime σ = rr
  unfold F_X9_meanTime at hF
  refine q_go C tk_X9_meanTime [(0, 2)] [] (pc1 := 2) (σ1 := σ) (lv1 := [(0, .ref 229)]) (st1 := [.int 2, .ref 229]) rfl trivial ?_
  refine q_callV C hfl mw_X9_inStatus mi_X9_inStatus me_X9_inStatus lk_X9_109 (k_X9_inStatus 2 σ hP.1) (rest := []) rfl rfl rfl (by decide) (by decide) rfl (q_dc (z := (2, .invokevirtual 109, 3, 0, 0)) tk_X9_meanTime 2 rfl) (Nat.le_of_ble_eq_true rfl) ⟨Nat.le_of_ble_eq_true rfl, Nat.le_of_ble_eq_true rfl⟩ ⟨Nat.le_of_ble_eq_true rfl, Nat.le_of_ble_eq_true rfl⟩ ?_
  refine q_nrm 5 [.int (F_X9_inStatus 2 σ)] 0 0 rfl rfl rfl rfl ?_
  generalize e2 : (F_X9_inStatus 2 σ) = x1
  replace hF := q_let e2 hF
  refine q_go C tk_X9_meanTime [(3, 5)] [] (pc1 := 10) (σ1 := σ) (lv1 := [(3, .int 0), (2, .int 0), (1, .int x1), (0, .ref 229)]) (st1 := []) rfl trivial ?_
  refine q_lvpick [3, 2, 1, 0] (lv' := [(0, .ref 229), (1, .int x1), (2, .int 0), (3, .int 0)]) rfl ?_
  exact kl_X9_meanTime_10   hfl C hr hT 10 x1 0 0 σ rr (hP.2 x1 e2) hF
