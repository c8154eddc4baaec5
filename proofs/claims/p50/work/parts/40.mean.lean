/-! 40.mean. -/
theorem q_nn {x y : Int32} (h : ¬ y = 0) : vf_n64 (FP.ddiv (FP.i2d x) (FP.i2d y)) := by
  have h0 : FP.Core.dIsNaN (FP.Core.i2d x) = false := by
    cases hn : FP.Core.dIsNaN (FP.Core.i2d x) with
    | false => rfl
    | true =>
      have h1 := (FP.Core.isNaN_bits _).mp hn
      have h2 := FP.Core.i2d_mag x
      omega
  have h1 : FP.Core.dIsNaN (FP.Core.ddiv (FP.Core.i2d x) (FP.Core.i2d y)) = false := FP.Core.ddiv_out h0 (FP.Core.i2d_fin y) (fun z => FP.Core.i2d_ne_zero h ((FP.Core.zero_bits2 _).mp z))
  have h2 : ¬ 9218868437227405312 < (FP.Core.ddiv (FP.Core.i2d x) (FP.Core.i2d y)).toNat % 2 ^ 63 := fun q => by
    rw [(FP.Core.isNaN_bits _).mpr q] at h1
    cases h1
  unfold vf_n64
  show FP.Core.ddiv (FP.Core.i2d x) (FP.Core.i2d y) &&& _ ≤ _
  generalize FP.Core.ddiv (FP.Core.i2d x) (FP.Core.i2d y) = r at h2 ⊢
  rw [UInt64.le_iff_toNat_le, UInt64.toNat_and]
  show r.toNat &&& (2 ^ 63 - 1) ≤ 9218868437227405312
  rw [Nat.and_two_pow_sub_one_eq_mod]
  omega
def q_od (x : UInt64) : q_O := .inl (some (.double x))
def q_oxd (r : UInt64 ⊕ String) : q_O := match r with | .inl x => .inl (some (.double x)) | .inr E => q_ox E
section q40
variable {α β : Nat → Nat} {D : va_G} {κ : Nat → ClassId} {p : Program} {l : Launch} {e : Env} {R : Room} {s : State} {m : MethodId} {args : Array Value} {below : List Frame} {meth : Method} {c : Code} {cc : ByteArray} {own : String} {F : Nat → Option (Nat × Nat)} {G : Nat → Option Int32} {nL : Nat} {A : Nat → Prop} {Q : State → Prop} {n1 n2 : Nat} {pc : Nat} {σ : q_M} {lv : q_Lv} {rest : List Value} {x y : Int32}
theorem q_dc0 (C : q_Cx α β D κ p s m args meth c cc own F G nL A) (hd : decode cc pc = .ok (.dconst 0, 1)) (kk : q_St α β D κ p l e R s m args below meth c nL A Q n1 n2 σ lv (pc + 1) (.double FP.dconst0 :: rest)) : q_St α β D κ p l e R s m args below meth c nL A Q n1 n2 σ lv pc rest :=
  fun Y H locs ls hY hP hD hS hl => lv_dconst0 C.1 C.2.1 hd (kk Y H locs ls hY hP hD hS hl)
theorem q_ddiv (C : q_Cx α β D κ p s m args meth c cc own F G nL A) (h : ¬ y = 0) (hd : decode cc pc = .ok (.ddiv, 1)) (kk : q_St α β D κ p l e R s m args below meth c nL A Q n1 n2 σ lv (pc + 1) (.double (FP.ddiv (FP.i2d x) (FP.i2d y)) :: rest)) : q_St α β D κ p l e R s m args below meth c nL A Q n1 n2 σ lv pc (.double (FP.i2d y) :: .double (FP.i2d x) :: rest) :=
  fun Y H locs ls hY hP hD hS hl => lv_ddiv C.1 C.2.1 hd (q_nn h) (kk Y H locs ls hY hP hD hS hl)
end q40
def F_X8_meanTime (σ : q_M) : UInt64 ⊕ String := (q_L (F_X4_countFinished 0 σ) (fun x1 : Int32 => (if x1 = 0 then (.inr "java/lang/ArithmeticException") else (.inl (FP.ddiv (FP.i2d (F_X4_sumOfTimes 0 σ)) (FP.i2d x1))))))
def P_X8_meanTime (σ : q_M) : Prop := ((P_X4_countFinished 0 σ) ∧ (∀ x1 : Int32, (F_X4_countFinished 0 σ) = x1 → ((x1 = 0 → True) ∧ (¬ x1 = 0 → ((P_X4_sumOfTimes 0 σ) ∧ True)))))
set_option maxRecDepth 100000 in
theorem k_X8_meanTime {α β : Nat → Nat} {D : va_G} {κ : Nat → ClassId} (σ : q_M) (hP : P_X8_meanTime σ) : q_C α β D κ yX8_meanTime cX8_meanTime 2 (Option.some Jvm.ClassFile.FieldType.double) 6 90 1 6 [.ref 220] σ (q_oxd (F_X8_meanTime σ)) σ := by
  refine q_enter (own := RX8) (F := F_X8) (G := G_X8) (by decide +kernel) rfl Fok_X8 Gok_X8 (Nat.le_of_ble_eq_true rfl) (fun p l e s m args below meth c A hfl C hr hT => ?_)
  generalize hF : F_X8_meanTime σ = rr
  unfold F_X8_meanTime at hF
  refine q_go C tk_X8_meanTime [(0, 2)] [] (pc1 := 4) (σ1 := σ) (lv1 := [(0, .ref 220)]) (st1 := [.ref 0]) rfl ⟨rfl, trivial⟩ ?_
  refine q_callV C hfl mw_X4_countFinished mi_X4_countFinished me_X4_countFinished lk_X8_243 (k_X4_countFinished 0 σ rfl hP.1) (rest := []) rfl rfl rfl (by decide) (by decide) rfl (q_dc (z := (4, .invokevirtual 243, 3, 0, 0)) tk_X8_meanTime 2 rfl) (Nat.le_of_ble_eq_true rfl) ⟨Nat.le_of_ble_eq_true rfl, Nat.le_of_ble_eq_true rfl⟩ ⟨Nat.le_of_ble_eq_true rfl, Nat.le_of_ble_eq_true rfl⟩ ?_
  refine q_nrm 7 [.int (F_X4_countFinished 0 σ)] 0 0 rfl rfl rfl rfl ?_
  generalize e2 : (F_X4_countFinished 0 σ) = x1
  replace hF := q_let e2 hF
  refine q_go C tk_X8_meanTime [(3, 2)] [] (pc1 := 9) (σ1 := σ) (lv1 := [(1, .int x1), (0, .ref 220)]) (st1 := [.int x1]) rfl trivial ?_
  by_cases c3 : x1 = 0
  · rw [if_pos c3] at hF
    refine q_go C tk_X8_meanTime [(5, 1)] [false] (pc1 := 12) (σ1 := σ) (lv1 := [(1, .int x1), (0, .ref 220)]) (st1 := []) rfl ⟨c3, trivial⟩ ?_
    exact q_throw C hT hfl xk_ArithmeticException (is := 248) (List.mem_of_getElem? (l := q_msg) (i := 11) rfl) (q_dc (z := (12, .new 246, 3, 0, 0)) tk_X8_meanTime 6 rfl) (q_dc (z := (15, .dup, 1, 0, 0)) tk_X8_meanTime 7 rfl) (q_dc (z := (16, .ldc 248, 2, 0, 0)) tk_X8_meanTime 8 rfl) (q_dc (z := (18, .invokespecial 250, 3, 0, 0)) tk_X8_meanTime 9 rfl) (q_dc (z := (21, .athrow, 1, 0, 0)) tk_X8_meanTime 10 rfl) (Nat.le_of_ble_eq_true rfl) (Nat.le_of_ble_eq_true rfl) (Nat.le_of_ble_eq_true rfl) (Nat.le_of_ble_eq_true rfl) (Nat.le_of_ble_eq_true rfl) rfl (congrArg q_oxd hF.symm) (Nat.le_of_ble_eq_true rfl) (Nat.le_of_ble_eq_true rfl)
  · rw [if_neg c3] at hF
    refine q_go C tk_X8_meanTime [(5, 1), (11, 2)] [true] (pc1 := 26) (σ1 := σ) (lv1 := [(1, .int x1), (0, .ref 220)]) (st1 := [.ref 0]) rfl ⟨c3, rfl, trivial⟩ ?_
    refine q_callV C hfl mw_X4_sumOfTimes mi_X4_sumOfTimes me_X4_sumOfTimes lk_X8_251 (k_X4_sumOfTimes 0 σ rfl ((hP.2 x1 e2).2 c3).1) (rest := []) rfl rfl rfl (by decide) (by decide) rfl (q_dc (z := (26, .invokevirtual 251, 3, 0, 0)) tk_X8_meanTime 13 rfl) (Nat.le_of_ble_eq_true rfl) ⟨Nat.le_of_ble_eq_true rfl, Nat.le_of_ble_eq_true rfl⟩ ⟨Nat.le_of_ble_eq_true rfl, Nat.le_of_ble_eq_true rfl⟩ ?_
    refine q_nrm 29 [.int (F_X4_sumOfTimes 0 σ)] 0 0 rfl rfl rfl rfl ?_
    refine q_go C tk_X8_meanTime [(14, 3)] [] (pc1 := 32) (σ1 := σ) (lv1 := [(1, .int x1), (0, .ref 220)]) (st1 := [.double (FP.i2d x1), .double (FP.i2d (F_X4_sumOfTimes 0 σ))]) rfl trivial ?_
    refine q_ddiv C c3 (q_dc (z := (32, .ddiv, 1, 0, 0)) tk_X8_meanTime 17 rfl) ?_
    refine q_nrm 33 [.double (FP.ddiv (FP.i2d (F_X4_sumOfTimes 0 σ)) (FP.i2d x1))] 0 0 rfl rfl rfl rfl ?_
    exact q_dret C hr (q_dc (z := (33, .dreturn, 1, 0, 0)) tk_X8_meanTime 18 rfl) rfl (congrArg q_oxd hF.symm) (Nat.le_of_ble_eq_true rfl) (Nat.le_of_ble_eq_true rfl)
