/-! 38.reader. -/
def F_X3_readCharacter (ch : Int32) (σ : q_M) : (Int32) × q_M := (if (σ 223 3) < (σ 225 3) then (if (σ 227 ((σ 223 3)).toNatClampNeg) = ch then (q_L (q_up σ 223 3 ((σ 223 3) + 1)) (fun σ3 : q_M => (1, σ3))) else (0, σ)) else (0, σ))
def P_X3_readCharacter (ch : Int32) (σ : q_M) : Prop := (((σ 223 3) < (σ 225 3) → (¬ (σ 223 3) < 0 ∧ ((σ 223 3) < (σ 225 3) ∧ True))) ∧ (¬ (σ 223 3) < (σ 225 3) → True))
set_option maxRecDepth 100000 in
theorem k_X3_readCharacter {α β : Nat → Nat} {D : va_G} {κ : Nat → ClassId} (ch : Int32) (σ : q_M) (hP : P_X3_readCharacter ch σ) : q_C α β D κ yX3_readCharacter cX3_readCharacter 2 (Option.some Jvm.ClassFile.FieldType.boolean) 4 96 0 0 [.ref 223, .int ch] σ (q_oi (F_X3_readCharacter ch σ).1) (F_X3_readCharacter ch σ).2 := by
  refine q_enter (own := RX3) (F := F_X3) (G := G_X3) (by decide +kernel) rfl Fok_X3 Gok_X3 (Nat.le_of_ble_eq_true rfl) (fun p l e s m args below meth c A hfl C hr hT => ?_)
  generalize hF : F_X3_readCharacter ch σ = rr
  unfold F_X3_readCharacter at hF
  refine q_go C tk_X3_readCharacter [(0, 4)] [] (pc1 := 8) (σ1 := σ) (lv1 := [(0, .ref 223), (1, .int ch)]) (st1 := [.ref 225, .int (σ 223 3)]) rfl ⟨rfl, rfl, trivial⟩ ?_
  refine q_callG C hfl mw_J4_length_8abf5 mi_J4_length_8abf5 me_J4_length_8abf5 lk_X3_38 (k_sbLen 225 σ (Or.inl rfl)) (rest := [.int (σ 223 3)]) rfl (q_recvB C (Or.inl rfl)) rfl (q_dc (z := (8, .invokevirtual 38, 3, 0, 0)) tk_X3_readCharacter 4 rfl) (Nat.le_of_ble_eq_true rfl) ⟨Nat.le_of_ble_eq_true rfl, Nat.le_of_ble_eq_true rfl⟩ ⟨Nat.le_of_ble_eq_true rfl, Nat.le_of_ble_eq_true rfl⟩ ?_
  refine q_nrm 11 [.int (σ 225 3), .int (σ 223 3)] 0 0 rfl rfl rfl rfl ?_
  by_cases c1 : (σ 223 3) < (σ 225 3)
  · rw [if_pos c1] at hF
    refine q_go C tk_X3_readCharacter [(5, 5)] [false] (pc1 := 22) (σ1 := σ) (lv1 := [(0, .ref 223), (1, .int ch)]) (st1 := [.int (σ 223 3), .ref 225]) rfl ⟨c1, rfl, rfl, trivial⟩ ?_
    refine q_callG C hfl mw_J4_charAt_5068e mi_J4_charAt_5068e me_J4_charAt_5068e lk_X3_91 (k_sbAt 225 (σ 223 3) σ (Or.inl rfl) (hP.1 c1).1 (hP.1 c1).2.1) (rest := []) rfl (q_recvB C (Or.inl rfl)) rfl (q_dc (z := (22, .invokevirtual 91, 3, 0, 0)) tk_X3_readCharacter 10 rfl) (Nat.le_of_ble_eq_true rfl) ⟨Nat.le_of_ble_eq_true rfl, Nat.le_of_ble_eq_true rfl⟩ ⟨Nat.le_of_ble_eq_true rfl, Nat.le_of_ble_eq_true rfl⟩ ?_
    refine q_nrm 25 [.int (σ 227 ((σ 223 3)).toNatClampNeg)] 0 0 rfl rfl rfl rfl ?_
    refine q_go C tk_X3_readCharacter [(11, 1)] [] (pc1 := 26) (σ1 := σ) (lv1 := [(0, .ref 223), (1, .int ch)]) (st1 := [.int ch, .int (σ 227 ((σ 223 3)).toNatClampNeg)]) rfl trivial ?_
    by_cases c2 : (σ 227 ((σ 223 3)).toNatClampNeg) = ch
    · rw [if_pos c2] at hF
      refine q_go C tk_X3_readCharacter [(12, 7)] [false] (pc1 := 39) (σ1 := (q_up σ 223 3 ((σ 223 3) + 1))) (lv1 := [(0, .ref 223), (1, .int ch)]) (st1 := []) rfl ⟨c2, rfl, rfl, trivial⟩ ?_
      generalize e4 : (q_up σ 223 3 ((σ 223 3) + 1)) = σ3
      replace hF := q_let e4 hF
      refine q_go C tk_X3_readCharacter [(19, 1)] [] (pc1 := 40) (σ1 := σ3) (lv1 := [(0, .ref 223), (1, .int ch)]) (st1 := [.int 1]) rfl trivial ?_
      exact q_zret C hr (q_dc (z := (40, .ireturn, 1, 0, 0)) tk_X3_readCharacter 20 rfl) (by decide +kernel) (congrArg Prod.snd hF) (congrArg (fun z => q_oi z.1) hF.symm) (Nat.le_of_ble_eq_true rfl) (Nat.le_of_ble_eq_true rfl)
    · rw [if_neg c2] at hF
      refine q_go C tk_X3_readCharacter [(12, 1), (21, 1)] [true] (pc1 := 42) (σ1 := σ) (lv1 := [(0, .ref 223), (1, .int ch)]) (st1 := [.int 0]) rfl ⟨c2, trivial⟩ ?_
      exact q_zret C hr (q_dc (z := (42, .ireturn, 1, 0, 0)) tk_X3_readCharacter 22 rfl) (by decide +kernel) (congrArg Prod.snd hF) (congrArg (fun z => q_oi z.1) hF.symm) (Nat.le_of_ble_eq_true rfl) (Nat.le_of_ble_eq_true rfl)
  · rw [if_neg c1] at hF
    refine q_go C tk_X3_readCharacter [(5, 1), (21, 1)] [true] (pc1 := 42) (σ1 := σ) (lv1 := [(0, .ref 223), (1, .int ch)]) (st1 := [.int 0]) rfl ⟨c1, trivial⟩ ?_
    exact q_zret C hr (q_dc (z := (42, .ireturn, 1, 0, 0)) tk_X3_readCharacter 22 rfl) (by decide +kernel) (congrArg Prod.snd hF) (congrArg (fun z => q_oi z.1) hF.symm) (Nat.le_of_ble_eq_true rfl) (Nat.le_of_ble_eq_true rfl)
theorem z_X3_readCharacter {ch : Int32} {σ : q_M} : q_z2 (F_X3_readCharacter ch σ) := by
  unfold F_X3_readCharacter
  refine q_zif _ _ _ _ ?_ ?_
  · refine q_zif _ _ _ _ ?_ ?_
    · refine q_zL _ _ _ (fun σ3 => ?_)
      exact Or.inr rfl
    · exact Or.inl rfl
  · exact Or.inl rfl
def FL_X3_readDigits_7 (w : Int32) : Nat → Int32 → Int32 → q_M → (Int32) × q_M
  | 0, v2, v3, τ => (0, τ)
  | nn + 1, v2, v3, τ => (if ((τ 223 3) - v2) < w then (if (τ 223 3) < (τ 225 3) then (if (F_X3_isDigit (τ 227 ((τ 223 3)).toNatClampNeg) τ) = 0 then (q_L (F_X3_addArgument v3 τ) (fun σ4 : q_M => (if v2 < (σ4 223 3) then (1, σ4) else (0, σ4)))) else (q_L ((10 * v3) + ((τ 227 ((τ 223 3)).toNatClampNeg) - 48)) (fun x7 : Int32 => (q_L (q_up τ 223 3 ((τ 223 3) + 1)) (fun σ9 : q_M => (FL_X3_readDigits_7 w nn v2 x7 σ9)))))) else (q_L (F_X3_addArgument v3 τ) (fun σ11 : q_M => (if v2 < (σ11 223 3) then (1, σ11) else (0, σ11))))) else (q_L (F_X3_addArgument v3 τ) (fun σ14 : q_M => (if v2 < (σ14 223 3) then (1, σ14) else (0, σ14)))))
def PL_X3_readDigits_7 (w : Int32) : Nat → Int32 → Int32 → q_M → Prop
  | 0, v2, v3, τ => False
  | nn + 1, v2, v3, τ => ((((τ 223 3) - v2) < w → (((τ 223 3) < (τ 225 3) → (¬ (τ 223 3) < 0 ∧ ((τ 223 3) < (τ 225 3) ∧ (((F_X3_isDigit (τ 227 ((τ 223 3)).toNatClampNeg) τ) = 0 → ((P_X3_addArgument v3 τ) ∧ True)) ∧ (¬ (F_X3_isDigit (τ 227 ((τ 223 3)).toNatClampNeg) τ) = 0 → (¬ (τ 223 3) < 0 ∧ ((τ 223 3) < (τ 225 3) ∧ (∀ x7 : Int32, ((10 * v3) + ((τ 227 ((τ 223 3)).toNatClampNeg) - 48)) = x7 → (∀ σ9 : q_M, (q_up τ 223 3 ((τ 223 3) + 1)) = σ9 → (PL_X3_readDigits_7 w nn v2 x7 σ9)))))))))) ∧ (¬ (τ 223 3) < (τ 225 3) → ((P_X3_addArgument v3 τ) ∧ True)))) ∧ (¬ ((τ 223 3) - v2) < w → ((P_X3_addArgument v3 τ) ∧ True)))
set_option maxRecDepth 100000 in
theorem kl_X3_readDigits_7 {α β : Nat → Nat} {D : va_G} {κ : Nat → ClassId} (w : Int32) {p : Program} {l : Launch} {e : Env} {s : State} {m : MethodId} {args : Array Value} {below : List Frame} {meth : Method} {c : Code} {A : Nat → Prop} (hfl : l.flags = flags0) (C : q_Cx α β D κ p s m args meth c cX3_readDigits RX3 F_X3 G_X3 4 A) (hr : meth.sig.returnType = (Option.some Jvm.ClassFile.FieldType.boolean)) (hT : ∀ x ∈ c.exceptionTable.toList, False) : ∀ (nn : Nat) (v2 : Int32) (v3 : Int32) (τ : q_M) (rr : (Int32) × q_M), PL_X3_readDigits_7 w nn v2 v3 τ → FL_X3_readDigits_7 w nn v2 v3 τ = rr → q_St α β D κ p l e ({ frames := 4, cells := 0, slots := 0, locals := 96 } : Room) s m args below meth c 4 A (vx_MQ below (q_Qc α β D κ A (q_oi rr.1) rr.2) (q_XC α β D κ A (q_oi rr.1) rr.2) args s 0 0 A) 0 0 τ [(0, .ref 223), (1, .int w), (2, .int v2), (3, .int v3)] 7 [] := by
  intro nn
  induction nn with
  | zero => intro v2 v3 τ rr hP; exact hP.elim
  | succ nn ih =>
    intro v2 v3 τ rr hP hF
    unfold FL_X3_readDigits_7 at hF
    refine q_go C tk_X3_readDigits [(5, 5)] [] (pc1 := 14) (σ1 := τ) (lv1 := [(0, .ref 223), (1, .int w), (2, .int v2), (3, .int v3)]) (st1 := [.int w, .int ((τ 223 3) - v2)]) rfl ⟨rfl, trivial⟩ ?_
    by_cases c1 : ((τ 223 3) - v2) < w
    · rw [if_pos c1] at hF
      refine q_go C tk_X3_readDigits [(10, 5)] [false] (pc1 := 25) (σ1 := τ) (lv1 := [(0, .ref 223), (1, .int w), (2, .int v2), (3, .int v3)]) (st1 := [.ref 225, .int (τ 223 3)]) rfl ⟨c1, rfl, rfl, trivial⟩ ?_
      refine q_callG C hfl mw_J4_length_8abf5 mi_J4_length_8abf5 me_J4_length_8abf5 lk_X3_38 (k_sbLen 225 τ (Or.inl rfl)) (rest := [.int (τ 223 3)]) rfl (q_recvB C (Or.inl rfl)) rfl (q_dc (z := (25, .invokevirtual 38, 3, 0, 0)) tk_X3_readDigits 15 rfl) (Nat.le_of_ble_eq_true rfl) ⟨Nat.le_of_ble_eq_true rfl, Nat.le_of_ble_eq_true rfl⟩ ⟨Nat.le_of_ble_eq_true rfl, Nat.le_of_ble_eq_true rfl⟩ ?_
      refine q_nrm 28 [.int (τ 225 3), .int (τ 223 3)] 0 0 rfl rfl rfl rfl ?_
      by_cases c2 : (τ 223 3) < (τ 225 3)
      · rw [if_pos c2] at hF
        refine q_go C tk_X3_readDigits [(16, 5)] [false] (pc1 := 39) (σ1 := τ) (lv1 := [(0, .ref 223), (1, .int w), (2, .int v2), (3, .int v3)]) (st1 := [.int (τ 223 3), .ref 225]) rfl ⟨c2, rfl, rfl, trivial⟩ ?_
        refine q_callG C hfl mw_J4_charAt_5068e mi_J4_charAt_5068e me_J4_charAt_5068e lk_X3_91 (k_sbAt 225 (τ 223 3) τ (Or.inl rfl) ((hP.1 c1).1 c2).1 ((hP.1 c1).1 c2).2.1) (rest := []) rfl (q_recvB C (Or.inl rfl)) rfl (q_dc (z := (39, .invokevirtual 91, 3, 0, 0)) tk_X3_readDigits 21 rfl) (Nat.le_of_ble_eq_true rfl) ⟨Nat.le_of_ble_eq_true rfl, Nat.le_of_ble_eq_true rfl⟩ ⟨Nat.le_of_ble_eq_true rfl, Nat.le_of_ble_eq_true rfl⟩ ?_
        refine q_nrm 42 [.int (τ 227 ((τ 223 3)).toNatClampNeg)] 0 0 rfl rfl rfl rfl ?_
        refine q_callS C hfl mw_X3_isDigit ms_X3_isDigit lk_X3_92 (k_X3_isDigit (τ 227 ((τ 223 3)).toNatClampNeg) τ) (rest := []) rfl rfl (q_dc (z := (42, .invokestatic 92, 3, 0, 0)) tk_X3_readDigits 22 rfl) (Nat.le_of_ble_eq_true rfl) ⟨Nat.le_of_ble_eq_true rfl, Nat.le_of_ble_eq_true rfl⟩ ⟨Nat.le_of_ble_eq_true rfl, Nat.le_of_ble_eq_true rfl⟩ ?_
        refine q_nrm 45 [.int (F_X3_isDigit (τ 227 ((τ 223 3)).toNatClampNeg) τ)] 0 0 rfl rfl rfl rfl ?_
        by_cases c3 : (F_X3_isDigit (τ 227 ((τ 223 3)).toNatClampNeg) τ) = 0
        · rw [if_pos c3] at hF
          refine q_go C tk_X3_readDigits [(23, 1), (43, 2)] [true] (pc1 := 83) (σ1 := τ) (lv1 := [(0, .ref 223), (1, .int w), (2, .int v2), (3, .int v3)]) (st1 := [.int v3, .ref 223]) rfl ⟨c3, trivial⟩ ?_
          refine q_callV C hfl mw_X3_addArgument mi_X3_addArgument me_X3_addArgument lk_X3_95 (k_X3_addArgument v3 τ (((hP.1 c1).1 c2).2.2.1 c3).1) (rest := []) rfl rfl rfl (by decide) (by decide) rfl (q_dc (z := (83, .invokevirtual 95, 3, 0, 0)) tk_X3_readDigits 45 rfl) (Nat.le_of_ble_eq_true rfl) ⟨Nat.le_of_ble_eq_true rfl, Nat.le_of_ble_eq_true rfl⟩ ⟨Nat.le_of_ble_eq_true rfl, Nat.le_of_ble_eq_true rfl⟩ ?_
          refine q_nrm 86 [] 0 0 rfl rfl rfl rfl ?_
          generalize e5 : (F_X3_addArgument v3 τ) = σ4
          replace hF := q_let e5 hF
          refine q_go C tk_X3_readDigits [(46, 3)] [] (pc1 := 91) (σ1 := σ4) (lv1 := [(0, .ref 223), (1, .int w), (2, .int v2), (3, .int v3)]) (st1 := [.int v2, .int (σ4 223 3)]) rfl ⟨rfl, trivial⟩ ?_
          by_cases c6 : v2 < (σ4 223 3)
          · rw [if_pos c6] at hF
            refine q_go C tk_X3_readDigits [(49, 3)] [false] (pc1 := 99) (σ1 := σ4) (lv1 := [(0, .ref 223), (1, .int w), (2, .int v2), (3, .int v3)]) (st1 := [.int 1]) rfl ⟨c6, trivial⟩ ?_
            exact q_zret C hr (q_dc (z := (99, .ireturn, 1, 0, 0)) tk_X3_readDigits 53 rfl) (by decide +kernel) (congrArg Prod.snd hF) (congrArg (fun z => q_oi z.1) hF.symm) (Nat.le_of_ble_eq_true rfl) (Nat.le_of_ble_eq_true rfl)
          · rw [if_neg c6] at hF
            refine q_go C tk_X3_readDigits [(49, 1), (52, 1)] [true] (pc1 := 99) (σ1 := σ4) (lv1 := [(0, .ref 223), (1, .int w), (2, .int v2), (3, .int v3)]) (st1 := [.int 0]) rfl ⟨c6, trivial⟩ ?_
            exact q_zret C hr (q_dc (z := (99, .ireturn, 1, 0, 0)) tk_X3_readDigits 53 rfl) (by decide +kernel) (congrArg Prod.snd hF) (congrArg (fun z => q_oi z.1) hF.symm) (Nat.le_of_ble_eq_true rfl) (Nat.le_of_ble_eq_true rfl)
        · rw [if_neg c3] at hF
          refine q_go C tk_X3_readDigits [(23, 8)] [false] (pc1 := 60) (σ1 := τ) (lv1 := [(0, .ref 223), (1, .int w), (2, .int v2), (3, .int v3)]) (st1 := [.int (τ 223 3), .ref 225, .int (10 * v3)]) rfl ⟨c3, rfl, rfl, trivial⟩ ?_
          refine q_callG C hfl mw_J4_charAt_5068e mi_J4_charAt_5068e me_J4_charAt_5068e lk_X3_91 (k_sbAt 225 (τ 223 3) τ (Or.inl rfl) (((hP.1 c1).1 c2).2.2.2 c3).1 (((hP.1 c1).1 c2).2.2.2 c3).2.1) (rest := [.int (10 * v3)]) rfl (q_recvB C (Or.inl rfl)) rfl (q_dc (z := (60, .invokevirtual 91, 3, 0, 0)) tk_X3_readDigits 31 rfl) (Nat.le_of_ble_eq_true rfl) ⟨Nat.le_of_ble_eq_true rfl, Nat.le_of_ble_eq_true rfl⟩ ⟨Nat.le_of_ble_eq_true rfl, Nat.le_of_ble_eq_true rfl⟩ ?_
          refine q_nrm 63 [.int (τ 227 ((τ 223 3)).toNatClampNeg), .int (10 * v3)] 0 0 rfl rfl rfl rfl ?_
          refine q_go C tk_X3_readDigits [(32, 3)] [] (pc1 := 67) (σ1 := τ) (lv1 := [(0, .ref 223), (1, .int w), (2, .int v2), (3, .int v3)]) (st1 := [.int ((10 * v3) + ((τ 227 ((τ 223 3)).toNatClampNeg) - 48))]) rfl trivial ?_
          generalize e8 : ((10 * v3) + ((τ 227 ((τ 223 3)).toNatClampNeg) - 48)) = x7
          replace hF := q_let e8 hF
          refine q_go C tk_X3_readDigits [(35, 7)] [] (pc1 := 78) (σ1 := (q_up τ 223 3 ((τ 223 3) + 1))) (lv1 := [(3, .int x7), (0, .ref 223), (1, .int w), (2, .int v2)]) (st1 := []) rfl ⟨rfl, rfl, trivial⟩ ?_
          generalize e10 : (q_up τ 223 3 ((τ 223 3) + 1)) = σ9
          replace hF := q_let e10 hF
          refine q_go C tk_X3_readDigits [(42, 1)] [] (pc1 := 7) (σ1 := σ9) (lv1 := [(3, .int x7), (0, .ref 223), (1, .int w), (2, .int v2)]) (st1 := []) rfl trivial ?_
          refine q_lvpick [1, 2, 3, 0] (lv' := [(0, .ref 223), (1, .int w), (2, .int v2), (3, .int x7)]) rfl ?_
          exact ih v2 x7 σ9 rr (((((hP.1 c1).1 c2).2.2.2 c3).2.2 x7 e8) σ9 e10) hF
      · rw [if_neg c2] at hF
        refine q_go C tk_X3_readDigits [(16, 1), (43, 2)] [true] (pc1 := 83) (σ1 := τ) (lv1 := [(0, .ref 223), (1, .int w), (2, .int v2), (3, .int v3)]) (st1 := [.int v3, .ref 223]) rfl ⟨c2, trivial⟩ ?_
        refine q_callV C hfl mw_X3_addArgument mi_X3_addArgument me_X3_addArgument lk_X3_95 (k_X3_addArgument v3 τ ((hP.1 c1).2 c2).1) (rest := []) rfl rfl rfl (by decide) (by decide) rfl (q_dc (z := (83, .invokevirtual 95, 3, 0, 0)) tk_X3_readDigits 45 rfl) (Nat.le_of_ble_eq_true rfl) ⟨Nat.le_of_ble_eq_true rfl, Nat.le_of_ble_eq_true rfl⟩ ⟨Nat.le_of_ble_eq_true rfl, Nat.le_of_ble_eq_true rfl⟩ ?_
        refine q_nrm 86 [] 0 0 rfl rfl rfl rfl ?_
        generalize e12 : (F_X3_addArgument v3 τ) = σ11
        replace hF := q_let e12 hF
        refine q_go C tk_X3_readDigits [(46, 3)] [] (pc1 := 91) (σ1 := σ11) (lv1 := [(0, .ref 223), (1, .int w), (2, .int v2), (3, .int v3)]) (st1 := [.int v2, .int (σ11 223 3)]) rfl ⟨rfl, trivial⟩ ?_
        by_cases c13 : v2 < (σ11 223 3)
        · rw [if_pos c13] at hF
          refine q_go C tk_X3_readDigits [(49, 3)] [false] (pc1 := 99) (σ1 := σ11) (lv1 := [(0, .ref 223), (1, .int w), (2, .int v2), (3, .int v3)]) (st1 := [.int 1]) rfl ⟨c13, trivial⟩ ?_
          exact q_zret C hr (q_dc (z := (99, .ireturn, 1, 0, 0)) tk_X3_readDigits 53 rfl) (by decide +kernel) (congrArg Prod.snd hF) (congrArg (fun z => q_oi z.1) hF.symm) (Nat.le_of_ble_eq_true rfl) (Nat.le_of_ble_eq_true rfl)
        · rw [if_neg c13] at hF
          refine q_go C tk_X3_readDigits [(49, 1), (52, 1)] [true] (pc1 := 99) (σ1 := σ11) (lv1 := [(0, .ref 223), (1, .int w), (2, .int v2), (3, .int v3)]) (st1 := [.int 0]) rfl ⟨c13, trivial⟩ ?_
          exact q_zret C hr (q_dc (z := (99, .ireturn, 1, 0, 0)) tk_X3_readDigits 53 rfl) (by decide +kernel) (congrArg Prod.snd hF) (congrArg (fun z => q_oi z.1) hF.symm) (Nat.le_of_ble_eq_true rfl) (Nat.le_of_ble_eq_true rfl)
    · rw [if_neg c1] at hF
      refine q_go C tk_X3_readDigits [(10, 1), (43, 2)] [true] (pc1 := 83) (σ1 := τ) (lv1 := [(0, .ref 223), (1, .int w), (2, .int v2), (3, .int v3)]) (st1 := [.int v3, .ref 223]) rfl ⟨c1, trivial⟩ ?_
      refine q_callV C hfl mw_X3_addArgument mi_X3_addArgument me_X3_addArgument lk_X3_95 (k_X3_addArgument v3 τ (hP.2 c1).1) (rest := []) rfl rfl rfl (by decide) (by decide) rfl (q_dc (z := (83, .invokevirtual 95, 3, 0, 0)) tk_X3_readDigits 45 rfl) (Nat.le_of_ble_eq_true rfl) ⟨Nat.le_of_ble_eq_true rfl, Nat.le_of_ble_eq_true rfl⟩ ⟨Nat.le_of_ble_eq_true rfl, Nat.le_of_ble_eq_true rfl⟩ ?_
      refine q_nrm 86 [] 0 0 rfl rfl rfl rfl ?_
      generalize e15 : (F_X3_addArgument v3 τ) = σ14
      replace hF := q_let e15 hF
      refine q_go C tk_X3_readDigits [(46, 3)] [] (pc1 := 91) (σ1 := σ14) (lv1 := [(0, .ref 223), (1, .int w), (2, .int v2), (3, .int v3)]) (st1 := [.int v2, .int (σ14 223 3)]) rfl ⟨rfl, trivial⟩ ?_
      by_cases c16 : v2 < (σ14 223 3)
      · rw [if_pos c16] at hF
        refine q_go C tk_X3_readDigits [(49, 3)] [false] (pc1 := 99) (σ1 := σ14) (lv1 := [(0, .ref 223), (1, .int w), (2, .int v2), (3, .int v3)]) (st1 := [.int 1]) rfl ⟨c16, trivial⟩ ?_
        exact q_zret C hr (q_dc (z := (99, .ireturn, 1, 0, 0)) tk_X3_readDigits 53 rfl) (by decide +kernel) (congrArg Prod.snd hF) (congrArg (fun z => q_oi z.1) hF.symm) (Nat.le_of_ble_eq_true rfl) (Nat.le_of_ble_eq_true rfl)
      · rw [if_neg c16] at hF
        refine q_go C tk_X3_readDigits [(49, 1), (52, 1)] [true] (pc1 := 99) (σ1 := σ14) (lv1 := [(0, .ref 223), (1, .int w), (2, .int v2), (3, .int v3)]) (st1 := [.int 0]) rfl ⟨c16, trivial⟩ ?_
        exact q_zret C hr (q_dc (z := (99, .ireturn, 1, 0, 0)) tk_X3_readDigits 53 rfl) (by decide +kernel) (congrArg Prod.snd hF) (congrArg (fun z => q_oi z.1) hF.symm) (Nat.le_of_ble_eq_true rfl) (Nat.le_of_ble_eq_true rfl)
def F_X3_readDigits (w : Int32) (σ : q_M) : (Int32) × q_M := (FL_X3_readDigits_7 w 5 (σ 223 3) 0 σ)
def P_X3_readDigits (w : Int32) (σ : q_M) : Prop := (PL_X3_readDigits_7 w 5 (σ 223 3) 0 σ)
set_option maxRecDepth 100000 in
theorem k_X3_readDigits {α β : Nat → Nat} {D : va_G} {κ : Nat → ClassId} (w : Int32) (σ : q_M) (hP : P_X3_readDigits w σ) : q_C α β D κ yX3_readDigits cX3_readDigits 4 (Option.some Jvm.ClassFile.FieldType.boolean) 4 96 0 0 [.ref 223, .int w] σ (q_oi (F_X3_readDigits w σ).1) (F_X3_readDigits w σ).2 := by
  refine q_enter (own := RX3) (F := F_X3) (G := G_X3) (by decide +kernel) rfl Fok_X3 Gok_X3 (Nat.le_of_ble_eq_true rfl) (fun p l e s m args below meth c A hfl C hr hT => ?_)
  generalize hF : F_X3_readDigits w σ = rr
  unfold F_X3_readDigits at hF
  refine q_go C tk_X3_readDigits [(0, 5)] [] (pc1 := 7) (σ1 := σ) (lv1 := [(3, .int 0), (2, .int (σ 223 3)), (0, .ref 223), (1, .int w)]) (st1 := []) rfl ⟨rfl, trivial⟩ ?_
  refine q_lvpick [2, 3, 1, 0] (lv' := [(0, .ref 223), (1, .int w), (2, .int (σ 223 3)), (3, .int 0)]) rfl ?_
  exact kl_X3_readDigits_7 w  hfl C hr hT 5 (σ 223 3) 0 σ rr hP hF
theorem zl_X3_readDigits_7 (w : Int32) : ∀ (nn : Nat) (v2 : Int32) (v3 : Int32) (τ : q_M), q_z2 (FL_X3_readDigits_7 w nn v2 v3 τ) := by
  intro nn
  induction nn with
  | zero => intro v2 v3 τ; exact Or.inl rfl
  | succ nn ih =>
    intro v2 v3 τ
    unfold FL_X3_readDigits_7
    refine q_zif _ _ _ _ ?_ ?_
    · refine q_zif _ _ _ _ ?_ ?_
      · refine q_zif _ _ _ _ ?_ ?_
        · refine q_zL _ _ _ (fun σ4 => ?_)
          refine q_zif _ _ _ _ ?_ ?_
          · exact Or.inr rfl
          · exact Or.inl rfl
        · refine q_zL _ _ _ (fun x7 => ?_)
          refine q_zL _ _ _ (fun σ9 => ?_)
          exact ih _ _ _
      · refine q_zL _ _ _ (fun σ11 => ?_)
        refine q_zif _ _ _ _ ?_ ?_
        · exact Or.inr rfl
        · exact Or.inl rfl
    · refine q_zL _ _ _ (fun σ14 => ?_)
      refine q_zif _ _ _ _ ?_ ?_
      · exact Or.inr rfl
      · exact Or.inl rfl
theorem z_X3_readDigits {w : Int32} {σ : q_M} : q_z2 (F_X3_readDigits w σ) := by
  unfold F_X3_readDigits
  exact zl_X3_readDigits_7 _ _ _ _ _
def F_X3_readKind (σ : q_M) : (Int32) × q_M := (q_L (F_X3_readCharacter 108 σ).2 (fun σ1 : q_M => (if (F_X3_readCharacter 108 σ).1 = 0 then (q_L (F_X3_addArgument 1 σ1) (fun σ4 : q_M => (q_L (F_X3_readCharacter 100 σ4).2 (fun σ6 : q_M => ((F_X3_readCharacter 100 σ4).1, σ6))))) else (q_L (F_X3_addArgument 0 σ1) (fun σ8 : q_M => (1, σ8))))))
def P_X3_readKind (σ : q_M) : Prop := ((P_X3_readCharacter 108 σ) ∧ (∀ σ1 : q_M, (F_X3_readCharacter 108 σ).2 = σ1 → (((F_X3_readCharacter 108 σ).1 = 0 → ((P_X3_addArgument 1 σ1) ∧ (∀ σ4 : q_M, (F_X3_addArgument 1 σ1) = σ4 → ((P_X3_readCharacter 100 σ4) ∧ True)))) ∧ (¬ (F_X3_readCharacter 108 σ).1 = 0 → ((P_X3_addArgument 0 σ1) ∧ True)))))
set_option maxRecDepth 100000 in
theorem k_X3_readKind {α β : Nat → Nat} {D : va_G} {κ : Nat → ClassId} (σ : q_M) (hP : P_X3_readKind σ) : q_C α β D κ yX3_readKind cX3_readKind 1 (Option.some Jvm.ClassFile.FieldType.boolean) 5 117 0 0 [.ref 223] σ (q_oi (F_X3_readKind σ).1) (F_X3_readKind σ).2 := by
  refine q_enter (own := RX3) (F := F_X3) (G := G_X3) (by decide +kernel) rfl Fok_X3 Gok_X3 (Nat.le_of_ble_eq_true rfl) (fun p l e s m args below meth c A hfl C hr hT => ?_)
  generalize hF : F_X3_readKind σ = rr
  unfold F_X3_readKind at hF
  refine q_go C tk_X3_readKind [(0, 2)] [] (pc1 := 3) (σ1 := σ) (lv1 := [(0, .ref 223)]) (st1 := [.int 108, .ref 223]) rfl trivial ?_
  refine q_callV C hfl mw_X3_readCharacter mi_X3_readCharacter me_X3_readCharacter lk_X3_49 (k_X3_readCharacter 108 σ hP.1) (rest := []) rfl rfl rfl (by decide) (by decide) rfl (q_dc (z := (3, .invokevirtual 49, 3, 0, 0)) tk_X3_readKind 2 rfl) (Nat.le_of_ble_eq_true rfl) ⟨Nat.le_of_ble_eq_true rfl, Nat.le_of_ble_eq_true rfl⟩ ⟨Nat.le_of_ble_eq_true rfl, Nat.le_of_ble_eq_true rfl⟩ ?_
  refine q_nrm 6 [.int (F_X3_readCharacter 108 σ).1] 0 0 rfl rfl rfl rfl ?_
  generalize e2 : (F_X3_readCharacter 108 σ).2 = σ1
  replace hF := q_let e2 hF
  by_cases c3 : (F_X3_readCharacter 108 σ).1 = 0
  · rw [if_pos c3] at hF
    refine q_go C tk_X3_readKind [(3, 1), (9, 2)] [true] (pc1 := 18) (σ1 := σ1) (lv1 := [(0, .ref 223)]) (st1 := [.int 1, .ref 223]) rfl ⟨c3, trivial⟩ ?_
    refine q_callV C hfl mw_X3_addArgument mi_X3_addArgument me_X3_addArgument lk_X3_95 (k_X3_addArgument 1 σ1 ((hP.2 σ1 e2).1 c3).1) (rest := []) rfl rfl rfl (by decide) (by decide) rfl (q_dc (z := (18, .invokevirtual 95, 3, 0, 0)) tk_X3_readKind 11 rfl) (Nat.le_of_ble_eq_true rfl) ⟨Nat.le_of_ble_eq_true rfl, Nat.le_of_ble_eq_true rfl⟩ ⟨Nat.le_of_ble_eq_true rfl, Nat.le_of_ble_eq_true rfl⟩ ?_
    refine q_nrm 21 [] 0 0 rfl rfl rfl rfl ?_
    generalize e5 : (F_X3_addArgument 1 σ1) = σ4
    replace hF := q_let e5 hF
    refine q_go C tk_X3_readKind [(12, 2)] [] (pc1 := 24) (σ1 := σ4) (lv1 := [(0, .ref 223)]) (st1 := [.int 100, .ref 223]) rfl trivial ?_
    refine q_callV C hfl mw_X3_readCharacter mi_X3_readCharacter me_X3_readCharacter lk_X3_49 (k_X3_readCharacter 100 σ4 (((hP.2 σ1 e2).1 c3).2 σ4 e5).1) (rest := []) rfl rfl rfl (by decide) (by decide) rfl (q_dc (z := (24, .invokevirtual 49, 3, 0, 0)) tk_X3_readKind 14 rfl) (Nat.le_of_ble_eq_true rfl) ⟨Nat.le_of_ble_eq_true rfl, Nat.le_of_ble_eq_true rfl⟩ ⟨Nat.le_of_ble_eq_true rfl, Nat.le_of_ble_eq_true rfl⟩ ?_
    refine q_nrm 27 [.int (F_X3_readCharacter 100 σ4).1] 0 0 rfl rfl rfl rfl ?_
    generalize e7 : (F_X3_readCharacter 100 σ4).2 = σ6
    replace hF := q_let e7 hF
    exact q_zret C hr (q_dc (z := (27, .ireturn, 1, 0, 0)) tk_X3_readKind 15 rfl) (q_zb (z_X3_readCharacter)).1 (congrArg Prod.snd hF) (congrArg (fun z => q_oi z.1) hF.symm) (Nat.le_of_ble_eq_true rfl) (Nat.le_of_ble_eq_true rfl)
  · rw [if_neg c3] at hF
    refine q_go C tk_X3_readKind [(3, 3)] [false] (pc1 := 11) (σ1 := σ1) (lv1 := [(0, .ref 223)]) (st1 := [.int 0, .ref 223]) rfl ⟨c3, trivial⟩ ?_
    refine q_callV C hfl mw_X3_addArgument mi_X3_addArgument me_X3_addArgument lk_X3_95 (k_X3_addArgument 0 σ1 ((hP.2 σ1 e2).2 c3).1) (rest := []) rfl rfl rfl (by decide) (by decide) rfl (q_dc (z := (11, .invokevirtual 95, 3, 0, 0)) tk_X3_readKind 6 rfl) (Nat.le_of_ble_eq_true rfl) ⟨Nat.le_of_ble_eq_true rfl, Nat.le_of_ble_eq_true rfl⟩ ⟨Nat.le_of_ble_eq_true rfl, Nat.le_of_ble_eq_true rfl⟩ ?_
    refine q_nrm 14 [] 0 0 rfl rfl rfl rfl ?_
    generalize e9 : (F_X3_addArgument 0 σ1) = σ8
    replace hF := q_let e9 hF
    refine q_go C tk_X3_readKind [(7, 1)] [] (pc1 := 15) (σ1 := σ8) (lv1 := [(0, .ref 223)]) (st1 := [.int 1]) rfl trivial ?_
    exact q_zret C hr (q_dc (z := (15, .ireturn, 1, 0, 0)) tk_X3_readKind 8 rfl) (by decide +kernel) (congrArg Prod.snd hF) (congrArg (fun z => q_oi z.1) hF.symm) (Nat.le_of_ble_eq_true rfl) (Nat.le_of_ble_eq_true rfl)
theorem z_X3_readKind {σ : q_M} : q_z2 (F_X3_readKind σ) := by
  unfold F_X3_readKind
  refine q_zL _ _ _ (fun σ1 => ?_)
  refine q_zif _ _ _ _ ?_ ?_
  · refine q_zL _ _ _ (fun σ4 => ?_)
    refine q_zL _ _ _ (fun σ6 => ?_)
    exact z_X3_readCharacter
  · refine q_zL _ _ _ (fun σ8 => ?_)
    exact Or.inr rfl
def F_X3_readSign (ch : Int32) (σ : q_M) : (Int32) × q_M := (if ch = 68 then (q_L (F_X3_readDigits 1 σ).2 (fun σ2 : q_M => ((F_X3_readDigits 1 σ).1, σ2))) else (if ch = 78 then (q_L (F_X3_readDigits 3 σ).2 (fun σ5 : q_M => ((F_X3_readDigits 3 σ).1, σ5))) else (if ch = 75 then (q_L (F_X3_readKind σ).2 (fun σ8 : q_M => ((F_X3_readKind σ).1, σ8))) else (q_L (F_X3_readCharacter ch σ).2 (fun σ10 : q_M => ((F_X3_readCharacter ch σ).1, σ10))))))
def P_X3_readSign (ch : Int32) (σ : q_M) : Prop := ((ch = 68 → ((P_X3_readDigits 1 σ) ∧ True)) ∧ (¬ ch = 68 → ((ch = 78 → ((P_X3_readDigits 3 σ) ∧ True)) ∧ (¬ ch = 78 → ((ch = 75 → ((P_X3_readKind σ) ∧ True)) ∧ (¬ ch = 75 → ((P_X3_readCharacter ch σ) ∧ True)))))))
set_option maxRecDepth 100000 in
theorem k_X3_readSign {α β : Nat → Nat} {D : va_G} {κ : Nat → ClassId} (ch : Int32) (σ : q_M) (hP : P_X3_readSign ch σ) : q_C α β D κ yX3_readSign cX3_readSign 2 (Option.some Jvm.ClassFile.FieldType.boolean) 6 137 0 0 [.ref 223, .int ch] σ (q_oi (F_X3_readSign ch σ).1) (F_X3_readSign ch σ).2 := by
  refine q_enter (own := RX3) (F := F_X3) (G := G_X3) (by decide +kernel) rfl Fok_X3 Gok_X3 (Nat.le_of_ble_eq_true rfl) (fun p l e s m args below meth c A hfl C hr hT => ?_)
  generalize hF : F_X3_readSign ch σ = rr
  unfold F_X3_readSign at hF
  refine q_go C tk_X3_readSign [(0, 2)] [] (pc1 := 3) (σ1 := σ) (lv1 := [(0, .ref 223), (1, .int ch)]) (st1 := [.int 68, .int ch]) rfl trivial ?_
  by_cases c1 : ch = 68
  · rw [if_pos c1] at hF
    refine q_go C tk_X3_readSign [(2, 3)] [false] (pc1 := 8) (σ1 := σ) (lv1 := [(0, .ref 223), (1, .int ch)]) (st1 := [.int 1, .ref 223]) rfl ⟨c1, trivial⟩ ?_
    refine q_callV C hfl mw_X3_readDigits mi_X3_readDigits me_X3_readDigits lk_X3_84 (k_X3_readDigits 1 σ (hP.1 c1).1) (rest := []) rfl rfl rfl (by decide) (by decide) rfl (q_dc (z := (8, .invokevirtual 84, 3, 0, 0)) tk_X3_readSign 5 rfl) (Nat.le_of_ble_eq_true rfl) ⟨Nat.le_of_ble_eq_true rfl, Nat.le_of_ble_eq_true rfl⟩ ⟨Nat.le_of_ble_eq_true rfl, Nat.le_of_ble_eq_true rfl⟩ ?_
    refine q_nrm 11 [.int (F_X3_readDigits 1 σ).1] 0 0 rfl rfl rfl rfl ?_
    generalize e3 : (F_X3_readDigits 1 σ).2 = σ2
    replace hF := q_let e3 hF
    exact q_zret C hr (q_dc (z := (11, .ireturn, 1, 0, 0)) tk_X3_readSign 6 rfl) (q_zb (z_X3_readDigits)).1 (congrArg Prod.snd hF) (congrArg (fun z => q_oi z.1) hF.symm) (Nat.le_of_ble_eq_true rfl) (Nat.le_of_ble_eq_true rfl)
  · rw [if_neg c1] at hF
    refine q_go C tk_X3_readSign [(2, 1), (7, 2)] [true] (pc1 := 15) (σ1 := σ) (lv1 := [(0, .ref 223), (1, .int ch)]) (st1 := [.int 78, .int ch]) rfl ⟨c1, trivial⟩ ?_
    by_cases c4 : ch = 78
    · rw [if_pos c4] at hF
      refine q_go C tk_X3_readSign [(9, 3)] [false] (pc1 := 20) (σ1 := σ) (lv1 := [(0, .ref 223), (1, .int ch)]) (st1 := [.int 3, .ref 223]) rfl ⟨c4, trivial⟩ ?_
      refine q_callV C hfl mw_X3_readDigits mi_X3_readDigits me_X3_readDigits lk_X3_84 (k_X3_readDigits 3 σ ((hP.2 c1).1 c4).1) (rest := []) rfl rfl rfl (by decide) (by decide) rfl (q_dc (z := (20, .invokevirtual 84, 3, 0, 0)) tk_X3_readSign 12 rfl) (Nat.le_of_ble_eq_true rfl) ⟨Nat.le_of_ble_eq_true rfl, Nat.le_of_ble_eq_true rfl⟩ ⟨Nat.le_of_ble_eq_true rfl, Nat.le_of_ble_eq_true rfl⟩ ?_
      refine q_nrm 23 [.int (F_X3_readDigits 3 σ).1] 0 0 rfl rfl rfl rfl ?_
      generalize e6 : (F_X3_readDigits 3 σ).2 = σ5
      replace hF := q_let e6 hF
      exact q_zret C hr (q_dc (z := (23, .ireturn, 1, 0, 0)) tk_X3_readSign 13 rfl) (q_zb (z_X3_readDigits)).1 (congrArg Prod.snd hF) (congrArg (fun z => q_oi z.1) hF.symm) (Nat.le_of_ble_eq_true rfl) (Nat.le_of_ble_eq_true rfl)
    · rw [if_neg c4] at hF
      refine q_go C tk_X3_readSign [(9, 1), (14, 2)] [true] (pc1 := 27) (σ1 := σ) (lv1 := [(0, .ref 223), (1, .int ch)]) (st1 := [.int 75, .int ch]) rfl ⟨c4, trivial⟩ ?_
      by_cases c7 : ch = 75
      · rw [if_pos c7] at hF
        refine q_go C tk_X3_readSign [(16, 2)] [false] (pc1 := 31) (σ1 := σ) (lv1 := [(0, .ref 223), (1, .int ch)]) (st1 := [.ref 223]) rfl ⟨c7, trivial⟩ ?_
        refine q_callV C hfl mw_X3_readKind mi_X3_readKind me_X3_readKind lk_X3_88 (k_X3_readKind σ (((hP.2 c1).2 c4).1 c7).1) (rest := []) rfl rfl rfl (by decide) (by decide) rfl (q_dc (z := (31, .invokevirtual 88, 3, 0, 0)) tk_X3_readSign 18 rfl) (Nat.le_of_ble_eq_true rfl) ⟨Nat.le_of_ble_eq_true rfl, Nat.le_of_ble_eq_true rfl⟩ ⟨Nat.le_of_ble_eq_true rfl, Nat.le_of_ble_eq_true rfl⟩ ?_
        refine q_nrm 34 [.int (F_X3_readKind σ).1] 0 0 rfl rfl rfl rfl ?_
        generalize e9 : (F_X3_readKind σ).2 = σ8
        replace hF := q_let e9 hF
        exact q_zret C hr (q_dc (z := (34, .ireturn, 1, 0, 0)) tk_X3_readSign 19 rfl) (q_zb (z_X3_readKind)).1 (congrArg Prod.snd hF) (congrArg (fun z => q_oi z.1) hF.symm) (Nat.le_of_ble_eq_true rfl) (Nat.le_of_ble_eq_true rfl)
      · rw [if_neg c7] at hF
        refine q_go C tk_X3_readSign [(16, 1), (20, 2)] [true] (pc1 := 37) (σ1 := σ) (lv1 := [(0, .ref 223), (1, .int ch)]) (st1 := [.int ch, .ref 223]) rfl ⟨c7, trivial⟩ ?_
        refine q_callV C hfl mw_X3_readCharacter mi_X3_readCharacter me_X3_readCharacter lk_X3_49 (k_X3_readCharacter ch σ (((hP.2 c1).2 c4).2 c7).1) (rest := []) rfl rfl rfl (by decide) (by decide) rfl (q_dc (z := (37, .invokevirtual 49, 3, 0, 0)) tk_X3_readSign 22 rfl) (Nat.le_of_ble_eq_true rfl) ⟨Nat.le_of_ble_eq_true rfl, Nat.le_of_ble_eq_true rfl⟩ ⟨Nat.le_of_ble_eq_true rfl, Nat.le_of_ble_eq_true rfl⟩ ?_
        refine q_nrm 40 [.int (F_X3_readCharacter ch σ).1] 0 0 rfl rfl rfl rfl ?_
        generalize e11 : (F_X3_readCharacter ch σ).2 = σ10
        replace hF := q_let e11 hF
        exact q_zret C hr (q_dc (z := (40, .ireturn, 1, 0, 0)) tk_X3_readSign 23 rfl) (q_zb (z_X3_readCharacter)).1 (congrArg Prod.snd hF) (congrArg (fun z => q_oi z.1) hF.symm) (Nat.le_of_ble_eq_true rfl) (Nat.le_of_ble_eq_true rfl)
theorem z_X3_readSign {ch : Int32} {σ : q_M} : q_z2 (F_X3_readSign ch σ) := by
  unfold F_X3_readSign
  refine q_zif _ _ _ _ ?_ ?_
  · refine q_zL _ _ _ (fun σ2 => ?_)
    exact z_X3_readDigits
  · refine q_zif _ _ _ _ ?_ ?_
    · refine q_zL _ _ _ (fun σ5 => ?_)
      exact z_X3_readDigits
    · refine q_zif _ _ _ _ ?_ ?_
      · refine q_zL _ _ _ (fun σ8 => ?_)
        exact z_X3_readKind
      · refine q_zL _ _ _ (fun σ10 => ?_)
        exact z_X3_readCharacter
def FL_X3_readPattern_12 (w : Nat) (b : Int32) : Nat → Int32 → q_M → (Int32) × q_M
  | 0, v3, τ => (0, τ)
  | nn + 1, v3, τ => (if v3 < (nI (q_sl.getD w 0)) then (q_L (F_X3_readSign (q_ch w (v3).toNatClampNeg) τ).2 (fun σ6 : q_M => (if (F_X3_readSign (q_ch w (v3).toNatClampNeg) τ).1 = 0 then (0, σ6) else (FL_X3_readPattern_12 w b nn (v3 + 1) σ6)))) else (1, τ))
def PL_X3_readPattern_12 (w : Nat) (b : Int32) : Nat → Int32 → q_M → Prop
  | 0, v3, τ => False
  | nn + 1, v3, τ => ((v3 < (nI (q_sl.getD w 0)) → (vp_in v3 (q_sl.getD w 0) ∧ ((P_X3_readSign (q_ch w (v3).toNatClampNeg) τ) ∧ (∀ σ6 : q_M, (F_X3_readSign (q_ch w (v3).toNatClampNeg) τ).2 = σ6 → (((F_X3_readSign (q_ch w (v3).toNatClampNeg) τ).1 = 0 → True) ∧ (¬ (F_X3_readSign (q_ch w (v3).toNatClampNeg) τ).1 = 0 → (PL_X3_readPattern_12 w b nn (v3 + 1) σ6))))))) ∧ (¬ v3 < (nI (q_sl.getD w 0)) → True))
set_option maxRecDepth 100000 in
theorem kl_X3_readPattern_12 {α β : Nat → Nat} {D : va_G} {κ : Nat → ClassId} (w : Nat) (b : Int32) (h_w : w < 16) {p : Program} {l : Launch} {e : Env} {s : State} {m : MethodId} {args : Array Value} {below : List Frame} {meth : Method} {c : Code} {A : Nat → Prop} (hfl : l.flags = flags0) (C : q_Cx α β D κ p s m args meth c cX3_readPattern RX3 F_X3 G_X3 4 A) (hr : meth.sig.returnType = (Option.some Jvm.ClassFile.FieldType.boolean)) (hT : ∀ x ∈ c.exceptionTable.toList, False) : ∀ (nn : Nat) (v3 : Int32) (τ : q_M) (rr : (Int32) × q_M), PL_X3_readPattern_12 w b nn v3 τ → FL_X3_readPattern_12 w b nn v3 τ = rr → q_St α β D κ p l e ({ frames := 7, cells := 0, slots := 0, locals := 158 } : Room) s m args below meth c 4 A (vx_MQ below (q_Qc α β D κ A (q_oi rr.1) rr.2) (q_XC α β D κ A (q_oi rr.1) rr.2) args s 0 0 A) 0 0 τ [(0, .ref 223), (1, .ref (340 + w)), (2, .int b), (3, .int v3)] 12 [] := by
  intro nn
  induction nn with
  | zero => intro v3 τ rr hP; exact hP.elim
  | succ nn ih =>
    intro v3 τ rr hP hF
    unfold FL_X3_readPattern_12 at hF
    refine q_go C tk_X3_readPattern [(8, 2)] [] (pc1 := 14) (σ1 := τ) (lv1 := [(0, .ref 223), (1, .ref (340 + w)), (2, .int b), (3, .int v3)]) (st1 := [.ref (340 + w), .int v3]) rfl trivial ?_
    refine q_callG C hfl mw_J0_length_8abf5 mi_J0_length_8abf5 me_J0_length_8abf5 lk_X3_74 (k_strLen w τ h_w) (rest := [.int v3]) rfl (q_recvK C h_w) rfl (q_dc (z := (14, .invokevirtual 74, 3, 0, 0)) tk_X3_readPattern 10 rfl) (Nat.le_of_ble_eq_true rfl) ⟨Nat.le_of_ble_eq_true rfl, Nat.le_of_ble_eq_true rfl⟩ ⟨Nat.le_of_ble_eq_true rfl, Nat.le_of_ble_eq_true rfl⟩ ?_
    refine q_nrm 17 [.int (nI (q_sl.getD w 0)), .int v3] 0 0 rfl rfl rfl rfl ?_
    by_cases c5 : v3 < (nI (q_sl.getD w 0))
    · rw [if_pos c5] at hF
      refine q_go C tk_X3_readPattern [(11, 4)] [false] (pc1 := 23) (σ1 := τ) (lv1 := [(0, .ref 223), (1, .ref (340 + w)), (2, .int b), (3, .int v3)]) (st1 := [.int v3, .ref (340 + w), .ref 223]) rfl ⟨c5, trivial⟩ ?_
      refine q_callG C hfl mw_J0_charAt_5068e mi_J0_charAt_5068e me_J0_charAt_5068e lk_X3_77 (k_strAt w v3 τ h_w (hP.1 c5).1) (rest := [.ref 223]) rfl (q_recvK C h_w) rfl (q_dc (z := (23, .invokevirtual 77, 3, 0, 0)) tk_X3_readPattern 15 rfl) (Nat.le_of_ble_eq_true rfl) ⟨Nat.le_of_ble_eq_true rfl, Nat.le_of_ble_eq_true rfl⟩ ⟨Nat.le_of_ble_eq_true rfl, Nat.le_of_ble_eq_true rfl⟩ ?_
      refine q_nrm 26 [.int (q_ch w (v3).toNatClampNeg), .ref 223] 0 0 rfl rfl rfl rfl ?_
      refine q_callV C hfl mw_X3_readSign mi_X3_readSign me_X3_readSign lk_X3_81 (k_X3_readSign (q_ch w (v3).toNatClampNeg) τ (hP.1 c5).2.1) (rest := []) rfl rfl rfl (by decide) (by decide) rfl (q_dc (z := (26, .invokevirtual 81, 3, 0, 0)) tk_X3_readPattern 16 rfl) (Nat.le_of_ble_eq_true rfl) ⟨Nat.le_of_ble_eq_true rfl, Nat.le_of_ble_eq_true rfl⟩ ⟨Nat.le_of_ble_eq_true rfl, Nat.le_of_ble_eq_true rfl⟩ ?_
      refine q_nrm 29 [.int (F_X3_readSign (q_ch w (v3).toNatClampNeg) τ).1] 0 0 rfl rfl rfl rfl ?_
      generalize e7 : (F_X3_readSign (q_ch w (v3).toNatClampNeg) τ).2 = σ6
      replace hF := q_let e7 hF
      by_cases c8 : (F_X3_readSign (q_ch w (v3).toNatClampNeg) τ).1 = 0
      · rw [if_pos c8] at hF
        refine q_go C tk_X3_readPattern [(17, 2)] [false] (pc1 := 33) (σ1 := σ6) (lv1 := [(0, .ref 223), (1, .ref (340 + w)), (2, .int b), (3, .int v3)]) (st1 := [.int 0]) rfl ⟨c8, trivial⟩ ?_
        exact q_zret C hr (q_dc (z := (33, .ireturn, 1, 0, 0)) tk_X3_readPattern 19 rfl) (by decide +kernel) (congrArg Prod.snd hF) (congrArg (fun z => q_oi z.1) hF.symm) (Nat.le_of_ble_eq_true rfl) (Nat.le_of_ble_eq_true rfl)
      · rw [if_neg c8] at hF
        refine q_go C tk_X3_readPattern [(17, 1), (20, 2)] [true] (pc1 := 12) (σ1 := σ6) (lv1 := [(3, .int (v3 + 1)), (0, .ref 223), (1, .ref (340 + w)), (2, .int b)]) (st1 := []) rfl ⟨c8, trivial⟩ ?_
        refine q_lvpick [1, 2, 3, 0] (lv' := [(0, .ref 223), (1, .ref (340 + w)), (2, .int b), (3, .int (v3 + 1))]) rfl ?_
        exact ih (v3 + 1) σ6 rr (((hP.1 c5).2.2 σ6 e7).2 c8) hF
    · rw [if_neg c5] at hF
      refine q_go C tk_X3_readPattern [(11, 1), (22, 1)] [true] (pc1 := 41) (σ1 := τ) (lv1 := [(0, .ref 223), (1, .ref (340 + w)), (2, .int b), (3, .int v3)]) (st1 := [.int 1]) rfl ⟨c5, trivial⟩ ?_
      exact q_zret C hr (q_dc (z := (41, .ireturn, 1, 0, 0)) tk_X3_readPattern 23 rfl) (by decide +kernel) (congrArg Prod.snd hF) (congrArg (fun z => q_oi z.1) hF.symm) (Nat.le_of_ble_eq_true rfl) (Nat.le_of_ble_eq_true rfl)
def F_X3_readPattern (w : Nat) (b : Int32) (σ : q_M) : (Int32) × q_M := (q_L (q_up σ 223 3 b) (fun σ1 : q_M => (q_L (q_up σ1 223 2 0) (fun σ3 : q_M => (FL_X3_readPattern_12 w b 14 0 σ3)))))
def P_X3_readPattern (w : Nat) (b : Int32) (σ : q_M) : Prop := (∀ σ1 : q_M, (q_up σ 223 3 b) = σ1 → (∀ σ3 : q_M, (q_up σ1 223 2 0) = σ3 → (PL_X3_readPattern_12 w b 14 0 σ3)))
set_option maxRecDepth 100000 in
theorem k_X3_readPattern {α β : Nat → Nat} {D : va_G} {κ : Nat → ClassId} (w : Nat) (b : Int32) (σ : q_M) (h_w : w < 16) (hP : P_X3_readPattern w b σ) : q_C α β D κ yX3_readPattern cX3_readPattern 4 (Option.some Jvm.ClassFile.FieldType.boolean) 7 158 0 0 [.ref 223, .ref (340 + w), .int b] σ (q_oi (F_X3_readPattern w b σ).1) (F_X3_readPattern w b σ).2 := by
  refine q_enter (own := RX3) (F := F_X3) (G := G_X3) (by decide +kernel) rfl Fok_X3 Gok_X3 (Nat.le_of_ble_eq_true rfl) (fun p l e s m args below meth c A hfl C hr hT => ?_)
  generalize hF : F_X3_readPattern w b σ = rr
  unfold F_X3_readPattern at hF
  refine q_go C tk_X3_readPattern [(0, 3)] [] (pc1 := 5) (σ1 := (q_up σ 223 3 b)) (lv1 := [(0, .ref 223), (1, .ref (340 + w)), (2, .int b)]) (st1 := []) rfl ⟨rfl, trivial⟩ ?_
  generalize e2 : (q_up σ 223 3 b) = σ1
  replace hF := q_let e2 hF
  refine q_go C tk_X3_readPattern [(3, 3)] [] (pc1 := 10) (σ1 := (q_up σ1 223 2 0)) (lv1 := [(0, .ref 223), (1, .ref (340 + w)), (2, .int b)]) (st1 := []) rfl ⟨rfl, trivial⟩ ?_
  generalize e4 : (q_up σ1 223 2 0) = σ3
  replace hF := q_let e4 hF
  refine q_go C tk_X3_readPattern [(6, 2)] [] (pc1 := 12) (σ1 := σ3) (lv1 := [(3, .int 0), (0, .ref 223), (1, .ref (340 + w)), (2, .int b)]) (st1 := []) rfl trivial ?_
  refine q_lvpick [1, 2, 3, 0] (lv' := [(0, .ref 223), (1, .ref (340 + w)), (2, .int b), (3, .int 0)]) rfl ?_
  exact kl_X3_readPattern_12 w b h_w hfl C hr hT 14 0 σ3 rr ((hP σ1 e2) σ3 e4) hF
theorem zl_X3_readPattern_12 (w : Nat) (b : Int32) : ∀ (nn : Nat) (v3 : Int32) (τ : q_M), q_z2 (FL_X3_readPattern_12 w b nn v3 τ) := by
  intro nn
  induction nn with
  | zero => intro v3 τ; exact Or.inl rfl
  | succ nn ih =>
    intro v3 τ
    unfold FL_X3_readPattern_12
    refine q_zif _ _ _ _ ?_ ?_
    · refine q_zL _ _ _ (fun σ6 => ?_)
      refine q_zif _ _ _ _ ?_ ?_
      · exact Or.inl rfl
      · exact ih _ _
    · exact Or.inr rfl
theorem z_X3_readPattern {w : Nat} {b : Int32} {σ : q_M} : q_z2 (F_X3_readPattern w b σ) := by
  unfold F_X3_readPattern
  refine q_zL _ _ _ (fun σ1 => ?_)
  refine q_zL _ _ _ (fun σ3 => ?_)
  exact zl_X3_readPattern_12 _ _ _ _ _
def FL_X3_readNext_36  : Nat → Int32 → Int32 → Int32 → q_M → (Int32) × q_M
  | 0, v1, v2, v5, τ => (0, τ)
  | nn + 1, v1, v2, v5, τ => (if v5 < 8 then (q_L (F_X3_readPattern ((v5 + 20).toUInt32.toNat - 20) v1 τ).2 (fun σ6 : q_M => (if (F_X3_readPattern ((v5 + 20).toUInt32.toNat - 20) v1 τ).1 = 0 then (q_L (q_max v2 (σ6 223 3)) (fun x9 : Int32 => (FL_X3_readNext_36  nn v1 x9 (v5 + 1) σ6))) else (q_L (q_up σ6 223 5 (v5 + 20)) (fun σ11 : q_M => (1, σ11)))))) else (q_L (q_up τ 223 3 v2) (fun σ13 : q_M => (0, σ13))))
def PL_X3_readNext_36  : Nat → Int32 → Int32 → Int32 → q_M → Prop
  | 0, v1, v2, v5, τ => False
  | nn + 1, v1, v2, v5, τ => ((v5 < 8 → (vp_in v5 8 ∧ (q_okV (v5 + 20) ∧ ((P_X3_readPattern ((v5 + 20).toUInt32.toNat - 20) v1 τ) ∧ (∀ σ6 : q_M, (F_X3_readPattern ((v5 + 20).toUInt32.toNat - 20) v1 τ).2 = σ6 → (((F_X3_readPattern ((v5 + 20).toUInt32.toNat - 20) v1 τ).1 = 0 → (∀ x9 : Int32, (q_max v2 (σ6 223 3)) = x9 → (PL_X3_readNext_36  nn v1 x9 (v5 + 1) σ6))) ∧ (¬ (F_X3_readPattern ((v5 + 20).toUInt32.toNat - 20) v1 τ).1 = 0 → True))))))) ∧ (¬ v5 < 8 → True))
set_option maxRecDepth 100000 in
theorem kl_X3_readNext_36 {α β : Nat → Nat} {D : va_G} {κ : Nat → ClassId}  {p : Program} {l : Launch} {e : Env} {s : State} {m : MethodId} {args : Array Value} {below : List Frame} {meth : Method} {c : Code} {A : Nat → Prop} (hfl : l.flags = flags0) (C : q_Cx α β D κ p s m args meth c cX3_readNext RX3 F_X3 G_X3 7 A) (hr : meth.sig.returnType = (Option.some Jvm.ClassFile.FieldType.boolean)) (hT : ∀ x ∈ c.exceptionTable.toList, False) : ∀ (nn : Nat) (v1 : Int32) (v2 : Int32) (v5 : Int32) (τ : q_M) (rr : (Int32) × q_M), PL_X3_readNext_36  nn v1 v2 v5 τ → FL_X3_readNext_36  nn v1 v2 v5 τ = rr → q_St α β D κ p l e ({ frames := 8, cells := 0, slots := 0, locals := 181 } : Room) s m args below meth c 7 A (vx_MQ below (q_Qc α β D κ A (q_oi rr.1) rr.2) (q_XC α β D κ A (q_oi rr.1) rr.2) args s 0 0 A) 0 0 τ [(0, .ref 223), (1, .int v1), (2, .int v2), (3, .ref 330), (4, .int 8), (5, .int v5)] 36 [] := by
  intro nn
  induction nn with
  | zero => intro v1 v2 v5 τ rr hP; exact hP.elim
  | succ nn ih =>
    intro v1 v2 v5 τ rr hP hF
    unfold FL_X3_readNext_36 at hF
    refine q_go C tk_X3_readNext [(21, 2)] [] (pc1 := 40) (σ1 := τ) (lv1 := [(0, .ref 223), (1, .int v1), (2, .int v2), (3, .ref 330), (4, .int 8), (5, .int v5)]) (st1 := [.int 8, .int v5]) rfl trivial ?_
    by_cases c5 : v5 < 8
    · rw [if_pos c5] at hF
      refine q_go C tk_X3_readNext [(23, 3)] [false] (pc1 := 46) (σ1 := τ) (lv1 := [(0, .ref 223), (1, .int v1), (2, .int v2), (3, .ref 330), (4, .int 8), (5, .int v5)]) (st1 := [.int v5, .ref 330]) rfl ⟨c5, trivial⟩ ?_
      refine q_aV C (hP.1 c5).1 (q_dc (z := (46, .aaload, 1, 0, 20)) tk_X3_readNext 26 rfl) ?_
      refine q_nrm 47 [q_e (v5 + 20)] 0 0 rfl rfl rfl rfl ?_
      refine q_go C tk_X3_readNext [(27, 3)] [] (pc1 := 52) (σ1 := τ) (lv1 := [(6, q_e (v5 + 20)), (0, .ref 223), (1, .int v1), (2, .int v2), (3, .ref 330), (4, .int 8), (5, .int v5)]) (st1 := [q_e (v5 + 20), .ref 223]) rfl trivial ?_
      refine q_gP C (hP.1 c5).2.1 (q_dc (z := (52, .getfield 57, 3, 0, 0)) tk_X3_readNext 30 rfl) ?_
      refine q_nrm 55 [.ref (340 + ((v5 + 20).toUInt32.toNat - 20)), .ref 223] 0 0 rfl rfl rfl rfl ?_
      refine q_go C tk_X3_readNext [(31, 1)] [] (pc1 := 56) (σ1 := τ) (lv1 := [(6, q_e (v5 + 20)), (0, .ref 223), (1, .int v1), (2, .int v2), (3, .ref 330), (4, .int 8), (5, .int v5)]) (st1 := [.int v1, .ref (340 + ((v5 + 20).toUInt32.toNat - 20)), .ref 223]) rfl trivial ?_
      refine q_callV C hfl mw_X3_readPattern mi_X3_readPattern me_X3_readPattern lk_X3_61 (k_X3_readPattern ((v5 + 20).toUInt32.toNat - 20) v1 τ (q_okV_i ((hP.1 c5).2.1)) (hP.1 c5).2.2.1) (rest := []) rfl rfl rfl (by decide) (by decide) rfl (q_dc (z := (56, .invokevirtual 61, 3, 0, 0)) tk_X3_readNext 32 rfl) (Nat.le_of_ble_eq_true rfl) ⟨Nat.le_of_ble_eq_true rfl, Nat.le_of_ble_eq_true rfl⟩ ⟨Nat.le_of_ble_eq_true rfl, Nat.le_of_ble_eq_true rfl⟩ ?_
      refine q_nrm 59 [.int (F_X3_readPattern ((v5 + 20).toUInt32.toNat - 20) v1 τ).1] 0 0 rfl rfl rfl rfl ?_
      generalize e7 : (F_X3_readPattern ((v5 + 20).toUInt32.toNat - 20) v1 τ).2 = σ6
      replace hF := q_let e7 hF
      by_cases c8 : (F_X3_readPattern ((v5 + 20).toUInt32.toNat - 20) v1 τ).1 = 0
      · rw [if_pos c8] at hF
        refine q_go C tk_X3_readNext [(33, 1), (39, 3)] [true] (pc1 := 75) (σ1 := σ6) (lv1 := [(6, q_e (v5 + 20)), (0, .ref 223), (1, .int v1), (2, .int v2), (3, .ref 330), (4, .int 8), (5, .int v5)]) (st1 := [.int (σ6 223 3), .int v2]) rfl ⟨c8, rfl, trivial⟩ ?_
        refine q_mmax C lk_X3_65 (q_dc (z := (75, .invokestatic 65, 3, 0, 0)) tk_X3_readNext 42 rfl) (Nat.le_of_ble_eq_true rfl) ⟨Nat.le_of_ble_eq_true rfl, Nat.le_of_ble_eq_true rfl⟩ ⟨Nat.le_of_ble_eq_true rfl, Nat.le_of_ble_eq_true rfl⟩ ?_
        refine q_nrm 78 [.int (q_max v2 (σ6 223 3))] 0 0 rfl rfl rfl rfl ?_
        generalize e10 : (q_max v2 (σ6 223 3)) = x9
        replace hF := q_let e10 hF
        refine q_go C tk_X3_readNext [(43, 3)] [] (pc1 := 36) (σ1 := σ6) (lv1 := [(5, .int (v5 + 1)), (2, .int x9), (6, q_e (v5 + 20)), (0, .ref 223), (1, .int v1), (3, .ref 330), (4, .int 8)]) (st1 := []) rfl trivial ?_
        refine q_lvpick [3, 4, 1, 5, 6, 0] (lv' := [(0, .ref 223), (1, .int v1), (2, .int x9), (3, .ref 330), (4, .int 8), (5, .int (v5 + 1))]) rfl ?_
        exact ih v1 x9 (v5 + 1) σ6 rr ((((hP.1 c5).2.2.2 σ6 e7).1 c8) x9 e10) hF
      · rw [if_neg c8] at hF
        refine q_go C tk_X3_readNext [(33, 4)] [false] (pc1 := 68) (σ1 := (q_up σ6 223 5 (v5 + 20))) (lv1 := [(6, q_e (v5 + 20)), (0, .ref 223), (1, .int v1), (2, .int v2), (3, .ref 330), (4, .int 8), (5, .int v5)]) (st1 := []) rfl ⟨c8, rfl, trivial⟩ ?_
        generalize e12 : (q_up σ6 223 5 (v5 + 20)) = σ11
        replace hF := q_let e12 hF
        refine q_go C tk_X3_readNext [(37, 1)] [] (pc1 := 69) (σ1 := σ11) (lv1 := [(6, q_e (v5 + 20)), (0, .ref 223), (1, .int v1), (2, .int v2), (3, .ref 330), (4, .int 8), (5, .int v5)]) (st1 := [.int 1]) rfl trivial ?_
        exact q_zret C hr (q_dc (z := (69, .ireturn, 1, 0, 0)) tk_X3_readNext 38 rfl) (by decide +kernel) (congrArg Prod.snd hF) (congrArg (fun z => q_oi z.1) hF.symm) (Nat.le_of_ble_eq_true rfl) (Nat.le_of_ble_eq_true rfl)
    · rw [if_neg c5] at hF
      refine q_go C tk_X3_readNext [(23, 1), (46, 3)] [true] (pc1 := 90) (σ1 := (q_up τ 223 3 v2)) (lv1 := [(0, .ref 223), (1, .int v1), (2, .int v2), (3, .ref 330), (4, .int 8), (5, .int v5)]) (st1 := []) rfl ⟨c5, rfl, trivial⟩ ?_
      generalize e14 : (q_up τ 223 3 v2) = σ13
      replace hF := q_let e14 hF
      refine q_go C tk_X3_readNext [(49, 1)] [] (pc1 := 91) (σ1 := σ13) (lv1 := [(0, .ref 223), (1, .int v1), (2, .int v2), (3, .ref 330), (4, .int 8), (5, .int v5)]) (st1 := [.int 0]) rfl trivial ?_
      exact q_zret C hr (q_dc (z := (91, .ireturn, 1, 0, 0)) tk_X3_readNext 50 rfl) (by decide +kernel) (congrArg Prod.snd hF) (congrArg (fun z => q_oi z.1) hF.symm) (Nat.le_of_ble_eq_true rfl) (Nat.le_of_ble_eq_true rfl)
def F_X3_readNext (σ : q_M) : (Int32) × q_M := (if 0 < (σ 223 3) then (q_L (F_X3_readCharacter 59 σ).2 (fun σ2 : q_M => (if (F_X3_readCharacter 59 σ).1 = 0 then (0, σ2) else (FL_X3_readNext_36  10 (σ2 223 3) (σ2 223 3) 0 σ2)))) else (FL_X3_readNext_36  10 (σ 223 3) (σ 223 3) 0 σ))
def P_X3_readNext (σ : q_M) : Prop := ((0 < (σ 223 3) → ((P_X3_readCharacter 59 σ) ∧ (∀ σ2 : q_M, (F_X3_readCharacter 59 σ).2 = σ2 → (((F_X3_readCharacter 59 σ).1 = 0 → True) ∧ (¬ (F_X3_readCharacter 59 σ).1 = 0 → (PL_X3_readNext_36  10 (σ2 223 3) (σ2 223 3) 0 σ2)))))) ∧ (¬ 0 < (σ 223 3) → (PL_X3_readNext_36  10 (σ 223 3) (σ 223 3) 0 σ)))
set_option maxRecDepth 100000 in
theorem k_X3_readNext {α β : Nat → Nat} {D : va_G} {κ : Nat → ClassId} (σ : q_M) (hP : P_X3_readNext σ) : q_C α β D κ yX3_readNext cX3_readNext 7 (Option.some Jvm.ClassFile.FieldType.boolean) 8 181 0 0 [.ref 223] σ (q_oi (F_X3_readNext σ).1) (F_X3_readNext σ).2 := by
  refine q_enter (own := RX3) (F := F_X3) (G := G_X3) (by decide +kernel) rfl Fok_X3 Gok_X3 (Nat.le_of_ble_eq_true rfl) (fun p l e s m args below meth c A hfl C hr hT => ?_)
  generalize hF : F_X3_readNext σ = rr
  unfold F_X3_readNext at hF
  refine q_go C tk_X3_readNext [(0, 2)] [] (pc1 := 4) (σ1 := σ) (lv1 := [(0, .ref 223)]) (st1 := [.int (σ 223 3)]) rfl ⟨rfl, trivial⟩ ?_
  by_cases c1 : 0 < (σ 223 3)
  · rw [if_pos c1] at hF
    refine q_go C tk_X3_readNext [(2, 3)] [false] (pc1 := 10) (σ1 := σ) (lv1 := [(0, .ref 223)]) (st1 := [.int 59, .ref 223]) rfl ⟨c1, trivial⟩ ?_
    refine q_callV C hfl mw_X3_readCharacter mi_X3_readCharacter me_X3_readCharacter lk_X3_49 (k_X3_readCharacter 59 σ (hP.1 c1).1) (rest := []) rfl rfl rfl (by decide) (by decide) rfl (q_dc (z := (10, .invokevirtual 49, 3, 0, 0)) tk_X3_readNext 5 rfl) (Nat.le_of_ble_eq_true rfl) ⟨Nat.le_of_ble_eq_true rfl, Nat.le_of_ble_eq_true rfl⟩ ⟨Nat.le_of_ble_eq_true rfl, Nat.le_of_ble_eq_true rfl⟩ ?_
    refine q_nrm 13 [.int (F_X3_readCharacter 59 σ).1] 0 0 rfl rfl rfl rfl ?_
    generalize e3 : (F_X3_readCharacter 59 σ).2 = σ2
    replace hF := q_let e3 hF
    by_cases c4 : (F_X3_readCharacter 59 σ).1 = 0
    · rw [if_pos c4] at hF
      refine q_go C tk_X3_readNext [(6, 2)] [false] (pc1 := 17) (σ1 := σ2) (lv1 := [(0, .ref 223)]) (st1 := [.int 0]) rfl ⟨c4, trivial⟩ ?_
      exact q_zret C hr (q_dc (z := (17, .ireturn, 1, 0, 0)) tk_X3_readNext 8 rfl) (by decide +kernel) (congrArg Prod.snd hF) (congrArg (fun z => q_oi z.1) hF.symm) (Nat.le_of_ble_eq_true rfl) (Nat.le_of_ble_eq_true rfl)
    · rw [if_neg c4] at hF
      refine q_go C tk_X3_readNext [(6, 1), (9, 5)] [true] (pc1 := 25) (σ1 := σ2) (lv1 := [(2, .int (σ2 223 3)), (1, .int (σ2 223 3)), (0, .ref 223)]) (st1 := []) rfl ⟨c4, rfl, trivial⟩ ?_
      refine q_gV C (q_dc (z := (25, .getstatic 53, 3, 0, 0)) tk_X3_readNext 14 rfl) ?_
      refine q_nrm 28 [.ref 330] 0 0 rfl rfl rfl rfl ?_
      refine q_go C tk_X3_readNext [(15, 2)] [] (pc1 := 30) (σ1 := σ2) (lv1 := [(3, .ref 330), (2, .int (σ2 223 3)), (1, .int (σ2 223 3)), (0, .ref 223)]) (st1 := [.ref 330]) rfl trivial ?_
      refine q_lV C (q_dc (z := (30, .arraylength, 1, 0, 20)) tk_X3_readNext 17 rfl) ?_
      refine q_nrm 31 [.int 8] 0 0 rfl rfl rfl rfl ?_
      refine q_go C tk_X3_readNext [(18, 3)] [] (pc1 := 36) (σ1 := σ2) (lv1 := [(5, .int 0), (4, .int 8), (3, .ref 330), (2, .int (σ2 223 3)), (1, .int (σ2 223 3)), (0, .ref 223)]) (st1 := []) rfl trivial ?_
      refine q_lvpick [5, 4, 3, 2, 1, 0] (lv' := [(0, .ref 223), (1, .int (σ2 223 3)), (2, .int (σ2 223 3)), (3, .ref 330), (4, .int 8), (5, .int 0)]) rfl ?_
      exact kl_X3_readNext_36   hfl C hr hT 10 (σ2 223 3) (σ2 223 3) 0 σ2 rr (((hP.1 c1).2 σ2 e3).2 c4) hF
  · rw [if_neg c1] at hF
    refine q_go C tk_X3_readNext [(2, 1), (9, 5)] [true] (pc1 := 25) (σ1 := σ) (lv1 := [(2, .int (σ 223 3)), (1, .int (σ 223 3)), (0, .ref 223)]) (st1 := []) rfl ⟨c1, rfl, trivial⟩ ?_
    refine q_gV C (q_dc (z := (25, .getstatic 53, 3, 0, 0)) tk_X3_readNext 14 rfl) ?_
    refine q_nrm 28 [.ref 330] 0 0 rfl rfl rfl rfl ?_
    refine q_go C tk_X3_readNext [(15, 2)] [] (pc1 := 30) (σ1 := σ) (lv1 := [(3, .ref 330), (2, .int (σ 223 3)), (1, .int (σ 223 3)), (0, .ref 223)]) (st1 := [.ref 330]) rfl trivial ?_
    refine q_lV C (q_dc (z := (30, .arraylength, 1, 0, 20)) tk_X3_readNext 17 rfl) ?_
    refine q_nrm 31 [.int 8] 0 0 rfl rfl rfl rfl ?_
    refine q_go C tk_X3_readNext [(18, 3)] [] (pc1 := 36) (σ1 := σ) (lv1 := [(5, .int 0), (4, .int 8), (3, .ref 330), (2, .int (σ 223 3)), (1, .int (σ 223 3)), (0, .ref 223)]) (st1 := []) rfl trivial ?_
    refine q_lvpick [5, 4, 3, 2, 1, 0] (lv' := [(0, .ref 223), (1, .int (σ 223 3)), (2, .int (σ 223 3)), (3, .ref 330), (4, .int 8), (5, .int 0)]) rfl ?_
    exact kl_X3_readNext_36   hfl C hr hT 10 (σ 223 3) (σ 223 3) 0 σ rr (hP.2 c1) hF
theorem zl_X3_readNext_36  : ∀ (nn : Nat) (v1 : Int32) (v2 : Int32) (v5 : Int32) (τ : q_M), q_z2 (FL_X3_readNext_36  nn v1 v2 v5 τ) := by
  intro nn
  induction nn with
  | zero => intro v1 v2 v5 τ; exact Or.inl rfl
  | succ nn ih =>
    intro v1 v2 v5 τ
    unfold FL_X3_readNext_36
    refine q_zif _ _ _ _ ?_ ?_
    · refine q_zL _ _ _ (fun σ6 => ?_)
      refine q_zif _ _ _ _ ?_ ?_
      · refine q_zL _ _ _ (fun x9 => ?_)
        exact ih _ _ _ _
      · refine q_zL _ _ _ (fun σ11 => ?_)
        exact Or.inr rfl
    · refine q_zL _ _ _ (fun σ13 => ?_)
      exact Or.inl rfl
theorem z_X3_readNext {σ : q_M} : q_z2 (F_X3_readNext σ) := by
  unfold F_X3_readNext
  refine q_zif _ _ _ _ ?_ ?_
  · refine q_zL _ _ _ (fun σ2 => ?_)
    refine q_zif _ _ _ _ ?_ ?_
    · exact Or.inl rfl
    · exact zl_X3_readNext_36  _ _ _ _ _
  · exact zl_X3_readNext_36  _ _ _ _ _
def FL_X3_findError_9  : Nat → q_M → (Int32) × q_M
  | 0, τ => (0, τ)
  | nn + 1, τ => (if (τ 225 3) < (τ 223 4) then ((τ 223 3), τ) else (q_L (F_X3_readNext τ).2 (fun σ6 : q_M => (if (F_X3_readNext τ).1 = 0 then ((σ6 223 3), σ6) else (q_L (q_up σ6 223 4 ((σ6 223 4) + 1)) (fun σ9 : q_M => (if (σ9 223 3) < (σ9 225 3) then (FL_X3_findError_9  nn  σ9) else ((-1), σ9))))))))
def PL_X3_findError_9  : Nat → q_M → Prop
  | 0, τ => False
  | nn + 1, τ => (((τ 225 3) < (τ 223 4) → True) ∧ (¬ (τ 225 3) < (τ 223 4) → ((P_X3_readNext τ) ∧ (∀ σ6 : q_M, (F_X3_readNext τ).2 = σ6 → (((F_X3_readNext τ).1 = 0 → True) ∧ (¬ (F_X3_readNext τ).1 = 0 → (∀ σ9 : q_M, (q_up σ6 223 4 ((σ6 223 4) + 1)) = σ9 → (((σ9 223 3) < (σ9 225 3) → (PL_X3_findError_9  nn  σ9)) ∧ (¬ (σ9 223 3) < (σ9 225 3) → True)))))))))
set_option maxRecDepth 100000 in
theorem kl_X3_findError_9 {α β : Nat → Nat} {D : va_G} {κ : Nat → ClassId}  {p : Program} {l : Launch} {e : Env} {s : State} {m : MethodId} {args : Array Value} {below : List Frame} {meth : Method} {c : Code} {A : Nat → Prop} (hfl : l.flags = flags0) (C : q_Cx α β D κ p s m args meth c cX3_findError RX3 F_X3 G_X3 1 A) (hr : meth.sig.returnType = (Option.some Jvm.ClassFile.FieldType.int)) (hT : ∀ x ∈ c.exceptionTable.toList, False) : ∀ (nn : Nat) (τ : q_M) (rr : (Int32) × q_M), PL_X3_findError_9  nn  τ → FL_X3_findError_9  nn  τ = rr → q_St α β D κ p l e ({ frames := 9, cells := 0, slots := 0, locals := 207 } : Room) s m args below meth c 1 A (vx_MQ below (q_Qc α β D κ A (q_oi rr.1) rr.2) (q_XC α β D κ A (q_oi rr.1) rr.2) args s 0 0 A) 0 0 τ [(0, .ref 223)] 9 [] := by
  intro nn
  induction nn with
  | zero => intro  τ rr hP; exact hP.elim
  | succ nn ih =>
    intro  τ rr hP hF
    unfold FL_X3_findError_9 at hF
    refine q_go C tk_X3_findError [(5, 4)] [] (pc1 := 17) (σ1 := τ) (lv1 := [(0, .ref 223)]) (st1 := [.ref 225, .int (τ 223 4)]) rfl ⟨rfl, rfl, trivial⟩ ?_
    refine q_callG C hfl mw_J4_length_8abf5 mi_J4_length_8abf5 me_J4_length_8abf5 lk_X3_38 (k_sbLen 225 τ (Or.inl rfl)) (rest := [.int (τ 223 4)]) rfl (q_recvB C (Or.inl rfl)) rfl (q_dc (z := (17, .invokevirtual 38, 3, 0, 0)) tk_X3_findError 9 rfl) (Nat.le_of_ble_eq_true rfl) ⟨Nat.le_of_ble_eq_true rfl, Nat.le_of_ble_eq_true rfl⟩ ⟨Nat.le_of_ble_eq_true rfl, Nat.le_of_ble_eq_true rfl⟩ ?_
    refine q_nrm 20 [.int (τ 225 3), .int (τ 223 4)] 0 0 rfl rfl rfl rfl ?_
    by_cases c5 : (τ 225 3) < (τ 223 4)
    · rw [if_pos c5] at hF
      refine q_go C tk_X3_findError [(10, 1), (31, 2)] [true] (pc1 := 65) (σ1 := τ) (lv1 := [(0, .ref 223)]) (st1 := [.int (τ 223 3)]) rfl ⟨c5, rfl, trivial⟩ ?_
      exact q_iret C hr (q_dc (z := (65, .ireturn, 1, 0, 0)) tk_X3_findError 33 rfl) (congrArg Prod.snd hF) (congrArg (fun z => q_oi z.1) hF.symm) (Nat.le_of_ble_eq_true rfl) (Nat.le_of_ble_eq_true rfl)
    · rw [if_neg c5] at hF
      refine q_go C tk_X3_findError [(10, 2)] [false] (pc1 := 24) (σ1 := τ) (lv1 := [(0, .ref 223)]) (st1 := [.ref 223]) rfl ⟨c5, trivial⟩ ?_
      refine q_callV C hfl mw_X3_readNext mi_X3_readNext me_X3_readNext lk_X3_42 (k_X3_readNext τ (hP.2 c5).1) (rest := []) rfl rfl rfl (by decide) (by decide) rfl (q_dc (z := (24, .invokevirtual 42, 3, 0, 0)) tk_X3_findError 12 rfl) (Nat.le_of_ble_eq_true rfl) ⟨Nat.le_of_ble_eq_true rfl, Nat.le_of_ble_eq_true rfl⟩ ⟨Nat.le_of_ble_eq_true rfl, Nat.le_of_ble_eq_true rfl⟩ ?_
      refine q_nrm 27 [.int (F_X3_readNext τ).1] 0 0 rfl rfl rfl rfl ?_
      generalize e7 : (F_X3_readNext τ).2 = σ6
      replace hF := q_let e7 hF
      by_cases c8 : (F_X3_readNext τ).1 = 0
      · rw [if_pos c8] at hF
        refine q_go C tk_X3_findError [(13, 3)] [false] (pc1 := 34) (σ1 := σ6) (lv1 := [(0, .ref 223)]) (st1 := [.int (σ6 223 3)]) rfl ⟨c8, rfl, trivial⟩ ?_
        exact q_iret C hr (q_dc (z := (34, .ireturn, 1, 0, 0)) tk_X3_findError 16 rfl) (congrArg Prod.snd hF) (congrArg (fun z => q_oi z.1) hF.symm) (Nat.le_of_ble_eq_true rfl) (Nat.le_of_ble_eq_true rfl)
      · rw [if_neg c8] at hF
        refine q_go C tk_X3_findError [(13, 1), (17, 6)] [true] (pc1 := 45) (σ1 := (q_up σ6 223 4 ((σ6 223 4) + 1))) (lv1 := [(0, .ref 223)]) (st1 := []) rfl ⟨c8, rfl, rfl, trivial⟩ ?_
        generalize e10 : (q_up σ6 223 4 ((σ6 223 4) + 1)) = σ9
        replace hF := q_let e10 hF
        refine q_go C tk_X3_findError [(23, 4)] [] (pc1 := 53) (σ1 := σ9) (lv1 := [(0, .ref 223)]) (st1 := [.ref 225, .int (σ9 223 3)]) rfl ⟨rfl, rfl, trivial⟩ ?_
        refine q_callG C hfl mw_J4_length_8abf5 mi_J4_length_8abf5 me_J4_length_8abf5 lk_X3_38 (k_sbLen 225 σ9 (Or.inl rfl)) (rest := [.int (σ9 223 3)]) rfl (q_recvB C (Or.inl rfl)) rfl (q_dc (z := (53, .invokevirtual 38, 3, 0, 0)) tk_X3_findError 27 rfl) (Nat.le_of_ble_eq_true rfl) ⟨Nat.le_of_ble_eq_true rfl, Nat.le_of_ble_eq_true rfl⟩ ⟨Nat.le_of_ble_eq_true rfl, Nat.le_of_ble_eq_true rfl⟩ ?_
        refine q_nrm 56 [.int (σ9 225 3), .int (σ9 223 3)] 0 0 rfl rfl rfl rfl ?_
        by_cases c11 : (σ9 223 3) < (σ9 225 3)
        · rw [if_pos c11] at hF
          refine q_go C tk_X3_findError [(28, 1)] [true] (pc1 := 9) (σ1 := σ9) (lv1 := [(0, .ref 223)]) (st1 := []) rfl ⟨c11, trivial⟩ ?_
          refine q_lvpick [0] (lv' := [(0, .ref 223)]) rfl ?_
          exact ih  σ9 rr (((((hP.2 c5).2 σ6 e7).2 c8) σ9 e10).1 c11) hF
        · rw [if_neg c11] at hF
          refine q_go C tk_X3_findError [(28, 2)] [false] (pc1 := 60) (σ1 := σ9) (lv1 := [(0, .ref 223)]) (st1 := [.int (-1)]) rfl ⟨c11, trivial⟩ ?_
          exact q_iret C hr (q_dc (z := (60, .ireturn, 1, 0, 0)) tk_X3_findError 30 rfl) (congrArg Prod.snd hF) (congrArg (fun z => q_oi z.1) hF.symm) (Nat.le_of_ble_eq_true rfl) (Nat.le_of_ble_eq_true rfl)
def F_X3_findError (σ : q_M) : (Int32) × q_M := (q_L (F_X3_rewind σ) (fun σ1 : q_M => (q_L (q_up σ1 223 4 0) (fun σ3 : q_M => (FL_X3_findError_9  65  σ3)))))
def P_X3_findError (σ : q_M) : Prop := (∀ σ1 : q_M, (F_X3_rewind σ) = σ1 → (∀ σ3 : q_M, (q_up σ1 223 4 0) = σ3 → (PL_X3_findError_9  65  σ3)))
set_option maxRecDepth 100000 in
theorem k_X3_findError {α β : Nat → Nat} {D : va_G} {κ : Nat → ClassId} (σ : q_M) (hP : P_X3_findError σ) : q_C α β D κ yX3_findError cX3_findError 1 (Option.some Jvm.ClassFile.FieldType.int) 9 207 0 0 [.ref 223] σ (q_oi (F_X3_findError σ).1) (F_X3_findError σ).2 := by
  refine q_enter (own := RX3) (F := F_X3) (G := G_X3) (by decide +kernel) rfl Fok_X3 Gok_X3 (Nat.le_of_ble_eq_true rfl) (fun p l e s m args below meth c A hfl C hr hT => ?_)
  generalize hF : F_X3_findError σ = rr
  unfold F_X3_findError at hF
  refine q_go C tk_X3_findError [(0, 1)] [] (pc1 := 1) (σ1 := σ) (lv1 := [(0, .ref 223)]) (st1 := [.ref 223]) rfl trivial ?_
  refine q_callV C hfl mw_X3_rewind mi_X3_rewind me_X3_rewind lk_X3_31 (k_X3_rewind σ) (rest := []) rfl rfl rfl (by decide) (by decide) rfl (q_dc (z := (1, .invokevirtual 31, 3, 0, 0)) tk_X3_findError 1 rfl) (Nat.le_of_ble_eq_true rfl) ⟨Nat.le_of_ble_eq_true rfl, Nat.le_of_ble_eq_true rfl⟩ ⟨Nat.le_of_ble_eq_true rfl, Nat.le_of_ble_eq_true rfl⟩ ?_
  refine q_nrm 4 [] 0 0 rfl rfl rfl rfl ?_
  generalize e2 : (F_X3_rewind σ) = σ1
  replace hF := q_let e2 hF
  refine q_go C tk_X3_findError [(2, 3)] [] (pc1 := 9) (σ1 := (q_up σ1 223 4 0)) (lv1 := [(0, .ref 223)]) (st1 := []) rfl ⟨rfl, trivial⟩ ?_
  generalize e4 : (q_up σ1 223 4 0) = σ3
  replace hF := q_let e4 hF
  refine q_lvpick [0] (lv' := [(0, .ref 223)]) rfl ?_
  exact kl_X3_findError_9   hfl C hr hT 65  σ3 rr ((hP σ1 e2) σ3 e4) hF
