/-! 36.words. -/
theorem q_okV_i {x : Int32} (h : q_okV x) : x.toUInt32.toNat - 20 < 17 := by
  have h2 := h.2
  omega
abbrev q_z1 (r : Int32) : Prop := r = 0 ∨ r = 1
abbrev q_z2 (r : Int32 × q_M) : Prop := r.1 = 0 ∨ r.1 = 1
theorem q_zL {τ α : Type} (P : τ → Prop) (x : α) (f : α → τ) (h : ∀ y, P (f y)) : P (q_L x f) := h x
theorem q_zM {τ : Type} (P : τ → Prop) (x : Int32) (f : Int32 → τ) (hx : q_z1 x) (h : ∀ y, q_z1 y → P (f y)) : P (q_L x f) := h x hx
theorem q_zif {τ : Type} (P : τ → Prop) (c : Prop) [Decidable c] (a b : τ) (ha : P a) (hb : P b) : P (if c then a else b) := by
  by_cases h : c
  · rw [if_pos h]; exact ha
  · rw [if_neg h]; exact hb
def FL_X9_isWord_2 (w : Nat) : Nat → Int32 → q_M → (Int32) × q_M
  | 0, v2, τ => (0, τ)
  | nn + 1, v2, τ => (if v2 < (nI (q_sl.getD w 0)) then (q_L (F_X9_isSign (q_ch w (v2).toNatClampNeg) τ).2 (fun σ2 : q_M => (if (F_X9_isSign (q_ch w (v2).toNatClampNeg) τ).1 = 0 then (0, σ2) else (FL_X9_isWord_2 w nn (v2 + 1) σ2)))) else (1, τ))
def PL_X9_isWord_2 (w : Nat) : Nat → Int32 → q_M → Prop
  | 0, v2, τ => False
  | nn + 1, v2, τ => ((v2 < (nI (q_sl.getD w 0)) → (vp_in v2 (q_sl.getD w 0) ∧ ((P_X9_isSign (q_ch w (v2).toNatClampNeg) τ) ∧ (∀ σ2 : q_M, (F_X9_isSign (q_ch w (v2).toNatClampNeg) τ).2 = σ2 → (((F_X9_isSign (q_ch w (v2).toNatClampNeg) τ).1 = 0 → True) ∧ (¬ (F_X9_isSign (q_ch w (v2).toNatClampNeg) τ).1 = 0 → (PL_X9_isWord_2 w nn (v2 + 1) σ2))))))) ∧ (¬ v2 < (nI (q_sl.getD w 0)) → True))
set_option maxRecDepth 100000 in
theorem kl_X9_isWord_2 {α β : Nat → Nat} {D : va_G} {κ : Nat → ClassId} (w : Nat) (h_w : w < 17) {p : Program} {l : Launch} {e : Env} {s : State} {m : MethodId} {args : Array Value} {below : List Frame} {meth : Method} {c : Code} {A : Nat → Prop} (hfl : l.flags = flags0) (C : q_Cx α β D κ p s m args meth c cX9_isWord RX9 F_X9 G_X9 3 A) (hr : meth.sig.returnType = (Option.some Jvm.ClassFile.FieldType.boolean)) (hT : ∀ x ∈ c.exceptionTable.toList, False) : ∀ (nn : Nat) (v2 : Int32) (τ : q_M) (rr : (Int32) × q_M), PL_X9_isWord_2 w nn v2 τ → FL_X9_isWord_2 w nn v2 τ = rr → q_St α β D κ p l e ({ frames := 4, cells := 0, slots := 0, locals := 91 } : Room) s m args below meth c 3 A (vx_MQ below (q_Qc α β D κ A (q_oi rr.1) rr.2) (q_XC α β D κ A (q_oi rr.1) rr.2) args s 0 0 A) 0 0 τ [(0, .ref 229), (1, .ref (340 + w)), (2, .int v2)] 2 [] := by
  intro nn
  induction nn with
  | zero => intro v2 τ rr hP; exact hP.elim
  | succ nn ih =>
    intro v2 τ rr hP hF
    unfold FL_X9_isWord_2 at hF
    refine q_go C tk_X9_isWord [(2, 2)] [] (pc1 := 4) (σ1 := τ) (lv1 := [(0, .ref 229), (1, .ref (340 + w)), (2, .int v2)]) (st1 := [.ref (340 + w), .int v2]) rfl trivial ?_
    refine q_callG C hfl mw_J0_length_8abf5 mi_J0_length_8abf5 me_J0_length_8abf5 lk_X9_199 (k_strLen w τ h_w) (rest := [.int v2]) rfl (q_recvK C h_w) rfl (q_dc (z := (4, .invokevirtual 199, 3, 0, 0)) tk_X9_isWord 4 rfl) (Nat.le_of_ble_eq_true rfl) ⟨Nat.le_of_ble_eq_true rfl, Nat.le_of_ble_eq_true rfl⟩ ⟨Nat.le_of_ble_eq_true rfl, Nat.le_of_ble_eq_true rfl⟩ ?_
    refine q_nrm 7 [.int (nI (q_sl.getD w 0)), .int v2] 0 0 rfl rfl rfl rfl ?_
    by_cases c1 : v2 < (nI (q_sl.getD w 0))
    · rw [if_pos c1] at hF
      refine q_go C tk_X9_isWord [(5, 4)] [false] (pc1 := 13) (σ1 := τ) (lv1 := [(0, .ref 229), (1, .ref (340 + w)), (2, .int v2)]) (st1 := [.int v2, .ref (340 + w), .ref 229]) rfl ⟨c1, trivial⟩ ?_
      refine q_callG C hfl mw_J0_charAt_5068e mi_J0_charAt_5068e me_J0_charAt_5068e lk_X9_178 (k_strAt w v2 τ h_w (hP.1 c1).1) (rest := [.ref 229]) rfl (q_recvK C h_w) rfl (q_dc (z := (13, .invokevirtual 178, 3, 0, 0)) tk_X9_isWord 9 rfl) (Nat.le_of_ble_eq_true rfl) ⟨Nat.le_of_ble_eq_true rfl, Nat.le_of_ble_eq_true rfl⟩ ⟨Nat.le_of_ble_eq_true rfl, Nat.le_of_ble_eq_true rfl⟩ ?_
      refine q_nrm 16 [.int (q_ch w (v2).toNatClampNeg), .ref 229] 0 0 rfl rfl rfl rfl ?_
      refine q_callV C hfl mw_X9_isSign mi_X9_isSign me_X9_isSign lk_X9_193 (k_X9_isSign (q_ch w (v2).toNatClampNeg) τ (hP.1 c1).2.1) (rest := []) rfl rfl rfl (by decide) (by decide) rfl (q_dc (z := (16, .invokevirtual 193, 3, 0, 0)) tk_X9_isWord 10 rfl) (Nat.le_of_ble_eq_true rfl) ⟨Nat.le_of_ble_eq_true rfl, Nat.le_of_ble_eq_true rfl⟩ ⟨Nat.le_of_ble_eq_true rfl, Nat.le_of_ble_eq_true rfl⟩ ?_
      refine q_nrm 19 [.int (F_X9_isSign (q_ch w (v2).toNatClampNeg) τ).1] 0 0 rfl rfl rfl rfl ?_
      generalize e3 : (F_X9_isSign (q_ch w (v2).toNatClampNeg) τ).2 = σ2
      replace hF := q_let e3 hF
      by_cases c4 : (F_X9_isSign (q_ch w (v2).toNatClampNeg) τ).1 = 0
      · rw [if_pos c4] at hF
        refine q_go C tk_X9_isWord [(11, 2)] [false] (pc1 := 23) (σ1 := σ2) (lv1 := [(0, .ref 229), (1, .ref (340 + w)), (2, .int v2)]) (st1 := [.int 0]) rfl ⟨c4, trivial⟩ ?_
        exact q_zret C hr (q_dc (z := (23, .ireturn, 1, 0, 0)) tk_X9_isWord 13 rfl) (by decide +kernel) (congrArg Prod.snd hF) (congrArg (fun z => q_oi z.1) hF.symm) (Nat.le_of_ble_eq_true rfl) (Nat.le_of_ble_eq_true rfl)
      · rw [if_neg c4] at hF
        refine q_go C tk_X9_isWord [(11, 1), (14, 2)] [true] (pc1 := 2) (σ1 := σ2) (lv1 := [(2, .int (v2 + 1)), (0, .ref 229), (1, .ref (340 + w))]) (st1 := []) rfl ⟨c4, trivial⟩ ?_
        refine q_lvpick [1, 2, 0] (lv' := [(0, .ref 229), (1, .ref (340 + w)), (2, .int (v2 + 1))]) rfl ?_
        exact ih (v2 + 1) σ2 rr (((hP.1 c1).2.2 σ2 e3).2 c4) hF
    · rw [if_neg c1] at hF
      refine q_go C tk_X9_isWord [(5, 1), (16, 1)] [true] (pc1 := 31) (σ1 := τ) (lv1 := [(0, .ref 229), (1, .ref (340 + w)), (2, .int v2)]) (st1 := [.int 1]) rfl ⟨c1, trivial⟩ ?_
      exact q_zret C hr (q_dc (z := (31, .ireturn, 1, 0, 0)) tk_X9_isWord 17 rfl) (by decide +kernel) (congrArg Prod.snd hF) (congrArg (fun z => q_oi z.1) hF.symm) (Nat.le_of_ble_eq_true rfl) (Nat.le_of_ble_eq_true rfl)
def F_X9_isWord (w : Nat) (σ : q_M) : (Int32) × q_M := (FL_X9_isWord_2 w 14 0 σ)
def P_X9_isWord (w : Nat) (σ : q_M) : Prop := (PL_X9_isWord_2 w 14 0 σ)
set_option maxRecDepth 100000 in
theorem k_X9_isWord {α β : Nat → Nat} {D : va_G} {κ : Nat → ClassId} (w : Nat) (σ : q_M) (h_w : w < 17) (hP : P_X9_isWord w σ) : q_C α β D κ yX9_isWord cX9_isWord 3 (Option.some Jvm.ClassFile.FieldType.boolean) 4 91 0 0 [.ref 229, .ref (340 + w)] σ (q_oi (F_X9_isWord w σ).1) (F_X9_isWord w σ).2 := by
  refine q_enter (own := RX9) (F := F_X9) (G := G_X9) (by decide +kernel) rfl Fok_X9 Gok_X9 (Nat.le_of_ble_eq_true rfl) (fun p l e s m args below meth c A hfl C hr hT => ?_)
  generalize hF : F_X9_isWord w σ = rr
  unfold F_X9_isWord at hF
  refine q_go C tk_X9_isWord [(0, 2)] [] (pc1 := 2) (σ1 := σ) (lv1 := [(2, .int 0), (0, .ref 229), (1, .ref (340 + w))]) (st1 := []) rfl trivial ?_
  refine q_lvpick [1, 2, 0] (lv' := [(0, .ref 229), (1, .ref (340 + w)), (2, .int 0)]) rfl ?_
  exact kl_X9_isWord_2 w h_w hfl C hr hT 14 0 σ rr hP hF
theorem zl_X9_isWord_2 (w : Nat) : ∀ (nn : Nat) (v2 : Int32) (τ : q_M), q_z2 (FL_X9_isWord_2 w nn v2 τ) := by
  intro nn
  induction nn with
  | zero => intro v2 τ; exact Or.inl rfl
  | succ nn ih =>
    intro v2 τ
    unfold FL_X9_isWord_2
    refine q_zif _ _ _ _ ?_ ?_
    · refine q_zL _ _ _ (fun σ2 => ?_)
      refine q_zif _ _ _ _ ?_ ?_
      · exact Or.inl rfl
      · exact ih _ _
    · exact Or.inr rfl
theorem z_X9_isWord {w : Nat} {σ : q_M} : q_z2 (F_X9_isWord w σ) := by
  unfold F_X9_isWord
  exact zl_X9_isWord_2 _ _ _ _
def F_X9_readsS (a : Int32) (σ : q_M) : (Int32) × q_M := (q_L (F_X9_isSign 116 σ).2 (fun σ1 : q_M => (if (F_X9_isSign 116 σ).1 = 0 then (q_L (q_up σ1 236 (a).toNatClampNeg 118) (fun σ4 : q_M => (q_L (F_X9_isWord 10 σ4).2 (fun σ6 : q_M => (if (F_X9_isWord 10 σ4).1 = 0 then (0, σ6) else (q_L (F_X9_isSpaced 1 (a + 1) σ6).2 (fun σ9 : q_M => (if (F_X9_isSpaced 1 (a + 1) σ6).1 = 0 then (0, σ9) else (q_L (F_X9_isSpaced 1 (a + 2) σ9).2 (fun σ12 : q_M => (if (F_X9_isSpaced 1 (a + 2) σ9).1 = 0 then (0, σ12) else (q_L (F_X9_isSpaced 3 (a + 3) σ12).2 (fun σ15 : q_M => (if (F_X9_isSpaced 3 (a + 3) σ12).1 = 0 then (0, σ15) else (1, σ15))))))))))))))) else (q_L (F_X9_isWord 9 σ1).2 (fun σ18 : q_M => ((F_X9_isWord 9 σ1).1, σ18))))))
def P_X9_readsS (a : Int32) (σ : q_M) : Prop := ((P_X9_isSign 116 σ) ∧ (∀ σ1 : q_M, (F_X9_isSign 116 σ).2 = σ1 → (((F_X9_isSign 116 σ).1 = 0 → (vp_in a (q_len 236) ∧ (∀ σ4 : q_M, (q_up σ1 236 (a).toNatClampNeg 118) = σ4 → ((P_X9_isWord 10 σ4) ∧ (∀ σ6 : q_M, (F_X9_isWord 10 σ4).2 = σ6 → (((F_X9_isWord 10 σ4).1 = 0 → True) ∧ (¬ (F_X9_isWord 10 σ4).1 = 0 → ((P_X9_isSpaced 1 (a + 1) σ6) ∧ (∀ σ9 : q_M, (F_X9_isSpaced 1 (a + 1) σ6).2 = σ9 → (((F_X9_isSpaced 1 (a + 1) σ6).1 = 0 → True) ∧ (¬ (F_X9_isSpaced 1 (a + 1) σ6).1 = 0 → ((P_X9_isSpaced 1 (a + 2) σ9) ∧ (∀ σ12 : q_M, (F_X9_isSpaced 1 (a + 2) σ9).2 = σ12 → (((F_X9_isSpaced 1 (a + 2) σ9).1 = 0 → True) ∧ (¬ (F_X9_isSpaced 1 (a + 2) σ9).1 = 0 → ((P_X9_isSpaced 3 (a + 3) σ12) ∧ True)))))))))))))))) ∧ (¬ (F_X9_isSign 116 σ).1 = 0 → ((P_X9_isWord 9 σ1) ∧ True)))))
set_option maxRecDepth 100000 in
theorem k_X9_readsS {α β : Nat → Nat} {D : va_G} {κ : Nat → ClassId} (a : Int32) (σ : q_M) (hP : P_X9_readsS a σ) : q_C α β D κ yX9_readsS cX9_readsS 2 (Option.some Jvm.ClassFile.FieldType.boolean) 5 113 0 0 [.ref 229, .int a] σ (q_oi (F_X9_readsS a σ).1) (F_X9_readsS a σ).2 := by
  refine q_enter (own := RX9) (F := F_X9) (G := G_X9) (by decide +kernel) rfl Fok_X9 Gok_X9 (Nat.le_of_ble_eq_true rfl) (fun p l e s m args below meth c A hfl C hr hT => ?_)
  generalize hF : F_X9_readsS a σ = rr
  unfold F_X9_readsS at hF
  refine q_go C tk_X9_readsS [(0, 2)] [] (pc1 := 3) (σ1 := σ) (lv1 := [(0, .ref 229), (1, .int a)]) (st1 := [.int 116, .ref 229]) rfl trivial ?_
  refine q_callV C hfl mw_X9_isSign mi_X9_isSign me_X9_isSign lk_X9_193 (k_X9_isSign 116 σ hP.1) (rest := []) rfl rfl rfl (by decide) (by decide) rfl (q_dc (z := (3, .invokevirtual 193, 3, 0, 0)) tk_X9_readsS 2 rfl) (Nat.le_of_ble_eq_true rfl) ⟨Nat.le_of_ble_eq_true rfl, Nat.le_of_ble_eq_true rfl⟩ ⟨Nat.le_of_ble_eq_true rfl, Nat.le_of_ble_eq_true rfl⟩ ?_
  refine q_nrm 6 [.int (F_X9_isSign 116 σ).1] 0 0 rfl rfl rfl rfl ?_
  generalize e2 : (F_X9_isSign 116 σ).2 = σ1
  replace hF := q_let e2 hF
  by_cases c3 : (F_X9_isSign 116 σ).1 = 0
  · rw [if_pos c3] at hF
    refine q_go C tk_X9_readsS [(3, 1), (8, 6)] [true] (pc1 := 25) (σ1 := (q_up σ1 236 (a).toNatClampNeg 118)) (lv1 := [(0, .ref 229), (1, .int a)]) (st1 := [.ref 229]) rfl ⟨c3, rfl, rfl, ((hP.2 σ1 e2).1 c3).1, trivial⟩ ?_
    refine q_ldcS (i := 2) C (by decide) rfl (q_dc (z := (25, .ldc 208, 2, 0, 0)) tk_X9_readsS 14 rfl) ?_
    refine q_nrm 27 [.ref 350, .ref 229] 0 0 rfl rfl rfl rfl ?_
    generalize e5 : (q_up σ1 236 (a).toNatClampNeg 118) = σ4
    replace hF := q_let e5 hF
    refine q_callV C hfl mw_X9_isWord mi_X9_isWord me_X9_isWord lk_X9_204 (k_X9_isWord 10 σ4 (by decide) (((hP.2 σ1 e2).1 c3).2 σ4 e5).1) (rest := []) rfl rfl rfl (by decide) (by decide) rfl (q_dc (z := (27, .invokevirtual 204, 3, 0, 0)) tk_X9_readsS 15 rfl) (Nat.le_of_ble_eq_true rfl) ⟨Nat.le_of_ble_eq_true rfl, Nat.le_of_ble_eq_true rfl⟩ ⟨Nat.le_of_ble_eq_true rfl, Nat.le_of_ble_eq_true rfl⟩ ?_
    refine q_nrm 30 [.int (F_X9_isWord 10 σ4).1] 0 0 rfl rfl rfl rfl ?_
    generalize e7 : (F_X9_isWord 10 σ4).2 = σ6
    replace hF := q_let e7 hF
    by_cases c8 : (F_X9_isWord 10 σ4).1 = 0
    · rw [if_pos c8] at hF
      refine q_go C tk_X9_readsS [(16, 1), (40, 1)] [true] (pc1 := 71) (σ1 := σ6) (lv1 := [(0, .ref 229), (1, .int a)]) (st1 := [.int 0]) rfl ⟨c8, trivial⟩ ?_
      exact q_zret C hr (q_dc (z := (71, .ireturn, 1, 0, 0)) tk_X9_readsS 41 rfl) (by decide +kernel) (congrArg Prod.snd hF) (congrArg (fun z => q_oi z.1) hF.symm) (Nat.le_of_ble_eq_true rfl) (Nat.le_of_ble_eq_true rfl)
    · rw [if_neg c8] at hF
      refine q_go C tk_X9_readsS [(16, 6)] [false] (pc1 := 38) (σ1 := σ6) (lv1 := [(0, .ref 229), (1, .int a)]) (st1 := [.int (a + 1), .int 1, .ref 229]) rfl ⟨c8, trivial⟩ ?_
      refine q_callV C hfl mw_X9_isSpaced mi_X9_isSpaced me_X9_isSpaced lk_X9_210 (k_X9_isSpaced 1 (a + 1) σ6 (((((hP.2 σ1 e2).1 c3).2 σ4 e5).2 σ6 e7).2 c8).1) (rest := []) rfl rfl rfl (by decide) (by decide) rfl (q_dc (z := (38, .invokevirtual 210, 3, 0, 0)) tk_X9_readsS 22 rfl) (Nat.le_of_ble_eq_true rfl) ⟨Nat.le_of_ble_eq_true rfl, Nat.le_of_ble_eq_true rfl⟩ ⟨Nat.le_of_ble_eq_true rfl, Nat.le_of_ble_eq_true rfl⟩ ?_
      refine q_nrm 41 [.int (F_X9_isSpaced 1 (a + 1) σ6).1] 0 0 rfl rfl rfl rfl ?_
      generalize e10 : (F_X9_isSpaced 1 (a + 1) σ6).2 = σ9
      replace hF := q_let e10 hF
      by_cases c11 : (F_X9_isSpaced 1 (a + 1) σ6).1 = 0
      · rw [if_pos c11] at hF
        refine q_go C tk_X9_readsS [(23, 1), (40, 1)] [true] (pc1 := 71) (σ1 := σ9) (lv1 := [(0, .ref 229), (1, .int a)]) (st1 := [.int 0]) rfl ⟨c11, trivial⟩ ?_
        exact q_zret C hr (q_dc (z := (71, .ireturn, 1, 0, 0)) tk_X9_readsS 41 rfl) (by decide +kernel) (congrArg Prod.snd hF) (congrArg (fun z => q_oi z.1) hF.symm) (Nat.le_of_ble_eq_true rfl) (Nat.le_of_ble_eq_true rfl)
      · rw [if_neg c11] at hF
        refine q_go C tk_X9_readsS [(23, 6)] [false] (pc1 := 49) (σ1 := σ9) (lv1 := [(0, .ref 229), (1, .int a)]) (st1 := [.int (a + 2), .int 1, .ref 229]) rfl ⟨c11, trivial⟩ ?_
        refine q_callV C hfl mw_X9_isSpaced mi_X9_isSpaced me_X9_isSpaced lk_X9_210 (k_X9_isSpaced 1 (a + 2) σ9 (((((((hP.2 σ1 e2).1 c3).2 σ4 e5).2 σ6 e7).2 c8).2 σ9 e10).2 c11).1) (rest := []) rfl rfl rfl (by decide) (by decide) rfl (q_dc (z := (49, .invokevirtual 210, 3, 0, 0)) tk_X9_readsS 29 rfl) (Nat.le_of_ble_eq_true rfl) ⟨Nat.le_of_ble_eq_true rfl, Nat.le_of_ble_eq_true rfl⟩ ⟨Nat.le_of_ble_eq_true rfl, Nat.le_of_ble_eq_true rfl⟩ ?_
        refine q_nrm 52 [.int (F_X9_isSpaced 1 (a + 2) σ9).1] 0 0 rfl rfl rfl rfl ?_
        generalize e13 : (F_X9_isSpaced 1 (a + 2) σ9).2 = σ12
        replace hF := q_let e13 hF
        by_cases c14 : (F_X9_isSpaced 1 (a + 2) σ9).1 = 0
        · rw [if_pos c14] at hF
          refine q_go C tk_X9_readsS [(30, 1), (40, 1)] [true] (pc1 := 71) (σ1 := σ12) (lv1 := [(0, .ref 229), (1, .int a)]) (st1 := [.int 0]) rfl ⟨c14, trivial⟩ ?_
          exact q_zret C hr (q_dc (z := (71, .ireturn, 1, 0, 0)) tk_X9_readsS 41 rfl) (by decide +kernel) (congrArg Prod.snd hF) (congrArg (fun z => q_oi z.1) hF.symm) (Nat.le_of_ble_eq_true rfl) (Nat.le_of_ble_eq_true rfl)
        · rw [if_neg c14] at hF
          refine q_go C tk_X9_readsS [(30, 6)] [false] (pc1 := 60) (σ1 := σ12) (lv1 := [(0, .ref 229), (1, .int a)]) (st1 := [.int (a + 3), .int 3, .ref 229]) rfl ⟨c14, trivial⟩ ?_
          refine q_callV C hfl mw_X9_isSpaced mi_X9_isSpaced me_X9_isSpaced lk_X9_210 (k_X9_isSpaced 3 (a + 3) σ12 (((((((((hP.2 σ1 e2).1 c3).2 σ4 e5).2 σ6 e7).2 c8).2 σ9 e10).2 c11).2 σ12 e13).2 c14).1) (rest := []) rfl rfl rfl (by decide) (by decide) rfl (q_dc (z := (60, .invokevirtual 210, 3, 0, 0)) tk_X9_readsS 36 rfl) (Nat.le_of_ble_eq_true rfl) ⟨Nat.le_of_ble_eq_true rfl, Nat.le_of_ble_eq_true rfl⟩ ⟨Nat.le_of_ble_eq_true rfl, Nat.le_of_ble_eq_true rfl⟩ ?_
          refine q_nrm 63 [.int (F_X9_isSpaced 3 (a + 3) σ12).1] 0 0 rfl rfl rfl rfl ?_
          generalize e16 : (F_X9_isSpaced 3 (a + 3) σ12).2 = σ15
          replace hF := q_let e16 hF
          by_cases c17 : (F_X9_isSpaced 3 (a + 3) σ12).1 = 0
          · rw [if_pos c17] at hF
            refine q_go C tk_X9_readsS [(37, 1), (40, 1)] [true] (pc1 := 71) (σ1 := σ15) (lv1 := [(0, .ref 229), (1, .int a)]) (st1 := [.int 0]) rfl ⟨c17, trivial⟩ ?_
            exact q_zret C hr (q_dc (z := (71, .ireturn, 1, 0, 0)) tk_X9_readsS 41 rfl) (by decide +kernel) (congrArg Prod.snd hF) (congrArg (fun z => q_oi z.1) hF.symm) (Nat.le_of_ble_eq_true rfl) (Nat.le_of_ble_eq_true rfl)
          · rw [if_neg c17] at hF
            refine q_go C tk_X9_readsS [(37, 3)] [false] (pc1 := 71) (σ1 := σ15) (lv1 := [(0, .ref 229), (1, .int a)]) (st1 := [.int 1]) rfl ⟨c17, trivial⟩ ?_
            exact q_zret C hr (q_dc (z := (71, .ireturn, 1, 0, 0)) tk_X9_readsS 41 rfl) (by decide +kernel) (congrArg Prod.snd hF) (congrArg (fun z => q_oi z.1) hF.symm) (Nat.le_of_ble_eq_true rfl) (Nat.le_of_ble_eq_true rfl)
  · rw [if_neg c3] at hF
    refine q_go C tk_X9_readsS [(3, 2)] [false] (pc1 := 10) (σ1 := σ1) (lv1 := [(0, .ref 229), (1, .int a)]) (st1 := [.ref 229]) rfl ⟨c3, trivial⟩ ?_
    refine q_ldcS (i := 1) C (by decide) rfl (q_dc (z := (10, .ldc 202, 2, 0, 0)) tk_X9_readsS 5 rfl) ?_
    refine q_nrm 12 [.ref 349, .ref 229] 0 0 rfl rfl rfl rfl ?_
    refine q_callV C hfl mw_X9_isWord mi_X9_isWord me_X9_isWord lk_X9_204 (k_X9_isWord 9 σ1 (by decide) ((hP.2 σ1 e2).2 c3).1) (rest := []) rfl rfl rfl (by decide) (by decide) rfl (q_dc (z := (12, .invokevirtual 204, 3, 0, 0)) tk_X9_readsS 6 rfl) (Nat.le_of_ble_eq_true rfl) ⟨Nat.le_of_ble_eq_true rfl, Nat.le_of_ble_eq_true rfl⟩ ⟨Nat.le_of_ble_eq_true rfl, Nat.le_of_ble_eq_true rfl⟩ ?_
    refine q_nrm 15 [.int (F_X9_isWord 9 σ1).1] 0 0 rfl rfl rfl rfl ?_
    generalize e19 : (F_X9_isWord 9 σ1).2 = σ18
    replace hF := q_let e19 hF
    exact q_zret C hr (q_dc (z := (15, .ireturn, 1, 0, 0)) tk_X9_readsS 7 rfl) (q_zb (z_X9_isWord)).1 (congrArg Prod.snd hF) (congrArg (fun z => q_oi z.1) hF.symm) (Nat.le_of_ble_eq_true rfl) (Nat.le_of_ble_eq_true rfl)
theorem z_X9_readsS {a : Int32} {σ : q_M} : q_z2 (F_X9_readsS a σ) := by
  unfold F_X9_readsS
  refine q_zL _ _ _ (fun σ1 => ?_)
  refine q_zif _ _ _ _ ?_ ?_
  · refine q_zL _ _ _ (fun σ4 => ?_)
    refine q_zL _ _ _ (fun σ6 => ?_)
    refine q_zif _ _ _ _ ?_ ?_
    · exact Or.inl rfl
    · refine q_zL _ _ _ (fun σ9 => ?_)
      refine q_zif _ _ _ _ ?_ ?_
      · exact Or.inl rfl
      · refine q_zL _ _ _ (fun σ12 => ?_)
        refine q_zif _ _ _ _ ?_ ?_
        · exact Or.inl rfl
        · refine q_zL _ _ _ (fun σ15 => ?_)
          refine q_zif _ _ _ _ ?_ ?_
          · exact Or.inl rfl
          · exact Or.inr rfl
  · refine q_zL _ _ _ (fun σ18 => ?_)
    exact z_X9_isWord
def F_X9_readsP (a : Int32) (σ : q_M) : (Int32) × q_M := (q_L (F_X9_isSign 97 σ).2 (fun σ1 : q_M => (if (F_X9_isSign 97 σ).1 = 0 then (q_L (q_up σ1 236 (a).toNatClampNeg 111) (fun σ4 : q_M => (q_L (F_X9_isWord 12 σ4).2 (fun σ6 : q_M => (if (F_X9_isWord 12 σ4).1 = 0 then (0, σ6) else (q_L (F_X9_isSpaced 1 (a + 1) σ6).2 (fun σ9 : q_M => (if (F_X9_isSpaced 1 (a + 1) σ6).1 = 0 then (0, σ9) else (q_L (F_X9_isNumber 1 (a + 2) σ9).2 (fun σ12 : q_M => (if (F_X9_isNumber 1 (a + 2) σ9).1 = 0 then (0, σ12) else (q_L (F_X9_isKind (a + 3) σ12).2 (fun σ15 : q_M => (if (F_X9_isKind (a + 3) σ12).1 = 0 then (0, σ15) else (1, σ15))))))))))))))) else (q_L (F_X9_isWord 11 σ1).2 (fun σ18 : q_M => (if (F_X9_isWord 11 σ1).1 = 0 then (0, σ18) else (q_L (F_X9_isSpaced 1 (a + 1) σ18).2 (fun σ21 : q_M => (if (F_X9_isSpaced 1 (a + 1) σ18).1 = 0 then (0, σ21) else (1, σ21))))))))))
def P_X9_readsP (a : Int32) (σ : q_M) : Prop := ((P_X9_isSign 97 σ) ∧ (∀ σ1 : q_M, (F_X9_isSign 97 σ).2 = σ1 → (((F_X9_isSign 97 σ).1 = 0 → (vp_in a (q_len 236) ∧ (∀ σ4 : q_M, (q_up σ1 236 (a).toNatClampNeg 111) = σ4 → ((P_X9_isWord 12 σ4) ∧ (∀ σ6 : q_M, (F_X9_isWord 12 σ4).2 = σ6 → (((F_X9_isWord 12 σ4).1 = 0 → True) ∧ (¬ (F_X9_isWord 12 σ4).1 = 0 → ((P_X9_isSpaced 1 (a + 1) σ6) ∧ (∀ σ9 : q_M, (F_X9_isSpaced 1 (a + 1) σ6).2 = σ9 → (((F_X9_isSpaced 1 (a + 1) σ6).1 = 0 → True) ∧ (¬ (F_X9_isSpaced 1 (a + 1) σ6).1 = 0 → ((P_X9_isNumber 1 (a + 2) σ9) ∧ (∀ σ12 : q_M, (F_X9_isNumber 1 (a + 2) σ9).2 = σ12 → (((F_X9_isNumber 1 (a + 2) σ9).1 = 0 → True) ∧ (¬ (F_X9_isNumber 1 (a + 2) σ9).1 = 0 → ((P_X9_isKind (a + 3) σ12) ∧ True)))))))))))))))) ∧ (¬ (F_X9_isSign 97 σ).1 = 0 → ((P_X9_isWord 11 σ1) ∧ (∀ σ18 : q_M, (F_X9_isWord 11 σ1).2 = σ18 → (((F_X9_isWord 11 σ1).1 = 0 → True) ∧ (¬ (F_X9_isWord 11 σ1).1 = 0 → ((P_X9_isSpaced 1 (a + 1) σ18) ∧ True)))))))))
set_option maxRecDepth 100000 in
theorem k_X9_readsP {α β : Nat → Nat} {D : va_G} {κ : Nat → ClassId} (a : Int32) (σ : q_M) (hP : P_X9_readsP a σ) : q_C α β D κ yX9_readsP cX9_readsP 2 (Option.some Jvm.ClassFile.FieldType.boolean) 5 113 0 0 [.ref 229, .int a] σ (q_oi (F_X9_readsP a σ).1) (F_X9_readsP a σ).2 := by
  refine q_enter (own := RX9) (F := F_X9) (G := G_X9) (by decide +kernel) rfl Fok_X9 Gok_X9 (Nat.le_of_ble_eq_true rfl) (fun p l e s m args below meth c A hfl C hr hT => ?_)
  generalize hF : F_X9_readsP a σ = rr
  unfold F_X9_readsP at hF
  refine q_go C tk_X9_readsP [(0, 2)] [] (pc1 := 3) (σ1 := σ) (lv1 := [(0, .ref 229), (1, .int a)]) (st1 := [.int 97, .ref 229]) rfl trivial ?_
  refine q_callV C hfl mw_X9_isSign mi_X9_isSign me_X9_isSign lk_X9_193 (k_X9_isSign 97 σ hP.1) (rest := []) rfl rfl rfl (by decide) (by decide) rfl (q_dc (z := (3, .invokevirtual 193, 3, 0, 0)) tk_X9_readsP 2 rfl) (Nat.le_of_ble_eq_true rfl) ⟨Nat.le_of_ble_eq_true rfl, Nat.le_of_ble_eq_true rfl⟩ ⟨Nat.le_of_ble_eq_true rfl, Nat.le_of_ble_eq_true rfl⟩ ?_
  refine q_nrm 6 [.int (F_X9_isSign 97 σ).1] 0 0 rfl rfl rfl rfl ?_
  generalize e2 : (F_X9_isSign 97 σ).2 = σ1
  replace hF := q_let e2 hF
  by_cases c3 : (F_X9_isSign 97 σ).1 = 0
  · rw [if_pos c3] at hF
    refine q_go C tk_X9_readsP [(3, 1), (19, 6)] [true] (pc1 := 44) (σ1 := (q_up σ1 236 (a).toNatClampNeg 111)) (lv1 := [(0, .ref 229), (1, .int a)]) (st1 := [.ref 229]) rfl ⟨c3, rfl, rfl, ((hP.2 σ1 e2).1 c3).1, trivial⟩ ?_
    refine q_ldcS (i := 4) C (by decide) rfl (q_dc (z := (44, .ldc 215, 2, 0, 0)) tk_X9_readsP 25 rfl) ?_
    refine q_nrm 46 [.ref 352, .ref 229] 0 0 rfl rfl rfl rfl ?_
    generalize e5 : (q_up σ1 236 (a).toNatClampNeg 111) = σ4
    replace hF := q_let e5 hF
    refine q_callV C hfl mw_X9_isWord mi_X9_isWord me_X9_isWord lk_X9_204 (k_X9_isWord 12 σ4 (by decide) (((hP.2 σ1 e2).1 c3).2 σ4 e5).1) (rest := []) rfl rfl rfl (by decide) (by decide) rfl (q_dc (z := (46, .invokevirtual 204, 3, 0, 0)) tk_X9_readsP 26 rfl) (Nat.le_of_ble_eq_true rfl) ⟨Nat.le_of_ble_eq_true rfl, Nat.le_of_ble_eq_true rfl⟩ ⟨Nat.le_of_ble_eq_true rfl, Nat.le_of_ble_eq_true rfl⟩ ?_
    refine q_nrm 49 [.int (F_X9_isWord 12 σ4).1] 0 0 rfl rfl rfl rfl ?_
    generalize e7 : (F_X9_isWord 12 σ4).2 = σ6
    replace hF := q_let e7 hF
    by_cases c8 : (F_X9_isWord 12 σ4).1 = 0
    · rw [if_pos c8] at hF
      refine q_go C tk_X9_readsP [(27, 1), (50, 1)] [true] (pc1 := 89) (σ1 := σ6) (lv1 := [(0, .ref 229), (1, .int a)]) (st1 := [.int 0]) rfl ⟨c8, trivial⟩ ?_
      exact q_zret C hr (q_dc (z := (89, .ireturn, 1, 0, 0)) tk_X9_readsP 51 rfl) (by decide +kernel) (congrArg Prod.snd hF) (congrArg (fun z => q_oi z.1) hF.symm) (Nat.le_of_ble_eq_true rfl) (Nat.le_of_ble_eq_true rfl)
    · rw [if_neg c8] at hF
      refine q_go C tk_X9_readsP [(27, 6)] [false] (pc1 := 57) (σ1 := σ6) (lv1 := [(0, .ref 229), (1, .int a)]) (st1 := [.int (a + 1), .int 1, .ref 229]) rfl ⟨c8, trivial⟩ ?_
      refine q_callV C hfl mw_X9_isSpaced mi_X9_isSpaced me_X9_isSpaced lk_X9_210 (k_X9_isSpaced 1 (a + 1) σ6 (((((hP.2 σ1 e2).1 c3).2 σ4 e5).2 σ6 e7).2 c8).1) (rest := []) rfl rfl rfl (by decide) (by decide) rfl (q_dc (z := (57, .invokevirtual 210, 3, 0, 0)) tk_X9_readsP 33 rfl) (Nat.le_of_ble_eq_true rfl) ⟨Nat.le_of_ble_eq_true rfl, Nat.le_of_ble_eq_true rfl⟩ ⟨Nat.le_of_ble_eq_true rfl, Nat.le_of_ble_eq_true rfl⟩ ?_
      refine q_nrm 60 [.int (F_X9_isSpaced 1 (a + 1) σ6).1] 0 0 rfl rfl rfl rfl ?_
      generalize e10 : (F_X9_isSpaced 1 (a + 1) σ6).2 = σ9
      replace hF := q_let e10 hF
      by_cases c11 : (F_X9_isSpaced 1 (a + 1) σ6).1 = 0
      · rw [if_pos c11] at hF
        refine q_go C tk_X9_readsP [(34, 1), (50, 1)] [true] (pc1 := 89) (σ1 := σ9) (lv1 := [(0, .ref 229), (1, .int a)]) (st1 := [.int 0]) rfl ⟨c11, trivial⟩ ?_
        exact q_zret C hr (q_dc (z := (89, .ireturn, 1, 0, 0)) tk_X9_readsP 51 rfl) (by decide +kernel) (congrArg Prod.snd hF) (congrArg (fun z => q_oi z.1) hF.symm) (Nat.le_of_ble_eq_true rfl) (Nat.le_of_ble_eq_true rfl)
      · rw [if_neg c11] at hF
        refine q_go C tk_X9_readsP [(34, 6)] [false] (pc1 := 68) (σ1 := σ9) (lv1 := [(0, .ref 229), (1, .int a)]) (st1 := [.int (a + 2), .int 1, .ref 229]) rfl ⟨c11, trivial⟩ ?_
        refine q_callV C hfl mw_X9_isNumber mi_X9_isNumber me_X9_isNumber lk_X9_196 (k_X9_isNumber 1 (a + 2) σ9 (((((((hP.2 σ1 e2).1 c3).2 σ4 e5).2 σ6 e7).2 c8).2 σ9 e10).2 c11).1) (rest := []) rfl rfl rfl (by decide) (by decide) rfl (q_dc (z := (68, .invokevirtual 196, 3, 0, 0)) tk_X9_readsP 40 rfl) (Nat.le_of_ble_eq_true rfl) ⟨Nat.le_of_ble_eq_true rfl, Nat.le_of_ble_eq_true rfl⟩ ⟨Nat.le_of_ble_eq_true rfl, Nat.le_of_ble_eq_true rfl⟩ ?_
        refine q_nrm 71 [.int (F_X9_isNumber 1 (a + 2) σ9).1] 0 0 rfl rfl rfl rfl ?_
        generalize e13 : (F_X9_isNumber 1 (a + 2) σ9).2 = σ12
        replace hF := q_let e13 hF
        by_cases c14 : (F_X9_isNumber 1 (a + 2) σ9).1 = 0
        · rw [if_pos c14] at hF
          refine q_go C tk_X9_readsP [(41, 1), (50, 1)] [true] (pc1 := 89) (σ1 := σ12) (lv1 := [(0, .ref 229), (1, .int a)]) (st1 := [.int 0]) rfl ⟨c14, trivial⟩ ?_
          exact q_zret C hr (q_dc (z := (89, .ireturn, 1, 0, 0)) tk_X9_readsP 51 rfl) (by decide +kernel) (congrArg Prod.snd hF) (congrArg (fun z => q_oi z.1) hF.symm) (Nat.le_of_ble_eq_true rfl) (Nat.le_of_ble_eq_true rfl)
        · rw [if_neg c14] at hF
          refine q_go C tk_X9_readsP [(41, 5)] [false] (pc1 := 78) (σ1 := σ12) (lv1 := [(0, .ref 229), (1, .int a)]) (st1 := [.int (a + 3), .ref 229]) rfl ⟨c14, trivial⟩ ?_
          refine q_callV C hfl mw_X9_isKind mi_X9_isKind me_X9_isKind lk_X9_217 (k_X9_isKind (a + 3) σ12 (((((((((hP.2 σ1 e2).1 c3).2 σ4 e5).2 σ6 e7).2 c8).2 σ9 e10).2 c11).2 σ12 e13).2 c14).1) (rest := []) rfl rfl rfl (by decide) (by decide) rfl (q_dc (z := (78, .invokevirtual 217, 3, 0, 0)) tk_X9_readsP 46 rfl) (Nat.le_of_ble_eq_true rfl) ⟨Nat.le_of_ble_eq_true rfl, Nat.le_of_ble_eq_true rfl⟩ ⟨Nat.le_of_ble_eq_true rfl, Nat.le_of_ble_eq_true rfl⟩ ?_
          refine q_nrm 81 [.int (F_X9_isKind (a + 3) σ12).1] 0 0 rfl rfl rfl rfl ?_
          generalize e16 : (F_X9_isKind (a + 3) σ12).2 = σ15
          replace hF := q_let e16 hF
          by_cases c17 : (F_X9_isKind (a + 3) σ12).1 = 0
          · rw [if_pos c17] at hF
            refine q_go C tk_X9_readsP [(47, 1), (50, 1)] [true] (pc1 := 89) (σ1 := σ15) (lv1 := [(0, .ref 229), (1, .int a)]) (st1 := [.int 0]) rfl ⟨c17, trivial⟩ ?_
            exact q_zret C hr (q_dc (z := (89, .ireturn, 1, 0, 0)) tk_X9_readsP 51 rfl) (by decide +kernel) (congrArg Prod.snd hF) (congrArg (fun z => q_oi z.1) hF.symm) (Nat.le_of_ble_eq_true rfl) (Nat.le_of_ble_eq_true rfl)
          · rw [if_neg c17] at hF
            refine q_go C tk_X9_readsP [(47, 3)] [false] (pc1 := 89) (σ1 := σ15) (lv1 := [(0, .ref 229), (1, .int a)]) (st1 := [.int 1]) rfl ⟨c17, trivial⟩ ?_
            exact q_zret C hr (q_dc (z := (89, .ireturn, 1, 0, 0)) tk_X9_readsP 51 rfl) (by decide +kernel) (congrArg Prod.snd hF) (congrArg (fun z => q_oi z.1) hF.symm) (Nat.le_of_ble_eq_true rfl) (Nat.le_of_ble_eq_true rfl)
  · rw [if_neg c3] at hF
    refine q_go C tk_X9_readsP [(3, 2)] [false] (pc1 := 10) (σ1 := σ1) (lv1 := [(0, .ref 229), (1, .int a)]) (st1 := [.ref 229]) rfl ⟨c3, trivial⟩ ?_
    refine q_ldcS (i := 3) C (by decide) rfl (q_dc (z := (10, .ldc 213, 2, 0, 0)) tk_X9_readsP 5 rfl) ?_
    refine q_nrm 12 [.ref 351, .ref 229] 0 0 rfl rfl rfl rfl ?_
    refine q_callV C hfl mw_X9_isWord mi_X9_isWord me_X9_isWord lk_X9_204 (k_X9_isWord 11 σ1 (by decide) ((hP.2 σ1 e2).2 c3).1) (rest := []) rfl rfl rfl (by decide) (by decide) rfl (q_dc (z := (12, .invokevirtual 204, 3, 0, 0)) tk_X9_readsP 6 rfl) (Nat.le_of_ble_eq_true rfl) ⟨Nat.le_of_ble_eq_true rfl, Nat.le_of_ble_eq_true rfl⟩ ⟨Nat.le_of_ble_eq_true rfl, Nat.le_of_ble_eq_true rfl⟩ ?_
    refine q_nrm 15 [.int (F_X9_isWord 11 σ1).1] 0 0 rfl rfl rfl rfl ?_
    generalize e19 : (F_X9_isWord 11 σ1).2 = σ18
    replace hF := q_let e19 hF
    by_cases c20 : (F_X9_isWord 11 σ1).1 = 0
    · rw [if_pos c20] at hF
      refine q_go C tk_X9_readsP [(7, 1), (17, 1)] [true] (pc1 := 34) (σ1 := σ18) (lv1 := [(0, .ref 229), (1, .int a)]) (st1 := [.int 0]) rfl ⟨c20, trivial⟩ ?_
      exact q_zret C hr (q_dc (z := (34, .ireturn, 1, 0, 0)) tk_X9_readsP 18 rfl) (by decide +kernel) (congrArg Prod.snd hF) (congrArg (fun z => q_oi z.1) hF.symm) (Nat.le_of_ble_eq_true rfl) (Nat.le_of_ble_eq_true rfl)
    · rw [if_neg c20] at hF
      refine q_go C tk_X9_readsP [(7, 6)] [false] (pc1 := 23) (σ1 := σ18) (lv1 := [(0, .ref 229), (1, .int a)]) (st1 := [.int (a + 1), .int 1, .ref 229]) rfl ⟨c20, trivial⟩ ?_
      refine q_callV C hfl mw_X9_isSpaced mi_X9_isSpaced me_X9_isSpaced lk_X9_210 (k_X9_isSpaced 1 (a + 1) σ18 ((((hP.2 σ1 e2).2 c3).2 σ18 e19).2 c20).1) (rest := []) rfl rfl rfl (by decide) (by decide) rfl (q_dc (z := (23, .invokevirtual 210, 3, 0, 0)) tk_X9_readsP 13 rfl) (Nat.le_of_ble_eq_true rfl) ⟨Nat.le_of_ble_eq_true rfl, Nat.le_of_ble_eq_true rfl⟩ ⟨Nat.le_of_ble_eq_true rfl, Nat.le_of_ble_eq_true rfl⟩ ?_
      refine q_nrm 26 [.int (F_X9_isSpaced 1 (a + 1) σ18).1] 0 0 rfl rfl rfl rfl ?_
      generalize e22 : (F_X9_isSpaced 1 (a + 1) σ18).2 = σ21
      replace hF := q_let e22 hF
      by_cases c23 : (F_X9_isSpaced 1 (a + 1) σ18).1 = 0
      · rw [if_pos c23] at hF
        refine q_go C tk_X9_readsP [(14, 1), (17, 1)] [true] (pc1 := 34) (σ1 := σ21) (lv1 := [(0, .ref 229), (1, .int a)]) (st1 := [.int 0]) rfl ⟨c23, trivial⟩ ?_
        exact q_zret C hr (q_dc (z := (34, .ireturn, 1, 0, 0)) tk_X9_readsP 18 rfl) (by decide +kernel) (congrArg Prod.snd hF) (congrArg (fun z => q_oi z.1) hF.symm) (Nat.le_of_ble_eq_true rfl) (Nat.le_of_ble_eq_true rfl)
      · rw [if_neg c23] at hF
        refine q_go C tk_X9_readsP [(14, 3)] [false] (pc1 := 34) (σ1 := σ21) (lv1 := [(0, .ref 229), (1, .int a)]) (st1 := [.int 1]) rfl ⟨c23, trivial⟩ ?_
        exact q_zret C hr (q_dc (z := (34, .ireturn, 1, 0, 0)) tk_X9_readsP 18 rfl) (by decide +kernel) (congrArg Prod.snd hF) (congrArg (fun z => q_oi z.1) hF.symm) (Nat.le_of_ble_eq_true rfl) (Nat.le_of_ble_eq_true rfl)
theorem z_X9_readsP {a : Int32} {σ : q_M} : q_z2 (F_X9_readsP a σ) := by
  unfold F_X9_readsP
  refine q_zL _ _ _ (fun σ1 => ?_)
  refine q_zif _ _ _ _ ?_ ?_
  · refine q_zL _ _ _ (fun σ4 => ?_)
    refine q_zL _ _ _ (fun σ6 => ?_)
    refine q_zif _ _ _ _ ?_ ?_
    · exact Or.inl rfl
    · refine q_zL _ _ _ (fun σ9 => ?_)
      refine q_zif _ _ _ _ ?_ ?_
      · exact Or.inl rfl
      · refine q_zL _ _ _ (fun σ12 => ?_)
        refine q_zif _ _ _ _ ?_ ?_
        · exact Or.inl rfl
        · refine q_zL _ _ _ (fun σ15 => ?_)
          refine q_zif _ _ _ _ ?_ ?_
          · exact Or.inl rfl
          · exact Or.inr rfl
  · refine q_zL _ _ _ (fun σ18 => ?_)
    refine q_zif _ _ _ _ ?_ ?_
    · exact Or.inl rfl
    · refine q_zL _ _ _ (fun σ21 => ?_)
      refine q_zif _ _ _ _ ?_ ?_
      · exact Or.inl rfl
      · exact Or.inr rfl
def F_X9_readsD (a : Int32) (σ : q_M) : (Int32) × q_M := (q_L (F_X9_isSign 114 σ).2 (fun σ1 : q_M => (if (F_X9_isSign 114 σ).1 = 0 then (0, σ1) else (q_L (F_X9_isSign 111 σ1).2 (fun σ4 : q_M => (if (F_X9_isSign 111 σ1).1 = 0 then (q_L (q_up σ4 236 (a).toNatClampNeg 119) (fun σ7 : q_M => (q_L (F_X9_isWord 14 σ7).2 (fun σ9 : q_M => (if (F_X9_isWord 14 σ7).1 = 0 then (0, σ9) else (q_L (F_X9_isSpaced 3 (a + 1) σ9).2 (fun σ12 : q_M => (if (F_X9_isSpaced 3 (a + 1) σ9).1 = 0 then (0, σ12) else (1, σ12))))))))) else (q_L (F_X9_isWord 13 σ4).2 (fun σ15 : q_M => (if (F_X9_isWord 13 σ4).1 = 0 then (0, σ15) else (q_L (F_X9_isSpaced 1 (a + 1) σ15).2 (fun σ18 : q_M => (if (F_X9_isSpaced 1 (a + 1) σ15).1 = 0 then (0, σ18) else (q_L (F_X9_isSpaced 3 (a + 2) σ18).2 (fun σ21 : q_M => (if (F_X9_isSpaced 3 (a + 2) σ18).1 = 0 then (0, σ21) else (1, σ21))))))))))))))))
def P_X9_readsD (a : Int32) (σ : q_M) : Prop := ((P_X9_isSign 114 σ) ∧ (∀ σ1 : q_M, (F_X9_isSign 114 σ).2 = σ1 → (((F_X9_isSign 114 σ).1 = 0 → True) ∧ (¬ (F_X9_isSign 114 σ).1 = 0 → ((P_X9_isSign 111 σ1) ∧ (∀ σ4 : q_M, (F_X9_isSign 111 σ1).2 = σ4 → (((F_X9_isSign 111 σ1).1 = 0 → (vp_in a (q_len 236) ∧ (∀ σ7 : q_M, (q_up σ4 236 (a).toNatClampNeg 119) = σ7 → ((P_X9_isWord 14 σ7) ∧ (∀ σ9 : q_M, (F_X9_isWord 14 σ7).2 = σ9 → (((F_X9_isWord 14 σ7).1 = 0 → True) ∧ (¬ (F_X9_isWord 14 σ7).1 = 0 → ((P_X9_isSpaced 3 (a + 1) σ9) ∧ True)))))))) ∧ (¬ (F_X9_isSign 111 σ1).1 = 0 → ((P_X9_isWord 13 σ4) ∧ (∀ σ15 : q_M, (F_X9_isWord 13 σ4).2 = σ15 → (((F_X9_isWord 13 σ4).1 = 0 → True) ∧ (¬ (F_X9_isWord 13 σ4).1 = 0 → ((P_X9_isSpaced 1 (a + 1) σ15) ∧ (∀ σ18 : q_M, (F_X9_isSpaced 1 (a + 1) σ15).2 = σ18 → (((F_X9_isSpaced 1 (a + 1) σ15).1 = 0 → True) ∧ (¬ (F_X9_isSpaced 1 (a + 1) σ15).1 = 0 → ((P_X9_isSpaced 3 (a + 2) σ18) ∧ True)))))))))))))))))
set_option maxRecDepth 100000 in
theorem k_X9_readsD {α β : Nat → Nat} {D : va_G} {κ : Nat → ClassId} (a : Int32) (σ : q_M) (hP : P_X9_readsD a σ) : q_C α β D κ yX9_readsD cX9_readsD 2 (Option.some Jvm.ClassFile.FieldType.boolean) 5 113 0 0 [.ref 229, .int a] σ (q_oi (F_X9_readsD a σ).1) (F_X9_readsD a σ).2 := by
  refine q_enter (own := RX9) (F := F_X9) (G := G_X9) (by decide +kernel) rfl Fok_X9 Gok_X9 (Nat.le_of_ble_eq_true rfl) (fun p l e s m args below meth c A hfl C hr hT => ?_)
  generalize hF : F_X9_readsD a σ = rr
  unfold F_X9_readsD at hF
  refine q_go C tk_X9_readsD [(0, 2)] [] (pc1 := 3) (σ1 := σ) (lv1 := [(0, .ref 229), (1, .int a)]) (st1 := [.int 114, .ref 229]) rfl trivial ?_
  refine q_callV C hfl mw_X9_isSign mi_X9_isSign me_X9_isSign lk_X9_193 (k_X9_isSign 114 σ hP.1) (rest := []) rfl rfl rfl (by decide) (by decide) rfl (q_dc (z := (3, .invokevirtual 193, 3, 0, 0)) tk_X9_readsD 2 rfl) (Nat.le_of_ble_eq_true rfl) ⟨Nat.le_of_ble_eq_true rfl, Nat.le_of_ble_eq_true rfl⟩ ⟨Nat.le_of_ble_eq_true rfl, Nat.le_of_ble_eq_true rfl⟩ ?_
  refine q_nrm 6 [.int (F_X9_isSign 114 σ).1] 0 0 rfl rfl rfl rfl ?_
  generalize e2 : (F_X9_isSign 114 σ).2 = σ1
  replace hF := q_let e2 hF
  by_cases c3 : (F_X9_isSign 114 σ).1 = 0
  · rw [if_pos c3] at hF
    refine q_go C tk_X9_readsD [(3, 2)] [false] (pc1 := 10) (σ1 := σ1) (lv1 := [(0, .ref 229), (1, .int a)]) (st1 := [.int 0]) rfl ⟨c3, trivial⟩ ?_
    exact q_zret C hr (q_dc (z := (10, .ireturn, 1, 0, 0)) tk_X9_readsD 5 rfl) (by decide +kernel) (congrArg Prod.snd hF) (congrArg (fun z => q_oi z.1) hF.symm) (Nat.le_of_ble_eq_true rfl) (Nat.le_of_ble_eq_true rfl)
  · rw [if_neg c3] at hF
    refine q_go C tk_X9_readsD [(3, 1), (6, 2)] [true] (pc1 := 14) (σ1 := σ1) (lv1 := [(0, .ref 229), (1, .int a)]) (st1 := [.int 111, .ref 229]) rfl ⟨c3, trivial⟩ ?_
    refine q_callV C hfl mw_X9_isSign mi_X9_isSign me_X9_isSign lk_X9_193 (k_X9_isSign 111 σ1 ((hP.2 σ1 e2).2 c3).1) (rest := []) rfl rfl rfl (by decide) (by decide) rfl (q_dc (z := (14, .invokevirtual 193, 3, 0, 0)) tk_X9_readsD 8 rfl) (Nat.le_of_ble_eq_true rfl) ⟨Nat.le_of_ble_eq_true rfl, Nat.le_of_ble_eq_true rfl⟩ ⟨Nat.le_of_ble_eq_true rfl, Nat.le_of_ble_eq_true rfl⟩ ?_
    refine q_nrm 17 [.int (F_X9_isSign 111 σ1).1] 0 0 rfl rfl rfl rfl ?_
    generalize e5 : (F_X9_isSign 111 σ1).2 = σ4
    replace hF := q_let e5 hF
    by_cases c6 : (F_X9_isSign 111 σ1).1 = 0
    · rw [if_pos c6] at hF
      refine q_go C tk_X9_readsD [(9, 1), (32, 6)] [true] (pc1 := 66) (σ1 := (q_up σ4 236 (a).toNatClampNeg 119)) (lv1 := [(0, .ref 229), (1, .int a)]) (st1 := [.ref 229]) rfl ⟨c6, rfl, rfl, ((((hP.2 σ1 e2).2 c3).2 σ4 e5).1 c6).1, trivial⟩ ?_
      refine q_ldcS (i := 6) C (by decide) rfl (q_dc (z := (66, .ldc 222, 2, 0, 0)) tk_X9_readsD 38 rfl) ?_
      refine q_nrm 68 [.ref 354, .ref 229] 0 0 rfl rfl rfl rfl ?_
      generalize e8 : (q_up σ4 236 (a).toNatClampNeg 119) = σ7
      replace hF := q_let e8 hF
      refine q_callV C hfl mw_X9_isWord mi_X9_isWord me_X9_isWord lk_X9_204 (k_X9_isWord 14 σ7 (by decide) (((((hP.2 σ1 e2).2 c3).2 σ4 e5).1 c6).2 σ7 e8).1) (rest := []) rfl rfl rfl (by decide) (by decide) rfl (q_dc (z := (68, .invokevirtual 204, 3, 0, 0)) tk_X9_readsD 39 rfl) (Nat.le_of_ble_eq_true rfl) ⟨Nat.le_of_ble_eq_true rfl, Nat.le_of_ble_eq_true rfl⟩ ⟨Nat.le_of_ble_eq_true rfl, Nat.le_of_ble_eq_true rfl⟩ ?_
      refine q_nrm 71 [.int (F_X9_isWord 14 σ7).1] 0 0 rfl rfl rfl rfl ?_
      generalize e10 : (F_X9_isWord 14 σ7).2 = σ9
      replace hF := q_let e10 hF
      by_cases c11 : (F_X9_isWord 14 σ7).1 = 0
      · rw [if_pos c11] at hF
        refine q_go C tk_X9_readsD [(40, 1), (50, 1)] [true] (pc1 := 90) (σ1 := σ9) (lv1 := [(0, .ref 229), (1, .int a)]) (st1 := [.int 0]) rfl ⟨c11, trivial⟩ ?_
        exact q_zret C hr (q_dc (z := (90, .ireturn, 1, 0, 0)) tk_X9_readsD 51 rfl) (by decide +kernel) (congrArg Prod.snd hF) (congrArg (fun z => q_oi z.1) hF.symm) (Nat.le_of_ble_eq_true rfl) (Nat.le_of_ble_eq_true rfl)
      · rw [if_neg c11] at hF
        refine q_go C tk_X9_readsD [(40, 6)] [false] (pc1 := 79) (σ1 := σ9) (lv1 := [(0, .ref 229), (1, .int a)]) (st1 := [.int (a + 1), .int 3, .ref 229]) rfl ⟨c11, trivial⟩ ?_
        refine q_callV C hfl mw_X9_isSpaced mi_X9_isSpaced me_X9_isSpaced lk_X9_210 (k_X9_isSpaced 3 (a + 1) σ9 (((((((hP.2 σ1 e2).2 c3).2 σ4 e5).1 c6).2 σ7 e8).2 σ9 e10).2 c11).1) (rest := []) rfl rfl rfl (by decide) (by decide) rfl (q_dc (z := (79, .invokevirtual 210, 3, 0, 0)) tk_X9_readsD 46 rfl) (Nat.le_of_ble_eq_true rfl) ⟨Nat.le_of_ble_eq_true rfl, Nat.le_of_ble_eq_true rfl⟩ ⟨Nat.le_of_ble_eq_true rfl, Nat.le_of_ble_eq_true rfl⟩ ?_
        refine q_nrm 82 [.int (F_X9_isSpaced 3 (a + 1) σ9).1] 0 0 rfl rfl rfl rfl ?_
        generalize e13 : (F_X9_isSpaced 3 (a + 1) σ9).2 = σ12
        replace hF := q_let e13 hF
        by_cases c14 : (F_X9_isSpaced 3 (a + 1) σ9).1 = 0
        · rw [if_pos c14] at hF
          refine q_go C tk_X9_readsD [(47, 1), (50, 1)] [true] (pc1 := 90) (σ1 := σ12) (lv1 := [(0, .ref 229), (1, .int a)]) (st1 := [.int 0]) rfl ⟨c14, trivial⟩ ?_
          exact q_zret C hr (q_dc (z := (90, .ireturn, 1, 0, 0)) tk_X9_readsD 51 rfl) (by decide +kernel) (congrArg Prod.snd hF) (congrArg (fun z => q_oi z.1) hF.symm) (Nat.le_of_ble_eq_true rfl) (Nat.le_of_ble_eq_true rfl)
        · rw [if_neg c14] at hF
          refine q_go C tk_X9_readsD [(47, 3)] [false] (pc1 := 90) (σ1 := σ12) (lv1 := [(0, .ref 229), (1, .int a)]) (st1 := [.int 1]) rfl ⟨c14, trivial⟩ ?_
          exact q_zret C hr (q_dc (z := (90, .ireturn, 1, 0, 0)) tk_X9_readsD 51 rfl) (by decide +kernel) (congrArg Prod.snd hF) (congrArg (fun z => q_oi z.1) hF.symm) (Nat.le_of_ble_eq_true rfl) (Nat.le_of_ble_eq_true rfl)
    · rw [if_neg c6] at hF
      refine q_go C tk_X9_readsD [(9, 2)] [false] (pc1 := 21) (σ1 := σ4) (lv1 := [(0, .ref 229), (1, .int a)]) (st1 := [.ref 229]) rfl ⟨c6, trivial⟩ ?_
      refine q_ldcS (i := 5) C (by decide) rfl (q_dc (z := (21, .ldc 220, 2, 0, 0)) tk_X9_readsD 11 rfl) ?_
      refine q_nrm 23 [.ref 353, .ref 229] 0 0 rfl rfl rfl rfl ?_
      refine q_callV C hfl mw_X9_isWord mi_X9_isWord me_X9_isWord lk_X9_204 (k_X9_isWord 13 σ4 (by decide) ((((hP.2 σ1 e2).2 c3).2 σ4 e5).2 c6).1) (rest := []) rfl rfl rfl (by decide) (by decide) rfl (q_dc (z := (23, .invokevirtual 204, 3, 0, 0)) tk_X9_readsD 12 rfl) (Nat.le_of_ble_eq_true rfl) ⟨Nat.le_of_ble_eq_true rfl, Nat.le_of_ble_eq_true rfl⟩ ⟨Nat.le_of_ble_eq_true rfl, Nat.le_of_ble_eq_true rfl⟩ ?_
      refine q_nrm 26 [.int (F_X9_isWord 13 σ4).1] 0 0 rfl rfl rfl rfl ?_
      generalize e16 : (F_X9_isWord 13 σ4).2 = σ15
      replace hF := q_let e16 hF
      by_cases c17 : (F_X9_isWord 13 σ4).1 = 0
      · rw [if_pos c17] at hF
        refine q_go C tk_X9_readsD [(13, 1), (30, 1)] [true] (pc1 := 56) (σ1 := σ15) (lv1 := [(0, .ref 229), (1, .int a)]) (st1 := [.int 0]) rfl ⟨c17, trivial⟩ ?_
        exact q_zret C hr (q_dc (z := (56, .ireturn, 1, 0, 0)) tk_X9_readsD 31 rfl) (by decide +kernel) (congrArg Prod.snd hF) (congrArg (fun z => q_oi z.1) hF.symm) (Nat.le_of_ble_eq_true rfl) (Nat.le_of_ble_eq_true rfl)
      · rw [if_neg c17] at hF
        refine q_go C tk_X9_readsD [(13, 6)] [false] (pc1 := 34) (σ1 := σ15) (lv1 := [(0, .ref 229), (1, .int a)]) (st1 := [.int (a + 1), .int 1, .ref 229]) rfl ⟨c17, trivial⟩ ?_
        refine q_callV C hfl mw_X9_isSpaced mi_X9_isSpaced me_X9_isSpaced lk_X9_210 (k_X9_isSpaced 1 (a + 1) σ15 ((((((hP.2 σ1 e2).2 c3).2 σ4 e5).2 c6).2 σ15 e16).2 c17).1) (rest := []) rfl rfl rfl (by decide) (by decide) rfl (q_dc (z := (34, .invokevirtual 210, 3, 0, 0)) tk_X9_readsD 19 rfl) (Nat.le_of_ble_eq_true rfl) ⟨Nat.le_of_ble_eq_true rfl, Nat.le_of_ble_eq_true rfl⟩ ⟨Nat.le_of_ble_eq_true rfl, Nat.le_of_ble_eq_true rfl⟩ ?_
        refine q_nrm 37 [.int (F_X9_isSpaced 1 (a + 1) σ15).1] 0 0 rfl rfl rfl rfl ?_
        generalize e19 : (F_X9_isSpaced 1 (a + 1) σ15).2 = σ18
        replace hF := q_let e19 hF
        by_cases c20 : (F_X9_isSpaced 1 (a + 1) σ15).1 = 0
        · rw [if_pos c20] at hF
          refine q_go C tk_X9_readsD [(20, 1), (30, 1)] [true] (pc1 := 56) (σ1 := σ18) (lv1 := [(0, .ref 229), (1, .int a)]) (st1 := [.int 0]) rfl ⟨c20, trivial⟩ ?_
          exact q_zret C hr (q_dc (z := (56, .ireturn, 1, 0, 0)) tk_X9_readsD 31 rfl) (by decide +kernel) (congrArg Prod.snd hF) (congrArg (fun z => q_oi z.1) hF.symm) (Nat.le_of_ble_eq_true rfl) (Nat.le_of_ble_eq_true rfl)
        · rw [if_neg c20] at hF
          refine q_go C tk_X9_readsD [(20, 6)] [false] (pc1 := 45) (σ1 := σ18) (lv1 := [(0, .ref 229), (1, .int a)]) (st1 := [.int (a + 2), .int 3, .ref 229]) rfl ⟨c20, trivial⟩ ?_
          refine q_callV C hfl mw_X9_isSpaced mi_X9_isSpaced me_X9_isSpaced lk_X9_210 (k_X9_isSpaced 3 (a + 2) σ18 ((((((((hP.2 σ1 e2).2 c3).2 σ4 e5).2 c6).2 σ15 e16).2 c17).2 σ18 e19).2 c20).1) (rest := []) rfl rfl rfl (by decide) (by decide) rfl (q_dc (z := (45, .invokevirtual 210, 3, 0, 0)) tk_X9_readsD 26 rfl) (Nat.le_of_ble_eq_true rfl) ⟨Nat.le_of_ble_eq_true rfl, Nat.le_of_ble_eq_true rfl⟩ ⟨Nat.le_of_ble_eq_true rfl, Nat.le_of_ble_eq_true rfl⟩ ?_
          refine q_nrm 48 [.int (F_X9_isSpaced 3 (a + 2) σ18).1] 0 0 rfl rfl rfl rfl ?_
          generalize e22 : (F_X9_isSpaced 3 (a + 2) σ18).2 = σ21
          replace hF := q_let e22 hF
          by_cases c23 : (F_X9_isSpaced 3 (a + 2) σ18).1 = 0
          · rw [if_pos c23] at hF
            refine q_go C tk_X9_readsD [(27, 1), (30, 1)] [true] (pc1 := 56) (σ1 := σ21) (lv1 := [(0, .ref 229), (1, .int a)]) (st1 := [.int 0]) rfl ⟨c23, trivial⟩ ?_
            exact q_zret C hr (q_dc (z := (56, .ireturn, 1, 0, 0)) tk_X9_readsD 31 rfl) (by decide +kernel) (congrArg Prod.snd hF) (congrArg (fun z => q_oi z.1) hF.symm) (Nat.le_of_ble_eq_true rfl) (Nat.le_of_ble_eq_true rfl)
          · rw [if_neg c23] at hF
            refine q_go C tk_X9_readsD [(27, 3)] [false] (pc1 := 56) (σ1 := σ21) (lv1 := [(0, .ref 229), (1, .int a)]) (st1 := [.int 1]) rfl ⟨c23, trivial⟩ ?_
            exact q_zret C hr (q_dc (z := (56, .ireturn, 1, 0, 0)) tk_X9_readsD 31 rfl) (by decide +kernel) (congrArg Prod.snd hF) (congrArg (fun z => q_oi z.1) hF.symm) (Nat.le_of_ble_eq_true rfl) (Nat.le_of_ble_eq_true rfl)
theorem z_X9_readsD {a : Int32} {σ : q_M} : q_z2 (F_X9_readsD a σ) := by
  unfold F_X9_readsD
  refine q_zL _ _ _ (fun σ1 => ?_)
  refine q_zif _ _ _ _ ?_ ?_
  · exact Or.inl rfl
  · refine q_zL _ _ _ (fun σ4 => ?_)
    refine q_zif _ _ _ _ ?_ ?_
    · refine q_zL _ _ _ (fun σ7 => ?_)
      refine q_zL _ _ _ (fun σ9 => ?_)
      refine q_zif _ _ _ _ ?_ ?_
      · exact Or.inl rfl
      · refine q_zL _ _ _ (fun σ12 => ?_)
        refine q_zif _ _ _ _ ?_ ?_
        · exact Or.inl rfl
        · exact Or.inr rfl
    · refine q_zL _ _ _ (fun σ15 => ?_)
      refine q_zif _ _ _ _ ?_ ?_
      · exact Or.inl rfl
      · refine q_zL _ _ _ (fun σ18 => ?_)
        refine q_zif _ _ _ _ ?_ ?_
        · exact Or.inl rfl
        · refine q_zL _ _ _ (fun σ21 => ?_)
          refine q_zif _ _ _ _ ?_ ?_
          · exact Or.inl rfl
          · exact Or.inr rfl
def F_X9_readsRest (f : Int32) (a : Int32) (σ : q_M) : (Int32) × q_M := (if f = 100 then (q_L (F_X9_readsD a σ).2 (fun σ2 : q_M => ((F_X9_readsD a σ).1, σ2))) else (if f = 112 then (q_L (F_X9_readsP a σ).2 (fun σ5 : q_M => ((F_X9_readsP a σ).1, σ5))) else (if f = 114 then (q_L (F_X9_isWord 15 σ).2 (fun σ8 : q_M => (if (F_X9_isWord 15 σ).1 = 0 then (0, σ8) else (q_L (F_X9_isSpaced 3 (a + 1) σ8).2 (fun σ11 : q_M => (if (F_X9_isSpaced 3 (a + 1) σ8).1 = 0 then (0, σ11) else (1, σ11))))))) else (if f = 115 then (q_L (F_X9_readsS a σ).2 (fun σ15 : q_M => ((F_X9_readsS a σ).1, σ15))) else (if f = 113 then (q_L (F_X9_isWord 16 σ).2 (fun σ18 : q_M => (if (F_X9_isWord 16 σ).1 = 0 then (0, σ18) else (q_L (F_X9_isSpaced 1 (a + 1) σ18).2 (fun σ21 : q_M => (if (F_X9_isSpaced 1 (a + 1) σ18).1 = 0 then (0, σ21) else (1, σ21))))))) else (0, σ))))))
def P_X9_readsRest (f : Int32) (a : Int32) (σ : q_M) : Prop := ((f = 100 → ((P_X9_readsD a σ) ∧ True)) ∧ (¬ f = 100 → ((f = 112 → ((P_X9_readsP a σ) ∧ True)) ∧ (¬ f = 112 → ((f = 114 → ((P_X9_isWord 15 σ) ∧ (∀ σ8 : q_M, (F_X9_isWord 15 σ).2 = σ8 → (((F_X9_isWord 15 σ).1 = 0 → True) ∧ (¬ (F_X9_isWord 15 σ).1 = 0 → ((P_X9_isSpaced 3 (a + 1) σ8) ∧ True)))))) ∧ (¬ f = 114 → ((f = 115 → ((P_X9_readsS a σ) ∧ True)) ∧ (¬ f = 115 → ((f = 113 → ((P_X9_isWord 16 σ) ∧ (∀ σ18 : q_M, (F_X9_isWord 16 σ).2 = σ18 → (((F_X9_isWord 16 σ).1 = 0 → True) ∧ (¬ (F_X9_isWord 16 σ).1 = 0 → ((P_X9_isSpaced 1 (a + 1) σ18) ∧ True)))))) ∧ (¬ f = 113 → False))))))))))
set_option maxRecDepth 100000 in
theorem k_X9_readsRest {α β : Nat → Nat} {D : va_G} {κ : Nat → ClassId} (f : Int32) (a : Int32) (σ : q_M) (hP : P_X9_readsRest f a σ) : q_C α β D κ yX9_readsRest cX9_readsRest 3 (Option.some Jvm.ClassFile.FieldType.boolean) 6 134 0 0 [.ref 229, .int f, .int a] σ (q_oi (F_X9_readsRest f a σ).1) (F_X9_readsRest f a σ).2 := by
  refine q_enter (own := RX9) (F := F_X9) (G := G_X9) (by decide +kernel) rfl Fok_X9 Gok_X9 (Nat.le_of_ble_eq_true rfl) (fun p l e s m args below meth c A hfl C hr hT => ?_)
  generalize hF : F_X9_readsRest f a σ = rr
  unfold F_X9_readsRest at hF
  refine q_go C tk_X9_readsRest [(0, 1)] [] (pc1 := 1) (σ1 := σ) (lv1 := [(0, .ref 229), (1, .int f), (2, .int a)]) (st1 := [.int f]) rfl trivial ?_
  by_cases c1 : f = 100
  · rw [if_pos c1] at hF
    refine q_lookup (tgt := 56) C (q_dc (z := (1, .lookupswitch 87 #[(100, 55), (112, 49), (114, 61), (115, 43)], 43, 0, 0)) tk_X9_readsRest 1 rfl) (by decide +kernel) (off := 55) (by rw [c1]; decide +kernel) (by decide) ?_
    refine q_go C tk_X9_readsRest [(10, 2)] [] (pc1 := 58) (σ1 := σ) (lv1 := [(0, .ref 229), (1, .int f), (2, .int a)]) (st1 := [.int a, .ref 229]) rfl trivial ?_
    refine q_callV C hfl mw_X9_readsD mi_X9_readsD me_X9_readsD lk_X9_230 (k_X9_readsD a σ (hP.1 c1).1) (rest := []) rfl rfl rfl (by decide) (by decide) rfl (q_dc (z := (58, .invokevirtual 230, 3, 0, 0)) tk_X9_readsRest 12 rfl) (Nat.le_of_ble_eq_true rfl) ⟨Nat.le_of_ble_eq_true rfl, Nat.le_of_ble_eq_true rfl⟩ ⟨Nat.le_of_ble_eq_true rfl, Nat.le_of_ble_eq_true rfl⟩ ?_
    refine q_nrm 61 [.int (F_X9_readsD a σ).1] 0 0 rfl rfl rfl rfl ?_
    generalize e3 : (F_X9_readsD a σ).2 = σ2
    replace hF := q_let e3 hF
    exact q_zret C hr (q_dc (z := (61, .ireturn, 1, 0, 0)) tk_X9_readsRest 13 rfl) (q_zb (z_X9_readsD)).1 (congrArg Prod.snd hF) (congrArg (fun z => q_oi z.1) hF.symm) (Nat.le_of_ble_eq_true rfl) (Nat.le_of_ble_eq_true rfl)
  rw [if_neg c1] at hF
  by_cases c4 : f = 112
  · rw [if_pos c4] at hF
    refine q_lookup (tgt := 50) C (q_dc (z := (1, .lookupswitch 87 #[(100, 55), (112, 49), (114, 61), (115, 43)], 43, 0, 0)) tk_X9_readsRest 1 rfl) (by decide +kernel) (off := 49) (by rw [c4]; decide +kernel) (by decide) ?_
    refine q_go C tk_X9_readsRest [(6, 2)] [] (pc1 := 52) (σ1 := σ) (lv1 := [(0, .ref 229), (1, .int f), (2, .int a)]) (st1 := [.int a, .ref 229]) rfl trivial ?_
    refine q_callV C hfl mw_X9_readsP mi_X9_readsP me_X9_readsP lk_X9_227 (k_X9_readsP a σ ((hP.2 c1).1 c4).1) (rest := []) rfl rfl rfl (by decide) (by decide) rfl (q_dc (z := (52, .invokevirtual 227, 3, 0, 0)) tk_X9_readsRest 8 rfl) (Nat.le_of_ble_eq_true rfl) ⟨Nat.le_of_ble_eq_true rfl, Nat.le_of_ble_eq_true rfl⟩ ⟨Nat.le_of_ble_eq_true rfl, Nat.le_of_ble_eq_true rfl⟩ ?_
    refine q_nrm 55 [.int (F_X9_readsP a σ).1] 0 0 rfl rfl rfl rfl ?_
    generalize e6 : (F_X9_readsP a σ).2 = σ5
    replace hF := q_let e6 hF
    exact q_zret C hr (q_dc (z := (55, .ireturn, 1, 0, 0)) tk_X9_readsRest 9 rfl) (q_zb (z_X9_readsP)).1 (congrArg Prod.snd hF) (congrArg (fun z => q_oi z.1) hF.symm) (Nat.le_of_ble_eq_true rfl) (Nat.le_of_ble_eq_true rfl)
  rw [if_neg c4] at hF
  by_cases c7 : f = 114
  · rw [if_pos c7] at hF
    refine q_lookup (tgt := 62) C (q_dc (z := (1, .lookupswitch 87 #[(100, 55), (112, 49), (114, 61), (115, 43)], 43, 0, 0)) tk_X9_readsRest 1 rfl) (by decide +kernel) (off := 61) (by rw [c7]; decide +kernel) (by decide) ?_
    refine q_go C tk_X9_readsRest [(14, 1)] [] (pc1 := 63) (σ1 := σ) (lv1 := [(0, .ref 229), (1, .int f), (2, .int a)]) (st1 := [.ref 229]) rfl trivial ?_
    refine q_ldcS (i := 7) C (by decide) rfl (q_dc (z := (63, .ldc 233, 2, 0, 0)) tk_X9_readsRest 15 rfl) ?_
    refine q_nrm 65 [.ref 355, .ref 229] 0 0 rfl rfl rfl rfl ?_
    refine q_callV C hfl mw_X9_isWord mi_X9_isWord me_X9_isWord lk_X9_204 (k_X9_isWord 15 σ (by decide) (((hP.2 c1).2 c4).1 c7).1) (rest := []) rfl rfl rfl (by decide) (by decide) rfl (q_dc (z := (65, .invokevirtual 204, 3, 0, 0)) tk_X9_readsRest 16 rfl) (Nat.le_of_ble_eq_true rfl) ⟨Nat.le_of_ble_eq_true rfl, Nat.le_of_ble_eq_true rfl⟩ ⟨Nat.le_of_ble_eq_true rfl, Nat.le_of_ble_eq_true rfl⟩ ?_
    refine q_nrm 68 [.int (F_X9_isWord 15 σ).1] 0 0 rfl rfl rfl rfl ?_
    generalize e9 : (F_X9_isWord 15 σ).2 = σ8
    replace hF := q_let e9 hF
    by_cases c10 : (F_X9_isWord 15 σ).1 = 0
    · rw [if_pos c10] at hF
      refine q_go C tk_X9_readsRest [(17, 1), (27, 1)] [true] (pc1 := 87) (σ1 := σ8) (lv1 := [(0, .ref 229), (1, .int f), (2, .int a)]) (st1 := [.int 0]) rfl ⟨c10, trivial⟩ ?_
      exact q_zret C hr (q_dc (z := (87, .ireturn, 1, 0, 0)) tk_X9_readsRest 28 rfl) (by decide +kernel) (congrArg Prod.snd hF) (congrArg (fun z => q_oi z.1) hF.symm) (Nat.le_of_ble_eq_true rfl) (Nat.le_of_ble_eq_true rfl)
    · rw [if_neg c10] at hF
      refine q_go C tk_X9_readsRest [(17, 6)] [false] (pc1 := 76) (σ1 := σ8) (lv1 := [(0, .ref 229), (1, .int f), (2, .int a)]) (st1 := [.int (a + 1), .int 3, .ref 229]) rfl ⟨c10, trivial⟩ ?_
      refine q_callV C hfl mw_X9_isSpaced mi_X9_isSpaced me_X9_isSpaced lk_X9_210 (k_X9_isSpaced 3 (a + 1) σ8 (((((hP.2 c1).2 c4).1 c7).2 σ8 e9).2 c10).1) (rest := []) rfl rfl rfl (by decide) (by decide) rfl (q_dc (z := (76, .invokevirtual 210, 3, 0, 0)) tk_X9_readsRest 23 rfl) (Nat.le_of_ble_eq_true rfl) ⟨Nat.le_of_ble_eq_true rfl, Nat.le_of_ble_eq_true rfl⟩ ⟨Nat.le_of_ble_eq_true rfl, Nat.le_of_ble_eq_true rfl⟩ ?_
      refine q_nrm 79 [.int (F_X9_isSpaced 3 (a + 1) σ8).1] 0 0 rfl rfl rfl rfl ?_
      generalize e12 : (F_X9_isSpaced 3 (a + 1) σ8).2 = σ11
      replace hF := q_let e12 hF
      by_cases c13 : (F_X9_isSpaced 3 (a + 1) σ8).1 = 0
      · rw [if_pos c13] at hF
        refine q_go C tk_X9_readsRest [(24, 1), (27, 1)] [true] (pc1 := 87) (σ1 := σ11) (lv1 := [(0, .ref 229), (1, .int f), (2, .int a)]) (st1 := [.int 0]) rfl ⟨c13, trivial⟩ ?_
        exact q_zret C hr (q_dc (z := (87, .ireturn, 1, 0, 0)) tk_X9_readsRest 28 rfl) (by decide +kernel) (congrArg Prod.snd hF) (congrArg (fun z => q_oi z.1) hF.symm) (Nat.le_of_ble_eq_true rfl) (Nat.le_of_ble_eq_true rfl)
      · rw [if_neg c13] at hF
        refine q_go C tk_X9_readsRest [(24, 3)] [false] (pc1 := 87) (σ1 := σ11) (lv1 := [(0, .ref 229), (1, .int f), (2, .int a)]) (st1 := [.int 1]) rfl ⟨c13, trivial⟩ ?_
        exact q_zret C hr (q_dc (z := (87, .ireturn, 1, 0, 0)) tk_X9_readsRest 28 rfl) (by decide +kernel) (congrArg Prod.snd hF) (congrArg (fun z => q_oi z.1) hF.symm) (Nat.le_of_ble_eq_true rfl) (Nat.le_of_ble_eq_true rfl)
  rw [if_neg c7] at hF
  by_cases c14 : f = 115
  · rw [if_pos c14] at hF
    refine q_lookup (tgt := 44) C (q_dc (z := (1, .lookupswitch 87 #[(100, 55), (112, 49), (114, 61), (115, 43)], 43, 0, 0)) tk_X9_readsRest 1 rfl) (by decide +kernel) (off := 43) (by rw [c14]; decide +kernel) (by decide) ?_
    refine q_go C tk_X9_readsRest [(2, 2)] [] (pc1 := 46) (σ1 := σ) (lv1 := [(0, .ref 229), (1, .int f), (2, .int a)]) (st1 := [.int a, .ref 229]) rfl trivial ?_
    refine q_callV C hfl mw_X9_readsS mi_X9_readsS me_X9_readsS lk_X9_224 (k_X9_readsS a σ ((((hP.2 c1).2 c4).2 c7).1 c14).1) (rest := []) rfl rfl rfl (by decide) (by decide) rfl (q_dc (z := (46, .invokevirtual 224, 3, 0, 0)) tk_X9_readsRest 4 rfl) (Nat.le_of_ble_eq_true rfl) ⟨Nat.le_of_ble_eq_true rfl, Nat.le_of_ble_eq_true rfl⟩ ⟨Nat.le_of_ble_eq_true rfl, Nat.le_of_ble_eq_true rfl⟩ ?_
    refine q_nrm 49 [.int (F_X9_readsS a σ).1] 0 0 rfl rfl rfl rfl ?_
    generalize e16 : (F_X9_readsS a σ).2 = σ15
    replace hF := q_let e16 hF
    exact q_zret C hr (q_dc (z := (49, .ireturn, 1, 0, 0)) tk_X9_readsRest 5 rfl) (q_zb (z_X9_readsS)).1 (congrArg Prod.snd hF) (congrArg (fun z => q_oi z.1) hF.symm) (Nat.le_of_ble_eq_true rfl) (Nat.le_of_ble_eq_true rfl)
  rw [if_neg c14] at hF
  by_cases c17 : f = 113
  · rw [if_pos c17] at hF
    refine q_lookup (tgt := 88) C (q_dc (z := (1, .lookupswitch 87 #[(100, 55), (112, 49), (114, 61), (115, 43)], 43, 0, 0)) tk_X9_readsRest 1 rfl) (by decide +kernel) (off := 87) (by rw [c17]; decide +kernel) (by decide) ?_
    refine q_go C tk_X9_readsRest [(29, 1)] [] (pc1 := 89) (σ1 := σ) (lv1 := [(0, .ref 229), (1, .int f), (2, .int a)]) (st1 := [.ref 229]) rfl trivial ?_
    refine q_ldcS (i := 8) C (by decide) rfl (q_dc (z := (89, .ldc 235, 2, 0, 0)) tk_X9_readsRest 30 rfl) ?_
    refine q_nrm 91 [.ref 356, .ref 229] 0 0 rfl rfl rfl rfl ?_
    refine q_callV C hfl mw_X9_isWord mi_X9_isWord me_X9_isWord lk_X9_204 (k_X9_isWord 16 σ (by decide) (((((hP.2 c1).2 c4).2 c7).2 c14).1 c17).1) (rest := []) rfl rfl rfl (by decide) (by decide) rfl (q_dc (z := (91, .invokevirtual 204, 3, 0, 0)) tk_X9_readsRest 31 rfl) (Nat.le_of_ble_eq_true rfl) ⟨Nat.le_of_ble_eq_true rfl, Nat.le_of_ble_eq_true rfl⟩ ⟨Nat.le_of_ble_eq_true rfl, Nat.le_of_ble_eq_true rfl⟩ ?_
    refine q_nrm 94 [.int (F_X9_isWord 16 σ).1] 0 0 rfl rfl rfl rfl ?_
    generalize e19 : (F_X9_isWord 16 σ).2 = σ18
    replace hF := q_let e19 hF
    by_cases c20 : (F_X9_isWord 16 σ).1 = 0
    · rw [if_pos c20] at hF
      refine q_go C tk_X9_readsRest [(32, 1), (42, 1)] [true] (pc1 := 113) (σ1 := σ18) (lv1 := [(0, .ref 229), (1, .int f), (2, .int a)]) (st1 := [.int 0]) rfl ⟨c20, trivial⟩ ?_
      exact q_zret C hr (q_dc (z := (113, .ireturn, 1, 0, 0)) tk_X9_readsRest 43 rfl) (by decide +kernel) (congrArg Prod.snd hF) (congrArg (fun z => q_oi z.1) hF.symm) (Nat.le_of_ble_eq_true rfl) (Nat.le_of_ble_eq_true rfl)
    · rw [if_neg c20] at hF
      refine q_go C tk_X9_readsRest [(32, 6)] [false] (pc1 := 102) (σ1 := σ18) (lv1 := [(0, .ref 229), (1, .int f), (2, .int a)]) (st1 := [.int (a + 1), .int 1, .ref 229]) rfl ⟨c20, trivial⟩ ?_
      refine q_callV C hfl mw_X9_isSpaced mi_X9_isSpaced me_X9_isSpaced lk_X9_210 (k_X9_isSpaced 1 (a + 1) σ18 (((((((hP.2 c1).2 c4).2 c7).2 c14).1 c17).2 σ18 e19).2 c20).1) (rest := []) rfl rfl rfl (by decide) (by decide) rfl (q_dc (z := (102, .invokevirtual 210, 3, 0, 0)) tk_X9_readsRest 38 rfl) (Nat.le_of_ble_eq_true rfl) ⟨Nat.le_of_ble_eq_true rfl, Nat.le_of_ble_eq_true rfl⟩ ⟨Nat.le_of_ble_eq_true rfl, Nat.le_of_ble_eq_true rfl⟩ ?_
      refine q_nrm 105 [.int (F_X9_isSpaced 1 (a + 1) σ18).1] 0 0 rfl rfl rfl rfl ?_
      generalize e22 : (F_X9_isSpaced 1 (a + 1) σ18).2 = σ21
      replace hF := q_let e22 hF
      by_cases c23 : (F_X9_isSpaced 1 (a + 1) σ18).1 = 0
      · rw [if_pos c23] at hF
        refine q_go C tk_X9_readsRest [(39, 1), (42, 1)] [true] (pc1 := 113) (σ1 := σ21) (lv1 := [(0, .ref 229), (1, .int f), (2, .int a)]) (st1 := [.int 0]) rfl ⟨c23, trivial⟩ ?_
        exact q_zret C hr (q_dc (z := (113, .ireturn, 1, 0, 0)) tk_X9_readsRest 43 rfl) (by decide +kernel) (congrArg Prod.snd hF) (congrArg (fun z => q_oi z.1) hF.symm) (Nat.le_of_ble_eq_true rfl) (Nat.le_of_ble_eq_true rfl)
      · rw [if_neg c23] at hF
        refine q_go C tk_X9_readsRest [(39, 3)] [false] (pc1 := 113) (σ1 := σ21) (lv1 := [(0, .ref 229), (1, .int f), (2, .int a)]) (st1 := [.int 1]) rfl ⟨c23, trivial⟩ ?_
        exact q_zret C hr (q_dc (z := (113, .ireturn, 1, 0, 0)) tk_X9_readsRest 43 rfl) (by decide +kernel) (congrArg Prod.snd hF) (congrArg (fun z => q_oi z.1) hF.symm) (Nat.le_of_ble_eq_true rfl) (Nat.le_of_ble_eq_true rfl)
  rw [if_neg c17] at hF
  exact (((((hP.2 c1).2 c4).2 c7).2 c14).2 c17).elim
theorem z_X9_readsRest {f : Int32} {a : Int32} {σ : q_M} : q_z2 (F_X9_readsRest f a σ) := by
  unfold F_X9_readsRest
  refine q_zif _ _ _ _ ?_ ?_
  · refine q_zL _ _ _ (fun σ2 => ?_)
    exact z_X9_readsD
  refine q_zif _ _ _ _ ?_ ?_
  · refine q_zL _ _ _ (fun σ5 => ?_)
    exact z_X9_readsP
  refine q_zif _ _ _ _ ?_ ?_
  · refine q_zL _ _ _ (fun σ8 => ?_)
    refine q_zif _ _ _ _ ?_ ?_
    · exact Or.inl rfl
    · refine q_zL _ _ _ (fun σ11 => ?_)
      refine q_zif _ _ _ _ ?_ ?_
      · exact Or.inl rfl
      · exact Or.inr rfl
  refine q_zif _ _ _ _ ?_ ?_
  · refine q_zL _ _ _ (fun σ15 => ?_)
    exact z_X9_readsS
  refine q_zif _ _ _ _ ?_ ?_
  · refine q_zL _ _ _ (fun σ18 => ?_)
    refine q_zif _ _ _ _ ?_ ?_
    · exact Or.inl rfl
    · refine q_zL _ _ _ (fun σ21 => ?_)
      refine q_zif _ _ _ _ ?_ ?_
      · exact Or.inl rfl
      · exact Or.inr rfl
  exact Or.inl rfl
def F_X9_readsCommand (σ : q_M) : (Int32) × q_M := (q_L (4 * (σ 229 18)) (fun x1 : Int32 => (q_L (F_X9_sign σ) (fun x3 : Int32 => (if (F_X9_isFirst x3 σ) = 0 then (0, σ) else (q_L (q_up (q_up σ 236 (x1).toNatClampNeg x3) 229 17 (((q_up σ 236 (x1).toNatClampNeg x3) 229 17) + 1)) (fun σ6 : q_M => (q_L (q_up σ6 229 18 ((σ6 229 18) + 1)) (fun σ8 : q_M => (q_L (F_X9_readsRest x3 x1 σ8).2 (fun σ10 : q_M => ((F_X9_readsRest x3 x1 σ8).1, σ10))))))))))))
def P_X9_readsCommand (σ : q_M) : Prop := (∀ x1 : Int32, (4 * (σ 229 18)) = x1 → ((P_X9_sign σ) ∧ (∀ x3 : Int32, (F_X9_sign σ) = x3 → (((F_X9_isFirst x3 σ) = 0 → True) ∧ (¬ (F_X9_isFirst x3 σ) = 0 → (vp_in x1 (q_len 236) ∧ (∀ σ6 : q_M, (q_up (q_up σ 236 (x1).toNatClampNeg x3) 229 17 (((q_up σ 236 (x1).toNatClampNeg x3) 229 17) + 1)) = σ6 → (∀ σ8 : q_M, (q_up σ6 229 18 ((σ6 229 18) + 1)) = σ8 → ((P_X9_readsRest x3 x1 σ8) ∧ True)))))))))
set_option maxRecDepth 100000 in
theorem k_X9_readsCommand {α β : Nat → Nat} {D : va_G} {κ : Nat → ClassId} (σ : q_M) (hP : P_X9_readsCommand σ) : q_C α β D κ yX9_readsCommand cX9_readsCommand 3 (Option.some Jvm.ClassFile.FieldType.boolean) 7 156 0 0 [.ref 229] σ (q_oi (F_X9_readsCommand σ).1) (F_X9_readsCommand σ).2 := by
  refine q_enter (own := RX9) (F := F_X9) (G := G_X9) (by decide +kernel) rfl Fok_X9 Gok_X9 (Nat.le_of_ble_eq_true rfl) (fun p l e s m args below meth c A hfl C hr hT => ?_)
  generalize hF : F_X9_readsCommand σ = rr
  unfold F_X9_readsCommand at hF
  refine q_go C tk_X9_readsCommand [(0, 4)] [] (pc1 := 6) (σ1 := σ) (lv1 := [(0, .ref 229)]) (st1 := [.int (4 * (σ 229 18))]) rfl ⟨rfl, trivial⟩ ?_
  generalize e2 : (4 * (σ 229 18)) = x1
  replace hF := q_let e2 hF
  refine q_go C tk_X9_readsCommand [(4, 2)] [] (pc1 := 8) (σ1 := σ) (lv1 := [(1, .int x1), (0, .ref 229)]) (st1 := [.ref 229]) rfl trivial ?_
  refine q_callV C hfl mw_X9_sign mi_X9_sign me_X9_sign lk_X9_190 (k_X9_sign σ (hP x1 e2).1) (rest := []) rfl rfl rfl (by decide) (by decide) rfl (q_dc (z := (8, .invokevirtual 190, 3, 0, 0)) tk_X9_readsCommand 6 rfl) (Nat.le_of_ble_eq_true rfl) ⟨Nat.le_of_ble_eq_true rfl, Nat.le_of_ble_eq_true rfl⟩ ⟨Nat.le_of_ble_eq_true rfl, Nat.le_of_ble_eq_true rfl⟩ ?_
  refine q_nrm 11 [.int (F_X9_sign σ)] 0 0 rfl rfl rfl rfl ?_
  generalize e4 : (F_X9_sign σ) = x3
  replace hF := q_let e4 hF
  refine q_go C tk_X9_readsCommand [(7, 2)] [] (pc1 := 13) (σ1 := σ) (lv1 := [(2, .int x3), (1, .int x1), (0, .ref 229)]) (st1 := [.int x3]) rfl trivial ?_
  refine q_callS C hfl mw_X9_isFirst ms_X9_isFirst lk_X9_240 (k_X9_isFirst x3 σ) (rest := []) rfl rfl (q_dc (z := (13, .invokestatic 240, 3, 0, 0)) tk_X9_readsCommand 9 rfl) (Nat.le_of_ble_eq_true rfl) ⟨Nat.le_of_ble_eq_true rfl, Nat.le_of_ble_eq_true rfl⟩ ⟨Nat.le_of_ble_eq_true rfl, Nat.le_of_ble_eq_true rfl⟩ ?_
  refine q_nrm 16 [.int (F_X9_isFirst x3 σ)] 0 0 rfl rfl rfl rfl ?_
  by_cases c5 : (F_X9_isFirst x3 σ) = 0
  · rw [if_pos c5] at hF
    refine q_go C tk_X9_readsCommand [(10, 2)] [false] (pc1 := 20) (σ1 := σ) (lv1 := [(2, .int x3), (1, .int x1), (0, .ref 229)]) (st1 := [.int 0]) rfl ⟨c5, trivial⟩ ?_
    exact q_zret C hr (q_dc (z := (20, .ireturn, 1, 0, 0)) tk_X9_readsCommand 12 rfl) (by decide +kernel) (congrArg Prod.snd hF) (congrArg (fun z => q_oi z.1) hF.symm) (Nat.le_of_ble_eq_true rfl) (Nat.le_of_ble_eq_true rfl)
  · rw [if_neg c5] at hF
    refine q_go C tk_X9_readsCommand [(10, 1), (13, 11)] [true] (pc1 := 38) (σ1 := (q_up (q_up σ 236 (x1).toNatClampNeg x3) 229 17 (((q_up σ 236 (x1).toNatClampNeg x3) 229 17) + 1))) (lv1 := [(2, .int x3), (1, .int x1), (0, .ref 229)]) (st1 := []) rfl ⟨c5, rfl, rfl, (((hP x1 e2).2 x3 e4).2 c5).1, rfl, rfl, trivial⟩ ?_
    generalize e7 : (q_up (q_up σ 236 (x1).toNatClampNeg x3) 229 17 (((q_up σ 236 (x1).toNatClampNeg x3) 229 17) + 1)) = σ6
    replace hF := q_let e7 hF
    refine q_go C tk_X9_readsCommand [(24, 6)] [] (pc1 := 48) (σ1 := (q_up σ6 229 18 ((σ6 229 18) + 1))) (lv1 := [(2, .int x3), (1, .int x1), (0, .ref 229)]) (st1 := []) rfl ⟨rfl, rfl, trivial⟩ ?_
    generalize e9 : (q_up σ6 229 18 ((σ6 229 18) + 1)) = σ8
    replace hF := q_let e9 hF
    refine q_go C tk_X9_readsCommand [(30, 3)] [] (pc1 := 51) (σ1 := σ8) (lv1 := [(2, .int x3), (1, .int x1), (0, .ref 229)]) (st1 := [.int x1, .int x3, .ref 229]) rfl trivial ?_
    refine q_callV C hfl mw_X9_readsRest mi_X9_readsRest me_X9_readsRest lk_X9_243 (k_X9_readsRest x3 x1 σ8 (((((hP x1 e2).2 x3 e4).2 c5).2 σ6 e7) σ8 e9).1) (rest := []) rfl rfl rfl (by decide) (by decide) rfl (q_dc (z := (51, .invokevirtual 243, 3, 0, 0)) tk_X9_readsCommand 33 rfl) (Nat.le_of_ble_eq_true rfl) ⟨Nat.le_of_ble_eq_true rfl, Nat.le_of_ble_eq_true rfl⟩ ⟨Nat.le_of_ble_eq_true rfl, Nat.le_of_ble_eq_true rfl⟩ ?_
    refine q_nrm 54 [.int (F_X9_readsRest x3 x1 σ8).1] 0 0 rfl rfl rfl rfl ?_
    generalize e11 : (F_X9_readsRest x3 x1 σ8).2 = σ10
    replace hF := q_let e11 hF
    exact q_zret C hr (q_dc (z := (54, .ireturn, 1, 0, 0)) tk_X9_readsCommand 34 rfl) (q_zb (z_X9_readsRest)).1 (congrArg Prod.snd hF) (congrArg (fun z => q_oi z.1) hF.symm) (Nat.le_of_ble_eq_true rfl) (Nat.le_of_ble_eq_true rfl)
theorem z_X9_readsCommand {σ : q_M} : q_z2 (F_X9_readsCommand σ) := by
  unfold F_X9_readsCommand
  refine q_zL _ _ _ (fun x1 => ?_)
  refine q_zL _ _ _ (fun x3 => ?_)
  refine q_zif _ _ _ _ ?_ ?_
  · exact Or.inl rfl
  · refine q_zL _ _ _ (fun σ6 => ?_)
    refine q_zL _ _ _ (fun σ8 => ?_)
    refine q_zL _ _ _ (fun σ10 => ?_)
    exact z_X9_readsRest
def FL_X9_isProgram_15  : Nat → Int32 → q_M → (Int32) × q_M
  | 0, v1, τ => (0, τ)
  | nn + 1, v1, τ => (if v1 = 0 then (0, τ) else (q_L (F_X9_isSign 59 τ).2 (fun σ10 : q_M => (if (F_X9_isSign 59 τ).1 = 0 then (if (σ10 229 17) = (σ10 229 16) then (1, σ10) else (0, σ10)) else (q_L (F_X9_readsCommand σ10).2 (fun σ14 : q_M => (q_L (F_X9_readsCommand σ10).1 (fun x16 : Int32 => (FL_X9_isProgram_15  nn x16 σ14)))))))))
def PL_X9_isProgram_15  : Nat → Int32 → q_M → Prop
  | 0, v1, τ => False
  | nn + 1, v1, τ => ((v1 = 0 → True) ∧ (¬ v1 = 0 → ((P_X9_isSign 59 τ) ∧ (∀ σ10 : q_M, (F_X9_isSign 59 τ).2 = σ10 → (((F_X9_isSign 59 τ).1 = 0 → True) ∧ (¬ (F_X9_isSign 59 τ).1 = 0 → ((P_X9_readsCommand σ10) ∧ (∀ σ14 : q_M, (F_X9_readsCommand σ10).2 = σ14 → (∀ x16 : Int32, (F_X9_readsCommand σ10).1 = x16 → (PL_X9_isProgram_15  nn x16 σ14))))))))))
set_option maxRecDepth 100000 in
theorem kl_X9_isProgram_15 {α β : Nat → Nat} {D : va_G} {κ : Nat → ClassId}  {p : Program} {l : Launch} {e : Env} {s : State} {m : MethodId} {args : Array Value} {below : List Frame} {meth : Method} {c : Code} {A : Nat → Prop} (hfl : l.flags = flags0) (C : q_Cx α β D κ p s m args meth c cX9_isProgram RX9 F_X9 G_X9 2 A) (hr : meth.sig.returnType = (Option.some Jvm.ClassFile.FieldType.boolean)) (hT : ∀ x ∈ c.exceptionTable.toList, False) : ∀ (nn : Nat) (v1 : Int32) (τ : q_M) (rr : (Int32) × q_M), PL_X9_isProgram_15  nn v1 τ → FL_X9_isProgram_15  nn v1 τ = rr → q_St α β D κ p l e ({ frames := 8, cells := 0, slots := 0, locals := 178 } : Room) s m args below meth c 2 A (vx_MQ below (q_Qc α β D κ A (q_oi rr.1) rr.2) (q_XC α β D κ A (q_oi rr.1) rr.2) args s 0 0 A) 0 0 τ [(0, .ref 229), (1, .int v1)] 15 [] := by
  intro nn
  induction nn with
  | zero => intro v1 τ rr hP; exact hP.elim
  | succ nn ih =>
    intro v1 τ rr hP hF
    unfold FL_X9_isProgram_15 at hF
    refine q_go C tk_X9_isProgram [(9, 1)] [] (pc1 := 16) (σ1 := τ) (lv1 := [(0, .ref 229), (1, .int v1)]) (st1 := [.int v1]) rfl trivial ?_
    by_cases c9 : v1 = 0
    · rw [if_pos c9] at hF
      refine q_go C tk_X9_isProgram [(10, 1), (19, 2), (28, 1)] [true, true] (pc1 := 56) (σ1 := τ) (lv1 := [(0, .ref 229), (1, .int v1)]) (st1 := [.int 0]) rfl ⟨c9, c9, trivial⟩ ?_
      exact q_zret C hr (q_dc (z := (56, .ireturn, 1, 0, 0)) tk_X9_isProgram 29 rfl) (by decide +kernel) (congrArg Prod.snd hF) (congrArg (fun z => q_oi z.1) hF.symm) (Nat.le_of_ble_eq_true rfl) (Nat.le_of_ble_eq_true rfl)
    · rw [if_neg c9] at hF
      refine q_go C tk_X9_isProgram [(10, 3)] [false] (pc1 := 22) (σ1 := τ) (lv1 := [(0, .ref 229), (1, .int v1)]) (st1 := [.int 59, .ref 229]) rfl ⟨c9, trivial⟩ ?_
      refine q_callV C hfl mw_X9_isSign mi_X9_isSign me_X9_isSign lk_X9_193 (k_X9_isSign 59 τ (hP.2 c9).1) (rest := []) rfl rfl rfl (by decide) (by decide) rfl (q_dc (z := (22, .invokevirtual 193, 3, 0, 0)) tk_X9_isProgram 13 rfl) (Nat.le_of_ble_eq_true rfl) ⟨Nat.le_of_ble_eq_true rfl, Nat.le_of_ble_eq_true rfl⟩ ⟨Nat.le_of_ble_eq_true rfl, Nat.le_of_ble_eq_true rfl⟩ ?_
      refine q_nrm 25 [.int (F_X9_isSign 59 τ).1] 0 0 rfl rfl rfl rfl ?_
      generalize e11 : (F_X9_isSign 59 τ).2 = σ10
      replace hF := q_let e11 hF
      by_cases c12 : (F_X9_isSign 59 τ).1 = 0
      · rw [if_pos c12] at hF
        refine q_go C tk_X9_isProgram [(14, 1), (19, 6)] [true, false] (pc1 := 48) (σ1 := σ10) (lv1 := [(0, .ref 229), (1, .int v1)]) (st1 := [.int (σ10 229 16), .int (σ10 229 17)]) rfl ⟨c12, c9, rfl, rfl, trivial⟩ ?_
        by_cases c13 : (σ10 229 17) = (σ10 229 16)
        · rw [if_pos c13] at hF
          refine q_go C tk_X9_isProgram [(25, 3)] [false] (pc1 := 56) (σ1 := σ10) (lv1 := [(0, .ref 229), (1, .int v1)]) (st1 := [.int 1]) rfl ⟨c13, trivial⟩ ?_
          exact q_zret C hr (q_dc (z := (56, .ireturn, 1, 0, 0)) tk_X9_isProgram 29 rfl) (by decide +kernel) (congrArg Prod.snd hF) (congrArg (fun z => q_oi z.1) hF.symm) (Nat.le_of_ble_eq_true rfl) (Nat.le_of_ble_eq_true rfl)
        · rw [if_neg c13] at hF
          refine q_go C tk_X9_isProgram [(25, 1), (28, 1)] [true] (pc1 := 56) (σ1 := σ10) (lv1 := [(0, .ref 229), (1, .int v1)]) (st1 := [.int 0]) rfl ⟨c13, trivial⟩ ?_
          exact q_zret C hr (q_dc (z := (56, .ireturn, 1, 0, 0)) tk_X9_isProgram 29 rfl) (by decide +kernel) (congrArg Prod.snd hF) (congrArg (fun z => q_oi z.1) hF.symm) (Nat.le_of_ble_eq_true rfl) (Nat.le_of_ble_eq_true rfl)
      · rw [if_neg c12] at hF
        refine q_go C tk_X9_isProgram [(14, 2)] [false] (pc1 := 29) (σ1 := σ10) (lv1 := [(0, .ref 229), (1, .int v1)]) (st1 := [.ref 229]) rfl ⟨c12, trivial⟩ ?_
        refine q_callV C hfl mw_X9_readsCommand mi_X9_readsCommand me_X9_readsCommand lk_X9_246 (k_X9_readsCommand σ10 (((hP.2 c9).2 σ10 e11).2 c12).1) (rest := []) rfl rfl rfl (by decide) (by decide) rfl (q_dc (z := (29, .invokevirtual 246, 3, 0, 0)) tk_X9_isProgram 16 rfl) (Nat.le_of_ble_eq_true rfl) ⟨Nat.le_of_ble_eq_true rfl, Nat.le_of_ble_eq_true rfl⟩ ⟨Nat.le_of_ble_eq_true rfl, Nat.le_of_ble_eq_true rfl⟩ ?_
        refine q_nrm 32 [.int (F_X9_readsCommand σ10).1] 0 0 rfl rfl rfl rfl ?_
        generalize e15 : (F_X9_readsCommand σ10).2 = σ14
        replace hF := q_let e15 hF
        generalize e17 : (F_X9_readsCommand σ10).1 = x16
        replace hF := q_let e17 hF
        refine q_go C tk_X9_isProgram [(17, 2)] [] (pc1 := 15) (σ1 := σ14) (lv1 := [(1, .int x16), (0, .ref 229)]) (st1 := []) rfl trivial ?_
        refine q_lvpick [1, 0] (lv' := [(0, .ref 229), (1, .int x16)]) rfl ?_
        exact ih x16 σ14 rr (((((hP.2 c9).2 σ10 e11).2 c12).2 σ14 e15) x16 e17) hF
def F_X9_isProgram (σ : q_M) : (Int32) × q_M := (q_L (q_up σ 229 17 0) (fun σ1 : q_M => (q_L (q_up σ1 229 18 0) (fun σ3 : q_M => (q_L (F_X9_readsCommand σ3).2 (fun σ5 : q_M => (q_L (F_X9_readsCommand σ3).1 (fun x7 : Int32 => (FL_X9_isProgram_15  40 x7 σ5)))))))))
def P_X9_isProgram (σ : q_M) : Prop := (∀ σ1 : q_M, (q_up σ 229 17 0) = σ1 → (∀ σ3 : q_M, (q_up σ1 229 18 0) = σ3 → ((P_X9_readsCommand σ3) ∧ (∀ σ5 : q_M, (F_X9_readsCommand σ3).2 = σ5 → (∀ x7 : Int32, (F_X9_readsCommand σ3).1 = x7 → (PL_X9_isProgram_15  40 x7 σ5))))))
set_option maxRecDepth 100000 in
theorem k_X9_isProgram {α β : Nat → Nat} {D : va_G} {κ : Nat → ClassId} (σ : q_M) (hP : P_X9_isProgram σ) : q_C α β D κ yX9_isProgram cX9_isProgram 2 (Option.some Jvm.ClassFile.FieldType.boolean) 8 178 0 0 [.ref 229] σ (q_oi (F_X9_isProgram σ).1) (F_X9_isProgram σ).2 := by
  refine q_enter (own := RX9) (F := F_X9) (G := G_X9) (by decide +kernel) rfl Fok_X9 Gok_X9 (Nat.le_of_ble_eq_true rfl) (fun p l e s m args below meth c A hfl C hr hT => ?_)
  generalize hF : F_X9_isProgram σ = rr
  unfold F_X9_isProgram at hF
  refine q_go C tk_X9_isProgram [(0, 3)] [] (pc1 := 5) (σ1 := (q_up σ 229 17 0)) (lv1 := [(0, .ref 229)]) (st1 := []) rfl ⟨rfl, trivial⟩ ?_
  generalize e2 : (q_up σ 229 17 0) = σ1
  replace hF := q_let e2 hF
  refine q_go C tk_X9_isProgram [(3, 3)] [] (pc1 := 10) (σ1 := (q_up σ1 229 18 0)) (lv1 := [(0, .ref 229)]) (st1 := []) rfl ⟨rfl, trivial⟩ ?_
  generalize e4 : (q_up σ1 229 18 0) = σ3
  replace hF := q_let e4 hF
  refine q_go C tk_X9_isProgram [(6, 1)] [] (pc1 := 11) (σ1 := σ3) (lv1 := [(0, .ref 229)]) (st1 := [.ref 229]) rfl trivial ?_
  refine q_callV C hfl mw_X9_readsCommand mi_X9_readsCommand me_X9_readsCommand lk_X9_246 (k_X9_readsCommand σ3 ((hP σ1 e2) σ3 e4).1) (rest := []) rfl rfl rfl (by decide) (by decide) rfl (q_dc (z := (11, .invokevirtual 246, 3, 0, 0)) tk_X9_isProgram 7 rfl) (Nat.le_of_ble_eq_true rfl) ⟨Nat.le_of_ble_eq_true rfl, Nat.le_of_ble_eq_true rfl⟩ ⟨Nat.le_of_ble_eq_true rfl, Nat.le_of_ble_eq_true rfl⟩ ?_
  refine q_nrm 14 [.int (F_X9_readsCommand σ3).1] 0 0 rfl rfl rfl rfl ?_
  generalize e6 : (F_X9_readsCommand σ3).2 = σ5
  replace hF := q_let e6 hF
  generalize e8 : (F_X9_readsCommand σ3).1 = x7
  replace hF := q_let e8 hF
  refine q_go C tk_X9_isProgram [(8, 1)] [] (pc1 := 15) (σ1 := σ5) (lv1 := [(1, .int x7), (0, .ref 229)]) (st1 := []) rfl trivial ?_
  refine q_lvpick [1, 0] (lv' := [(0, .ref 229), (1, .int x7)]) rfl ?_
  exact kl_X9_isProgram_15   hfl C hr hT 40 x7 σ5 rr ((((hP σ1 e2) σ3 e4).2 σ5 e6) x7 e8) hF
theorem zl_X9_isProgram_15  : ∀ (nn : Nat) (v1 : Int32) (τ : q_M), q_z2 (FL_X9_isProgram_15  nn v1 τ) := by
  intro nn
  induction nn with
  | zero => intro v1 τ; exact Or.inl rfl
  | succ nn ih =>
    intro v1 τ
    unfold FL_X9_isProgram_15
    refine q_zif _ _ _ _ ?_ ?_
    · exact Or.inl rfl
    · refine q_zL _ _ _ (fun σ10 => ?_)
      refine q_zif _ _ _ _ ?_ ?_
      · refine q_zif _ _ _ _ ?_ ?_
        · exact Or.inr rfl
        · exact Or.inl rfl
      · refine q_zL _ _ _ (fun σ14 => ?_)
        refine q_zL _ _ _ (fun x16 => ?_)
        exact ih _ _
theorem z_X9_isProgram {σ : q_M} : q_z2 (F_X9_isProgram σ) := by
  unfold F_X9_isProgram
  refine q_zL _ _ _ (fun σ1 => ?_)
  refine q_zL _ _ _ (fun σ3 => ?_)
  refine q_zL _ _ _ (fun σ5 => ?_)
  refine q_zL _ _ _ (fun x7 => ?_)
  exact zl_X9_isProgram_15  _ _ _
