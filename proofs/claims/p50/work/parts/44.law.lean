/-! The law: 44.law. -/
def F_L_cell (ζ : Nat → Nat) (i : Int32) (σ : q_M) : Int32 := (q_L (if i < (nI (ζ 336)) then (q_scr ζ (i).toNatClampNeg) else 0) (fun x2 : Int32 => (q_L ((69069 * (x2 + (1009 * i))) + 12345) (fun x4 : Int32 => (q_L ((x4 ^^^ (q_us x4 13)) * 1103515245) (fun x6 : Int32 => (x6 ^^^ (q_us x6 16))))))))
def P_L_cell (ζ : Nat → Nat) (i : Int32) (σ : q_M) : Prop := (((i < (nI (ζ 336)) → (vp_in i (ζ 336) ∧ True)) ∧ (¬ i < (nI (ζ 336)) → True)) ∧ (∀ x2 : Int32, (if i < (nI (ζ 336)) then (q_scr ζ (i).toNatClampNeg) else 0) = x2 → True))
set_option maxRecDepth 100000 in
theorem k_L_cell {α β : Nat → Nat} {D : va_G} {κ : Nat → ClassId} (i : Int32) (σ : q_M) (hP : P_L_cell α i σ) : q_C α β D κ yL_cell cL_cell 3 (Option.some Jvm.ClassFile.FieldType.int) 0 0 0 0 [.ref 335, .int i] σ (q_oi (F_L_cell α i σ)) σ := by
  refine q_enter (own := RL) (F := fun _ => none) (G := fun _ => none) (by decide +kernel) rfl Fok_L Gok_L (Nat.le_of_ble_eq_true rfl) (fun p l e s m args below meth c A hfl C hr hT => ?_)
  generalize hRR : ({ frames := 0, cells := 0, slots := 0, locals := 0 } : Room) = R
  have hRf : 0 ≤ R.frames := by rw [← hRR]; exact Nat.le_refl _
  have hRc : 0 ≤ R.cells := by rw [← hRR]; exact Nat.le_refl _
  have hRs : 0 ≤ R.slots := by rw [← hRR]; exact Nat.le_refl _
  have hRl : 0 ≤ R.locals := by rw [← hRR]; exact Nat.le_refl _
  generalize hF : F_L_cell α i σ = rr
  unfold F_L_cell at hF
  unfold P_L_cell at hP
  refine q_ldc C ck_L_7 (q_dc (z := (0, .ldc 7, 2, 0, 0)) tk_L_cell 0 rfl) ?_
  refine q_go C tk_L_cell [(1, 2)] [] (pc1 := 4) (σ1 := σ) (lv1 := [(0, .ref 335), (1, .int i)]) (st1 := [.ref 335, .int i, .int 69069]) rfl trivial ?_
  refine q_scLen C (q_dc (z := (4, .arraylength, 1, 0, 20)) tk_L_cell 3 rfl) ?_
  refine q_nrm 5 [.int (nI (α 336)), .int i, .int 69069] 0 0 rfl rfl (by omega) (by omega) ?_
  refine q_mrgW (v := (if i < (nI (α 336)) then (q_scr α (i).toNatClampNeg) else 0)) (M := 15) (σ1 := σ) (lv1 := [(0, .ref 335), (1, .int i)]) (st1 := [.int 69069]) (k1 := 0) (k2 := 0) (fun x2 e3 => ?_) (fun K => ?_)
  · replace hF := q_let e3 hF
    refine q_go C tk_L_cell [(10, 7)] [] (pc1 := 26) (σ1 := σ) (lv1 := [(0, .ref 335), (1, .int i)]) (st1 := [.int ((69069 * (x2 + (1009 * i))) + 12345)]) rfl trivial ?_
    refine q_nmI (fun x4 e5 => ?_)
    replace hF := q_let e5 hF
    refine q_go C tk_L_cell [(17, 4)] [] (pc1 := 31) (σ1 := σ) (lv1 := [(2, .int x4), (0, .ref 335), (1, .int i)]) (st1 := [.int 13, .int x4, .int x4]) rfl trivial ?_
    refine q_iushr C (q_dc (z := (31, .iushr, 1, 0, 0)) tk_L_cell 21 rfl) ?_
    refine q_nrm 32 [.int (q_us x4 13), .int x4] 0 0 rfl rfl (by omega) (by omega) ?_
    refine q_ixor C (q_dc (z := (32, .ixor, 1, 0, 0)) tk_L_cell 22 rfl) ?_
    refine q_nrm 33 [.int (x4 ^^^ (q_us x4 13))] 0 0 rfl rfl (by omega) (by omega) ?_
    refine q_ldc C ck_L_8 (q_dc (z := (33, .ldc 8, 2, 0, 0)) tk_L_cell 23 rfl) ?_
    refine q_go C tk_L_cell [(24, 1)] [] (pc1 := 36) (σ1 := σ) (lv1 := [(2, .int x4), (0, .ref 335), (1, .int i)]) (st1 := [.int ((x4 ^^^ (q_us x4 13)) * 1103515245)]) rfl trivial ?_
    refine q_nmI (fun x6 e7 => ?_)
    replace hF := q_let e7 hF
    refine q_go C tk_L_cell [(25, 4)] [] (pc1 := 41) (σ1 := σ) (lv1 := [(2, .int x6), (0, .ref 335), (1, .int i)]) (st1 := [.int 16, .int x6, .int x6]) rfl trivial ?_
    refine q_iushr C (q_dc (z := (41, .iushr, 1, 0, 0)) tk_L_cell 29 rfl) ?_
    refine q_nrm 42 [.int (q_us x6 16), .int x6] 0 0 rfl rfl (by omega) (by omega) ?_
    refine q_ixor C (q_dc (z := (42, .ixor, 1, 0, 0)) tk_L_cell 30 rfl) ?_
    refine q_nrm 43 [.int (x6 ^^^ (q_us x6 16))] 0 0 rfl rfl (by omega) (by omega) ?_
    exact q_iret C hr (q_dc (z := (43, .ireturn, 1, 0, 0)) tk_L_cell 31 rfl) rfl (congrArg q_oi hF.symm) (by omega) (by omega)
  · clear hF
    by_cases c1 : i < (nI (α 336))
    · skip
      refine q_go C tk_L_cell [(4, 3)] [false] (pc1 := 10) (σ1 := σ) (lv1 := [(0, .ref 335), (1, .int i)]) (st1 := [.int i, .ref 335, .int 69069]) rfl ⟨c1, trivial⟩ ?_
      refine q_scAt C (hP.1.1 c1).1 (q_dc (z := (10, .iaload, 1, 0, 0)) tk_L_cell 7 rfl) ?_
      refine q_nrm 11 [.int (q_scr α (i).toNatClampNeg), .int 69069] 0 0 rfl rfl (by omega) (by omega) ?_
      refine q_go C tk_L_cell [(8, 1)] [] (pc1 := 15) (σ1 := σ) (lv1 := [(0, .ref 335), (1, .int i)]) (st1 := [.int (q_scr α (i).toNatClampNeg), .int 69069]) rfl trivial ?_
      rw [if_pos c1] at K; exact q_wdn (by omega) (by omega) K
    · skip
      refine q_go C tk_L_cell [(4, 1), (9, 1)] [true] (pc1 := 15) (σ1 := σ) (lv1 := [(0, .ref 335), (1, .int i)]) (st1 := [.int 0, .int 69069]) rfl ⟨c1, trivial⟩ ?_
      rw [if_neg c1] at K; exact q_wdn (by omega) (by omega) K
def F_L_in (ζ : Nat → Nat) (i : Int32) (n : Int32) (σ : q_M) : Int32 := (q_L (F_L_cell ζ i σ) (fun x1 : Int32 => ((x1 &&& 2147483647) - (x1 &&& 2147483647) / n * n)))
def P_L_in (ζ : Nat → Nat) (i : Int32) (n : Int32) (σ : q_M) : Prop := ((P_L_cell ζ i σ) ∧ (∀ x1 : Int32, (F_L_cell ζ i σ) = x1 → (¬ n = 0 ∧ True)))
set_option maxRecDepth 100000 in
theorem k_L_in {α β : Nat → Nat} {D : va_G} {κ : Nat → ClassId} (i : Int32) (n : Int32) (σ : q_M) (hP : P_L_in α i n σ) : q_C α β D κ yL_in cL_in 3 (Option.some Jvm.ClassFile.FieldType.int) 1 22 0 0 [.ref 335, .int i, .int n] σ (q_oi (F_L_in α i n σ)) σ := by
  refine q_enter (own := RL) (F := fun _ => none) (G := fun _ => none) (by decide +kernel) rfl Fok_L Gok_L (Nat.le_of_ble_eq_true rfl) (fun p l e s m args below meth c A hfl C hr hT => ?_)
  generalize hRR : ({ frames := 1, cells := 0, slots := 0, locals := 22 } : Room) = R
  have hRf : 1 ≤ R.frames := by rw [← hRR]; exact Nat.le_refl _
  have hRc : 0 ≤ R.cells := by rw [← hRR]; exact Nat.le_refl _
  have hRs : 0 ≤ R.slots := by rw [← hRR]; exact Nat.le_refl _
  have hRl : 22 ≤ R.locals := by rw [← hRR]; exact Nat.le_refl _
  generalize hF : F_L_in α i n σ = rr
  unfold F_L_in at hF
  unfold P_L_in at hP
  refine q_go C tk_L_in [(0, 2)] [] (pc1 := 2) (σ1 := σ) (lv1 := [(0, .ref 335), (1, .int i), (2, .int n)]) (st1 := [.int i, .ref 335]) rfl trivial ?_
  refine q_callS C hfl mw_L_cell ms_L_cell lk_L_89 (k_L_cell i σ hP.1) (rest := []) rfl rfl (q_dc (z := (2, .invokestatic 89, 3, 0, 0)) tk_L_in 2 rfl) (Nat.le_of_ble_eq_true rfl) ⟨by omega, by omega⟩ ⟨by omega, by omega⟩ ?_
  refine q_nrm 5 [.int (F_L_cell α i σ)] 0 0 rfl rfl (by omega) (by omega) ?_
  refine q_nmI (fun x1 e2 => ?_)
  replace hF := q_let e2 hF
  refine q_ldc C ck_L_95 (q_dc (z := (5, .ldc 95, 2, 0, 0)) tk_L_in 3 rfl) ?_
  refine q_go C tk_L_in [(4, 3)] [] (pc1 := 10) (σ1 := σ) (lv1 := [(0, .ref 335), (1, .int i), (2, .int n)]) (st1 := [.int ((x1 &&& 2147483647) - (x1 &&& 2147483647) / n * n)]) rfl ⟨(hP.2 x1 e2).1, trivial⟩ ?_
  exact q_iret C hr (q_dc (z := (10, .ireturn, 1, 0, 0)) tk_L_in 7 rfl) rfl (congrArg q_oi hF.symm) (by omega) (by omega)
def FL_L_areAlike_2 (ζ : Nat → Nat) (a : Nat) (b : Nat) : Nat → Int32 → q_M → Int32
  | 0, v2, τ => 0
  | nn + 1, v2, τ => (if v2 < 130 then (if (τ a (v2).toNatClampNeg) = (τ b (v2).toNatClampNeg) then (FL_L_areAlike_2 ζ a b nn (v2 + 1) τ) else 0) else 1)
def PL_L_areAlike_2 (ζ : Nat → Nat) (a : Nat) (b : Nat) : Nat → Int32 → q_M → Prop
  | 0, v2, τ => False
  | nn + 1, v2, τ => ((v2 < 130 → (vp_in v2 130 ∧ (vp_in v2 130 ∧ (((τ a (v2).toNatClampNeg) = (τ b (v2).toNatClampNeg) → (PL_L_areAlike_2 ζ a b nn (v2 + 1) τ)) ∧ (¬ (τ a (v2).toNatClampNeg) = (τ b (v2).toNatClampNeg) → True))))) ∧ (¬ v2 < 130 → True))
set_option maxRecDepth 100000 in
theorem kl_L_areAlike_2 {α β : Nat → Nat} {D : va_G} {κ : Nat → ClassId} (a : Nat) (b : Nat) (h_a : q_row α a) (h_b : q_row α b) {p : Program} {l : Launch} {e : Env} {R : Room} {s : State} {m : MethodId} {args : Array Value} {below : List Frame} {meth : Method} {c : Code} {A : Nat → Prop} (hfl : l.flags = flags0) (C : q_Cx α β D κ p s m args meth c cL_areAlike RL (fun _ => none) (fun _ => none) 3 A) (hr : meth.sig.returnType = (Option.some Jvm.ClassFile.FieldType.boolean)) (hRf : 0 ≤ R.frames) (hRl : 0 ≤ R.locals) (T1 T2 : Nat) (hT1 : T1 ≤ R.cells) (hT2 : T2 ≤ R.slots) (hM1 : T1 ≤ 0) (hM2 : T2 ≤ 0) : ∀ (nn : Nat) (v2 : Int32) (τ : q_M) (u1 u2 : Nat) (rr : Int32), u1 + 0 * nn ≤ T1 → u2 + 0 * nn ≤ T2 → PL_L_areAlike_2 α a b nn v2 τ → FL_L_areAlike_2 α a b nn v2 τ = rr → q_St α β D κ p l e R s m args below meth c 3 A (vx_MQ below (q_Qc α β D κ A (q_oi rr) τ) (q_XC α β D κ A (q_oi rr) τ) args s 0 0 A) u1 u2 τ [(0, .ref a), (1, .ref b), (2, .int v2)] 2 [] := by
  intro nn
  induction nn with
  | zero => intro v2 τ u1 u2 rr hu1 hu2 hP; exact hP.elim
  | succ nn ih =>
    intro v2 τ u1 u2 rr hu1 hu2 hP hF
    unfold FL_L_areAlike_2 at hF
    refine q_go C tk_L_areAlike [(2, 2)] [] (pc1 := 4) (σ1 := τ) (lv1 := [(0, .ref a), (1, .ref b), (2, .int v2)]) (st1 := [.ref a, .int v2]) rfl trivial ?_
    refine q_rowLen C h_a (q_dc (z := (4, .arraylength, 1, 0, 20)) tk_L_areAlike 4 rfl) ?_
    refine q_nrm 5 [.int 130, .int v2] (u1 + 0) (u2 + 0) rfl rfl (by omega) (by omega) ?_
    by_cases c1 : v2 < 130
    · rw [if_pos c1] at hF
      refine q_go C tk_L_areAlike [(5, 3)] [false] (pc1 := 10) (σ1 := τ) (lv1 := [(0, .ref a), (1, .ref b), (2, .int v2)]) (st1 := [.int v2, .ref a]) rfl ⟨c1, trivial⟩ ?_
      refine q_rowAt C h_a (hP.1 c1).1 (q_dc (z := (10, .iaload, 1, 0, 0)) tk_L_areAlike 8 rfl) ?_
      refine q_nrm 11 [.int (τ a (v2).toNatClampNeg)] (u1 + 0) (u2 + 0) rfl rfl (by omega) (by omega) ?_
      refine q_go C tk_L_areAlike [(9, 2)] [] (pc1 := 13) (σ1 := τ) (lv1 := [(0, .ref a), (1, .ref b), (2, .int v2)]) (st1 := [.int v2, .ref b, .int (τ a (v2).toNatClampNeg)]) rfl trivial ?_
      refine q_rowAt C h_b (hP.1 c1).2.1 (q_dc (z := (13, .iaload, 1, 0, 0)) tk_L_areAlike 11 rfl) ?_
      refine q_nrm 14 [.int (τ b (v2).toNatClampNeg), .int (τ a (v2).toNatClampNeg)] (u1 + 0) (u2 + 0) rfl rfl (by omega) (by omega) ?_
      by_cases c2 : (τ a (v2).toNatClampNeg) = (τ b (v2).toNatClampNeg)
      · rw [if_pos c2] at hF
        refine q_go C tk_L_areAlike [(12, 1), (15, 2)] [true] (pc1 := 2) (σ1 := τ) (lv1 := [(2, .int (v2 + 1)), (0, .ref a), (1, .ref b)]) (st1 := []) rfl ⟨c2, trivial⟩ ?_
        refine q_lvpick [1, 2, 0] (lv' := [(0, .ref a), (1, .ref b), (2, .int (v2 + 1))]) rfl ?_
        exact ih (v2 + 1) τ (u1 + 0) (u2 + 0) rr (by omega) (by omega) ((hP.1 c1).2.2.1 c2) hF
      · rw [if_neg c2] at hF
        refine q_go C tk_L_areAlike [(12, 2)] [false] (pc1 := 18) (σ1 := τ) (lv1 := [(0, .ref a), (1, .ref b), (2, .int v2)]) (st1 := [.int 0]) rfl ⟨c2, trivial⟩ ?_
        exact q_zret C hr (q_dc (z := (18, .ireturn, 1, 0, 0)) tk_L_areAlike 14 rfl) (by decide +kernel) rfl (congrArg q_oi hF.symm) (by omega) (by omega)
    · rw [if_neg c1] at hF
      refine q_go C tk_L_areAlike [(5, 1), (17, 1)] [true] (pc1 := 26) (σ1 := τ) (lv1 := [(0, .ref a), (1, .ref b), (2, .int v2)]) (st1 := [.int 1]) rfl ⟨c1, trivial⟩ ?_
      exact q_zret C hr (q_dc (z := (26, .ireturn, 1, 0, 0)) tk_L_areAlike 18 rfl) (by decide +kernel) rfl (congrArg q_oi hF.symm) (by omega) (by omega)
def F_L_areAlike (ζ : Nat → Nat) (a : Nat) (b : Nat) (σ : q_M) : Int32 := (FL_L_areAlike_2 ζ a b 131 0 σ)
def P_L_areAlike (ζ : Nat → Nat) (a : Nat) (b : Nat) (σ : q_M) : Prop := (PL_L_areAlike_2 ζ a b 131 0 σ)
set_option maxRecDepth 100000 in
theorem k_L_areAlike {α β : Nat → Nat} {D : va_G} {κ : Nat → ClassId} (a : Nat) (b : Nat) (σ : q_M) (h_a : q_row α a) (h_b : q_row α b) (hP : P_L_areAlike α a b σ) : q_C α β D κ yL_areAlike cL_areAlike 3 (Option.some Jvm.ClassFile.FieldType.boolean) 0 0 0 0 [.ref a, .ref b] σ (q_oi (F_L_areAlike α a b σ)) σ := by
  refine q_enter (own := RL) (F := fun _ => none) (G := fun _ => none) (by decide +kernel) rfl Fok_L Gok_L (Nat.le_of_ble_eq_true rfl) (fun p l e s m args below meth c A hfl C hr hT => ?_)
  generalize hRR : ({ frames := 0, cells := 0, slots := 0, locals := 0 } : Room) = R
  have hRf : 0 ≤ R.frames := by rw [← hRR]; exact Nat.le_refl _
  have hRc : 0 ≤ R.cells := by rw [← hRR]; exact Nat.le_refl _
  have hRs : 0 ≤ R.slots := by rw [← hRR]; exact Nat.le_refl _
  have hRl : 0 ≤ R.locals := by rw [← hRR]; exact Nat.le_refl _
  generalize hF : F_L_areAlike α a b σ = rr
  unfold F_L_areAlike at hF
  unfold P_L_areAlike at hP
  refine q_go C tk_L_areAlike [(0, 2)] [] (pc1 := 2) (σ1 := σ) (lv1 := [(2, .int 0), (0, .ref a), (1, .ref b)]) (st1 := []) rfl trivial ?_
  refine q_lvpick [1, 2, 0] (lv' := [(0, .ref a), (1, .ref b), (2, .int 0)]) rfl ?_
  exact kl_L_areAlike_2 a b h_a h_b hfl C hr hRf hRl 0 0 (by omega) (by omega) (by omega) (by omega) 131 0 σ 0 0 rr (by omega) (by omega) hP hF
def F_L_group (t : Int32) (σ : q_M) : Int32 := (q_L (W_timeOf t σ) (fun x1 : Int32 => (if x1 < 0 then (q_L (F_N8_isRunning t σ) (fun x4 : Int32 => (if x4 = 0 then (q_L (F_X8_isStarted σ) (fun x7 : Int32 => (if x7 = 0 then 1 else 2))) else 1))) else 0)))
def P_L_group (t : Int32) (σ : q_M) : Prop := ((Q_timeOf t σ) ∧ (∀ x1 : Int32, (W_timeOf t σ) = x1 → ((x1 < 0 → ((P_N8_isRunning t σ) ∧ (∀ x4 : Int32, (F_N8_isRunning t σ) = x4 → ((x4 = 0 → ((P_X8_isStarted σ) ∧ True)) ∧ (¬ x4 = 0 → True))))) ∧ (¬ x1 < 0 → True))))
set_option maxRecDepth 100000 in
theorem k_L_group {α β : Nat → Nat} {D : va_G} {κ : Nat → ClassId} (t : Int32) (σ : q_M) (hP : P_L_group t σ) : q_C α β D κ yL_group cL_group 2 (Option.some Jvm.ClassFile.FieldType.int) 10 177 3 18 [.ref 220, .int t] σ (q_oi (F_L_group t σ)) σ := by
  refine q_enter (own := RL) (F := fun _ => none) (G := fun _ => none) (by decide +kernel) rfl Fok_L Gok_L (Nat.le_of_ble_eq_true rfl) (fun p l e s m args below meth c A hfl C hr hT => ?_)
  generalize hRR : ({ frames := 10, cells := 3, slots := 18, locals := 177 } : Room) = R
  have hRf : 10 ≤ R.frames := by rw [← hRR]; exact Nat.le_refl _
  have hRc : 3 ≤ R.cells := by rw [← hRR]; exact Nat.le_refl _
  have hRs : 18 ≤ R.slots := by rw [← hRR]; exact Nat.le_refl _
  have hRl : 177 ≤ R.locals := by rw [← hRR]; exact Nat.le_refl _
  generalize hF : F_L_group t σ = rr
  unfold F_L_group at hF
  unfold P_L_group at hP
  refine q_go C tk_L_group [(0, 2)] [] (pc1 := 2) (σ1 := σ) (lv1 := [(0, .ref 220), (1, .int t)]) (st1 := [.int t, .ref 220]) rfl trivial ?_
  refine q_callW (n := 2) C hfl cw_timeOf ⟨by decide +kernel, by decide +kernel, by decide +kernel⟩ q_init_QuillRelayLaw sw_timeOf lk_L_212 (kw_timeOf t σ hP.1) (rest := []) rfl rfl (q_dc (z := (2, .invokestatic 212, 3, 0, 0)) tk_L_group 2 rfl) (Nat.le_of_ble_eq_true rfl) ⟨by omega, by omega⟩ ⟨by omega, by omega⟩ ?_
  refine q_nrm 5 [.int (W_timeOf t σ)] 2 12 rfl rfl (by omega) (by omega) ?_
  refine q_nmI (fun x1 e2 => ?_)
  replace hF := q_let e2 hF
  by_cases c3 : x1 < 0
  · rw [if_pos c3] at hF
    refine q_go C tk_L_group [(3, 1), (6, 2)] [true] (pc1 := 14) (σ1 := σ) (lv1 := [(0, .ref 220), (1, .int t)]) (st1 := [.int t, .ref 220]) rfl ⟨c3, trivial⟩ ?_
    refine q_callV C hfl mw_X8_isRunning mi_X8_isRunning me_X8_isRunning lk_L_201 (n_X8_isRunning t σ ((hP.2 x1 e2).1 c3).1) (rest := []) rfl rfl rfl (by decide) (by decide) rfl (q_dc (z := (14, .invokevirtual 201, 3, 0, 0)) tk_L_group 8 rfl) (Nat.le_of_ble_eq_true rfl) ⟨by omega, by omega⟩ ⟨by omega, by omega⟩ ?_
    refine q_nrm 17 [.int (F_N8_isRunning t σ)] 3 18 rfl rfl (by omega) (by omega) ?_
    refine q_nmI (fun x4 e5 => ?_)
    replace hF := q_let e5 hF
    by_cases c6 : x4 = 0
    · rw [if_pos c6] at hF
      refine q_go C tk_L_group [(9, 2)] [false] (pc1 := 21) (σ1 := σ) (lv1 := [(0, .ref 220), (1, .int t)]) (st1 := [.ref 220]) rfl ⟨c6, trivial⟩ ?_
      refine q_callV C hfl mw_X8_isStarted mi_X8_isStarted me_X8_isStarted lk_L_133 (k_X8_isStarted σ ((((hP.2 x1 e2).1 c3).2 x4 e5).1 c6).1) (rest := []) rfl rfl rfl (by decide) (by decide) rfl (q_dc (z := (21, .invokevirtual 133, 3, 0, 0)) tk_L_group 11 rfl) (Nat.le_of_ble_eq_true rfl) ⟨by omega, by omega⟩ ⟨by omega, by omega⟩ ?_
      refine q_nrm 24 [.int (F_X8_isStarted σ)] 3 18 rfl rfl (by omega) (by omega) ?_
      refine q_nmI (fun x7 e8 => ?_)
      replace hF := q_let e8 hF
      by_cases c9 : x7 = 0
      · rw [if_pos c9] at hF
        refine q_go C tk_L_group [(12, 3)] [false] (pc1 := 32) (σ1 := σ) (lv1 := [(0, .ref 220), (1, .int t)]) (st1 := [.int 1]) rfl ⟨c9, trivial⟩ ?_
        exact q_iret C hr (q_dc (z := (32, .ireturn, 1, 0, 0)) tk_L_group 16 rfl) rfl (congrArg q_oi hF.symm) (by omega) (by omega)
      · rw [if_neg c9] at hF
        refine q_go C tk_L_group [(12, 1), (15, 1)] [true] (pc1 := 32) (σ1 := σ) (lv1 := [(0, .ref 220), (1, .int t)]) (st1 := [.int 2]) rfl ⟨c9, trivial⟩ ?_
        exact q_iret C hr (q_dc (z := (32, .ireturn, 1, 0, 0)) tk_L_group 16 rfl) rfl (congrArg q_oi hF.symm) (by omega) (by omega)
    · rw [if_neg c6] at hF
      refine q_go C tk_L_group [(9, 1), (13, 2)] [true] (pc1 := 32) (σ1 := σ) (lv1 := [(0, .ref 220), (1, .int t)]) (st1 := [.int 1]) rfl ⟨c6, trivial⟩ ?_
      exact q_iret C hr (q_dc (z := (32, .ireturn, 1, 0, 0)) tk_L_group 16 rfl) rfl (congrArg q_oi hF.symm) (by omega) (by omega)
  · rw [if_neg c3] at hF
    refine q_go C tk_L_group [(3, 3)] [false] (pc1 := 32) (σ1 := σ) (lv1 := [(0, .ref 220), (1, .int t)]) (st1 := [.int 0]) rfl ⟨c3, trivial⟩ ?_
    exact q_iret C hr (q_dc (z := (32, .ireturn, 1, 0, 0)) tk_L_group 16 rfl) rfl (congrArg q_oi hF.symm) (by omega) (by omega)
def F_L_isAhead (t : Int32) (u : Int32) (σ : q_M) : Int32 := (q_L (F_L_group u σ) (fun x1 : Int32 => (q_L (F_L_group t σ) (fun x3 : Int32 => (q_L (x1 - x3) (fun x5 : Int32 => (if x5 = 0 then (q_L (F_L_group t σ) (fun x8 : Int32 => (q_L (if x8 = 0 then ((W_resultOf u σ) - (W_resultOf t σ)) else ((F_N8_positionOf t σ) - (F_N8_positionOf u σ))) (fun x11 : Int32 => (if x11 = 0 then (q_L (F_N8_laneOf t σ) (fun x14 : Int32 => (q_L (F_N8_laneOf u σ) (fun x16 : Int32 => (if x14 < x16 then 1 else 0))))) else (if 0 < x11 then 1 else 0)))))) else (if 0 < x5 then 1 else 0))))))))
def P_L_isAhead (t : Int32) (u : Int32) (σ : q_M) : Prop := ((P_L_group u σ) ∧ (∀ x1 : Int32, (F_L_group u σ) = x1 → ((P_L_group t σ) ∧ (∀ x3 : Int32, (F_L_group t σ) = x3 → (∀ x5 : Int32, (x1 - x3) = x5 → ((x5 = 0 → ((P_L_group t σ) ∧ (∀ x8 : Int32, (F_L_group t σ) = x8 → (((x8 = 0 → ((Q_resultOf u σ) ∧ ((Q_resultOf t σ) ∧ True))) ∧ (¬ x8 = 0 → ((P_N8_positionOf t σ) ∧ ((P_N8_positionOf u σ) ∧ True)))) ∧ (∀ x11 : Int32, (if x8 = 0 then ((W_resultOf u σ) - (W_resultOf t σ)) else ((F_N8_positionOf t σ) - (F_N8_positionOf u σ))) = x11 → ((x11 = 0 → ((P_N8_laneOf t σ) ∧ (∀ x14 : Int32, (F_N8_laneOf t σ) = x14 → ((P_N8_laneOf u σ) ∧ True)))) ∧ (¬ x11 = 0 → True))))))) ∧ (¬ x5 = 0 → True)))))))
set_option maxRecDepth 100000 in
theorem k_L_isAhead {α β : Nat → Nat} {D : va_G} {κ : Nat → ClassId} (t : Int32) (u : Int32) (σ : q_M) (hP : P_L_isAhead t u σ) : q_C α β D κ yL_isAhead cL_isAhead 5 (Option.some Jvm.ClassFile.FieldType.boolean) 11 198 15 90 [.ref 220, .int t, .int u] σ (q_oi (F_L_isAhead t u σ)) σ := by
  refine q_enter (own := RL) (F := fun _ => none) (G := fun _ => none) (by decide +kernel) rfl Fok_L Gok_L (Nat.le_of_ble_eq_true rfl) (fun p l e s m args below meth c A hfl C hr hT => ?_)
  generalize hRR : ({ frames := 11, cells := 15, slots := 90, locals := 198 } : Room) = R
  have hRf : 11 ≤ R.frames := by rw [← hRR]; exact Nat.le_refl _
  have hRc : 15 ≤ R.cells := by rw [← hRR]; exact Nat.le_refl _
  have hRs : 90 ≤ R.slots := by rw [← hRR]; exact Nat.le_refl _
  have hRl : 198 ≤ R.locals := by rw [← hRR]; exact Nat.le_refl _
  generalize hF : F_L_isAhead t u σ = rr
  unfold F_L_isAhead at hF
  unfold P_L_isAhead at hP
  refine q_go C tk_L_isAhead [(0, 2)] [] (pc1 := 2) (σ1 := σ) (lv1 := [(0, .ref 220), (1, .int t), (2, .int u)]) (st1 := [.int u, .ref 220]) rfl trivial ?_
  refine q_callS C hfl mw_L_group ms_L_group lk_L_219 (k_L_group u σ hP.1) (rest := []) rfl rfl (q_dc (z := (2, .invokestatic 219, 3, 0, 0)) tk_L_isAhead 2 rfl) (Nat.le_of_ble_eq_true rfl) ⟨by omega, by omega⟩ ⟨by omega, by omega⟩ ?_
  refine q_nrm 5 [.int (F_L_group u σ)] 3 18 rfl rfl (by omega) (by omega) ?_
  refine q_nmI (fun x1 e2 => ?_)
  replace hF := q_let e2 hF
  refine q_go C tk_L_isAhead [(3, 2)] [] (pc1 := 7) (σ1 := σ) (lv1 := [(0, .ref 220), (1, .int t), (2, .int u)]) (st1 := [.int t, .ref 220, .int x1]) rfl trivial ?_
  refine q_callS C hfl mw_L_group ms_L_group lk_L_219 (k_L_group t σ (hP.2 x1 e2).1) (rest := [.int x1]) rfl rfl (q_dc (z := (7, .invokestatic 219, 3, 0, 0)) tk_L_isAhead 5 rfl) (Nat.le_of_ble_eq_true rfl) ⟨by omega, by omega⟩ ⟨by omega, by omega⟩ ?_
  refine q_nrm 10 [.int (F_L_group t σ), .int x1] 6 36 rfl rfl (by omega) (by omega) ?_
  refine q_nmI (fun x3 e4 => ?_)
  replace hF := q_let e4 hF
  refine q_go C tk_L_isAhead [(6, 1)] [] (pc1 := 11) (σ1 := σ) (lv1 := [(0, .ref 220), (1, .int t), (2, .int u)]) (st1 := [.int (x1 - x3)]) rfl trivial ?_
  refine q_nmI (fun x5 e6 => ?_)
  replace hF := q_let e6 hF
  refine q_go C tk_L_isAhead [(7, 2)] [] (pc1 := 13) (σ1 := σ) (lv1 := [(3, .int x5), (0, .ref 220), (1, .int t), (2, .int u)]) (st1 := [.int x5]) rfl trivial ?_
  by_cases c7 : x5 = 0
  · rw [if_pos c7] at hF
    refine q_go C tk_L_isAhead [(9, 1), (16, 2)] [true] (pc1 := 28) (σ1 := σ) (lv1 := [(3, .int x5), (0, .ref 220), (1, .int t), (2, .int u)]) (st1 := [.int t, .ref 220]) rfl ⟨c7, trivial⟩ ?_
    refine q_callS C hfl mw_L_group ms_L_group lk_L_219 (k_L_group t σ ((((hP.2 x1 e2).2 x3 e4) x5 e6).1 c7).1) (rest := []) rfl rfl (q_dc (z := (28, .invokestatic 219, 3, 0, 0)) tk_L_isAhead 18 rfl) (Nat.le_of_ble_eq_true rfl) ⟨by omega, by omega⟩ ⟨by omega, by omega⟩ ?_
    refine q_nrm 31 [.int (F_L_group t σ)] 9 54 rfl rfl (by omega) (by omega) ?_
    refine q_nmI (fun x8 e9 => ?_)
    replace hF := q_let e9 hF
    refine q_mrgW (v := (if x8 = 0 then ((W_resultOf u σ) - (W_resultOf t σ)) else ((F_N8_positionOf t σ) - (F_N8_positionOf u σ)))) (M := 59) (σ1 := σ) (lv1 := [(3, .int x5), (0, .ref 220), (1, .int t), (2, .int u)]) (st1 := []) (k1 := 13) (k2 := 78) (fun x11 e12 => ?_) (fun K => ?_)
    · replace hF := q_let e12 hF
      refine q_go C tk_L_isAhead [(35, 2)] [] (pc1 := 63) (σ1 := σ) (lv1 := [(4, .int x11), (3, .int x5), (0, .ref 220), (1, .int t), (2, .int u)]) (st1 := [.int x11]) rfl trivial ?_
      by_cases c13 : x11 = 0
      · rw [if_pos c13] at hF
        refine q_go C tk_L_isAhead [(37, 1), (44, 2)] [true] (pc1 := 81) (σ1 := σ) (lv1 := [(4, .int x11), (3, .int x5), (0, .ref 220), (1, .int t), (2, .int u)]) (st1 := [.int t, .ref 220]) rfl ⟨c13, trivial⟩ ?_
        refine q_callV C hfl mw_X8_laneOf mi_X8_laneOf me_X8_laneOf lk_L_192 (n_X8_laneOf t σ (((((((hP.2 x1 e2).2 x3 e4) x5 e6).1 c7).2 x8 e9).2 x11 e12).1 c13).1) (rest := []) rfl rfl rfl (by decide) (by decide) rfl (q_dc (z := (81, .invokevirtual 192, 3, 0, 0)) tk_L_isAhead 46 rfl) (Nat.le_of_ble_eq_true rfl) ⟨by omega, by omega⟩ ⟨by omega, by omega⟩ ?_
        refine q_nrm 84 [.int (F_N8_laneOf t σ)] 14 84 rfl rfl (by omega) (by omega) ?_
        refine q_nmI (fun x14 e15 => ?_)
        replace hF := q_let e15 hF
        refine q_go C tk_L_isAhead [(47, 2)] [] (pc1 := 86) (σ1 := σ) (lv1 := [(4, .int x11), (3, .int x5), (0, .ref 220), (1, .int t), (2, .int u)]) (st1 := [.int u, .ref 220, .int x14]) rfl trivial ?_
        refine q_callV C hfl mw_X8_laneOf mi_X8_laneOf me_X8_laneOf lk_L_192 (n_X8_laneOf u σ ((((((((hP.2 x1 e2).2 x3 e4) x5 e6).1 c7).2 x8 e9).2 x11 e12).1 c13).2 x14 e15).1) (rest := [.int x14]) rfl rfl rfl (by decide) (by decide) rfl (q_dc (z := (86, .invokevirtual 192, 3, 0, 0)) tk_L_isAhead 49 rfl) (Nat.le_of_ble_eq_true rfl) ⟨by omega, by omega⟩ ⟨by omega, by omega⟩ ?_
        refine q_nrm 89 [.int (F_N8_laneOf u σ), .int x14] 15 90 rfl rfl (by omega) (by omega) ?_
        refine q_nmI (fun x16 e17 => ?_)
        replace hF := q_let e17 hF
        by_cases c18 : x14 < x16
        · rw [if_pos c18] at hF
          refine q_go C tk_L_isAhead [(50, 3)] [false] (pc1 := 97) (σ1 := σ) (lv1 := [(4, .int x11), (3, .int x5), (0, .ref 220), (1, .int t), (2, .int u)]) (st1 := [.int 1]) rfl ⟨c18, trivial⟩ ?_
          exact q_zret C hr (q_dc (z := (97, .ireturn, 1, 0, 0)) tk_L_isAhead 54 rfl) (by decide +kernel) rfl (congrArg q_oi hF.symm) (by omega) (by omega)
        · rw [if_neg c18] at hF
          refine q_go C tk_L_isAhead [(50, 1), (53, 1)] [true] (pc1 := 97) (σ1 := σ) (lv1 := [(4, .int x11), (3, .int x5), (0, .ref 220), (1, .int t), (2, .int u)]) (st1 := [.int 0]) rfl ⟨c18, trivial⟩ ?_
          exact q_zret C hr (q_dc (z := (97, .ireturn, 1, 0, 0)) tk_L_isAhead 54 rfl) (by decide +kernel) rfl (congrArg q_oi hF.symm) (by omega) (by omega)
      · rw [if_neg c13] at hF
        refine q_go C tk_L_isAhead [(37, 2)] [false] (pc1 := 68) (σ1 := σ) (lv1 := [(4, .int x11), (3, .int x5), (0, .ref 220), (1, .int t), (2, .int u)]) (st1 := [.int x11]) rfl ⟨c13, trivial⟩ ?_
        by_cases c19 : 0 < x11
        · rw [if_pos c19] at hF
          refine q_go C tk_L_isAhead [(39, 3)] [false] (pc1 := 97) (σ1 := σ) (lv1 := [(4, .int x11), (3, .int x5), (0, .ref 220), (1, .int t), (2, .int u)]) (st1 := [.int 1]) rfl ⟨c19, trivial⟩ ?_
          exact q_zret C hr (q_dc (z := (97, .ireturn, 1, 0, 0)) tk_L_isAhead 54 rfl) (by decide +kernel) rfl (congrArg q_oi hF.symm) (by omega) (by omega)
        · rw [if_neg c19] at hF
          refine q_go C tk_L_isAhead [(39, 1), (42, 2)] [true] (pc1 := 97) (σ1 := σ) (lv1 := [(4, .int x11), (3, .int x5), (0, .ref 220), (1, .int t), (2, .int u)]) (st1 := [.int 0]) rfl ⟨c19, trivial⟩ ?_
          exact q_zret C hr (q_dc (z := (97, .ireturn, 1, 0, 0)) tk_L_isAhead 54 rfl) (by decide +kernel) rfl (congrArg q_oi hF.symm) (by omega) (by omega)
    · clear hF
      by_cases c10 : x8 = 0
      · skip
        refine q_go C tk_L_isAhead [(19, 3)] [false] (pc1 := 36) (σ1 := σ) (lv1 := [(3, .int x5), (0, .ref 220), (1, .int t), (2, .int u)]) (st1 := [.int u, .ref 220]) rfl ⟨c10, trivial⟩ ?_
        refine q_callW (n := 2) C hfl cw_resultOf ⟨by decide +kernel, by decide +kernel, by decide +kernel⟩ q_init_QuillRelayLaw sw_resultOf lk_L_222 (kw_resultOf u σ ((((((hP.2 x1 e2).2 x3 e4) x5 e6).1 c7).2 x8 e9).1.1 c10).1) (rest := []) rfl rfl (q_dc (z := (36, .invokestatic 222, 3, 0, 0)) tk_L_isAhead 22 rfl) (Nat.le_of_ble_eq_true rfl) ⟨by omega, by omega⟩ ⟨by omega, by omega⟩ ?_
        refine q_nrm 39 [.int (W_resultOf u σ)] 11 66 rfl rfl (by omega) (by omega) ?_
        refine q_go C tk_L_isAhead [(23, 2)] [] (pc1 := 41) (σ1 := σ) (lv1 := [(3, .int x5), (0, .ref 220), (1, .int t), (2, .int u)]) (st1 := [.int t, .ref 220, .int (W_resultOf u σ)]) rfl trivial ?_
        refine q_callW (n := 2) C hfl cw_resultOf ⟨by decide +kernel, by decide +kernel, by decide +kernel⟩ q_init_QuillRelayLaw sw_resultOf lk_L_222 (kw_resultOf t σ ((((((hP.2 x1 e2).2 x3 e4) x5 e6).1 c7).2 x8 e9).1.1 c10).2.1) (rest := [.int (W_resultOf u σ)]) rfl rfl (q_dc (z := (41, .invokestatic 222, 3, 0, 0)) tk_L_isAhead 25 rfl) (Nat.le_of_ble_eq_true rfl) ⟨by omega, by omega⟩ ⟨by omega, by omega⟩ ?_
        refine q_nrm 44 [.int (W_resultOf t σ), .int (W_resultOf u σ)] 13 78 rfl rfl (by omega) (by omega) ?_
        refine q_go C tk_L_isAhead [(26, 2)] [] (pc1 := 59) (σ1 := σ) (lv1 := [(3, .int x5), (0, .ref 220), (1, .int t), (2, .int u)]) (st1 := [.int ((W_resultOf u σ) - (W_resultOf t σ))]) rfl trivial ?_
        rw [if_pos c10] at K; exact q_wdn (by omega) (by omega) K
      · skip
        refine q_go C tk_L_isAhead [(19, 1), (28, 2)] [true] (pc1 := 50) (σ1 := σ) (lv1 := [(3, .int x5), (0, .ref 220), (1, .int t), (2, .int u)]) (st1 := [.int t, .ref 220]) rfl ⟨c10, trivial⟩ ?_
        refine q_callV C hfl mw_X8_positionOf mi_X8_positionOf me_X8_positionOf lk_L_195 (n_X8_positionOf t σ ((((((hP.2 x1 e2).2 x3 e4) x5 e6).1 c7).2 x8 e9).1.2 c10).1) (rest := []) rfl rfl rfl (by decide) (by decide) rfl (q_dc (z := (50, .invokevirtual 195, 3, 0, 0)) tk_L_isAhead 30 rfl) (Nat.le_of_ble_eq_true rfl) ⟨by omega, by omega⟩ ⟨by omega, by omega⟩ ?_
        refine q_nrm 53 [.int (F_N8_positionOf t σ)] 10 60 rfl rfl (by omega) (by omega) ?_
        refine q_go C tk_L_isAhead [(31, 2)] [] (pc1 := 55) (σ1 := σ) (lv1 := [(3, .int x5), (0, .ref 220), (1, .int t), (2, .int u)]) (st1 := [.int u, .ref 220, .int (F_N8_positionOf t σ)]) rfl trivial ?_
        refine q_callV C hfl mw_X8_positionOf mi_X8_positionOf me_X8_positionOf lk_L_195 (n_X8_positionOf u σ ((((((hP.2 x1 e2).2 x3 e4) x5 e6).1 c7).2 x8 e9).1.2 c10).2.1) (rest := [.int (F_N8_positionOf t σ)]) rfl rfl rfl (by decide) (by decide) rfl (q_dc (z := (55, .invokevirtual 195, 3, 0, 0)) tk_L_isAhead 33 rfl) (Nat.le_of_ble_eq_true rfl) ⟨by omega, by omega⟩ ⟨by omega, by omega⟩ ?_
        refine q_nrm 58 [.int (F_N8_positionOf u σ), .int (F_N8_positionOf t σ)] 11 66 rfl rfl (by omega) (by omega) ?_
        refine q_go C tk_L_isAhead [(34, 1)] [] (pc1 := 59) (σ1 := σ) (lv1 := [(3, .int x5), (0, .ref 220), (1, .int t), (2, .int u)]) (st1 := [.int ((F_N8_positionOf t σ) - (F_N8_positionOf u σ))]) rfl trivial ?_
        rw [if_neg c10] at K; exact q_wdn (by omega) (by omega) K
  · rw [if_neg c7] at hF
    refine q_go C tk_L_isAhead [(9, 2)] [false] (pc1 := 17) (σ1 := σ) (lv1 := [(3, .int x5), (0, .ref 220), (1, .int t), (2, .int u)]) (st1 := [.int x5]) rfl ⟨c7, trivial⟩ ?_
    by_cases c20 : 0 < x5
    · rw [if_pos c20] at hF
      refine q_go C tk_L_isAhead [(11, 3)] [false] (pc1 := 25) (σ1 := σ) (lv1 := [(3, .int x5), (0, .ref 220), (1, .int t), (2, .int u)]) (st1 := [.int 1]) rfl ⟨c20, trivial⟩ ?_
      exact q_zret C hr (q_dc (z := (25, .ireturn, 1, 0, 0)) tk_L_isAhead 15 rfl) (by decide +kernel) rfl (congrArg q_oi hF.symm) (by omega) (by omega)
    · rw [if_neg c20] at hF
      refine q_go C tk_L_isAhead [(11, 1), (14, 1)] [true] (pc1 := 25) (σ1 := σ) (lv1 := [(3, .int x5), (0, .ref 220), (1, .int t), (2, .int u)]) (st1 := [.int 0]) rfl ⟨c20, trivial⟩ ?_
      exact q_zret C hr (q_dc (z := (25, .ireturn, 1, 0, 0)) tk_L_isAhead 15 rfl) (by decide +kernel) rfl (congrArg q_oi hF.symm) (by omega) (by omega)
def FL_L_does_4 (ζ : Nat → Nat) : Nat → Int32 → Int32 → q_M → (Int32 × q_M)
  | 0, v2, v3, τ => (0, τ)
  | nn + 1, v2, v3, τ => (if v3 < (nI (ζ 700)) then (q_L (F_N8_type (nI (ζ (701 + (v3).toNatClampNeg))) τ).2 (fun σ9 : q_M => (q_L (F_N8_type (nI (ζ (701 + (v3).toNatClampNeg))) τ).1 (fun x11 : Int32 => (q_L (v2 + x11) (fun x13 : Int32 => (FL_L_does_4 ζ nn x13 (v3 + 1) σ9))))))) else (v2, τ))
def PL_L_does_4 (ζ : Nat → Nat) : Nat → Int32 → Int32 → q_M → Prop
  | 0, v2, v3, τ => False
  | nn + 1, v2, v3, τ => ((v3 < (nI (ζ 700)) → (vp_in v3 (ζ 700) ∧ ((P_N8_type (nI (ζ (701 + (v3).toNatClampNeg))) τ) ∧ (∀ σ9 : q_M, (F_N8_type (nI (ζ (701 + (v3).toNatClampNeg))) τ).2 = σ9 → (∀ x11 : Int32, (F_N8_type (nI (ζ (701 + (v3).toNatClampNeg))) τ).1 = x11 → (∀ x13 : Int32, (v2 + x11) = x13 → (PL_L_does_4 ζ nn x13 (v3 + 1) σ9))))))) ∧ (¬ v3 < (nI (ζ 700)) → True))
set_option maxRecDepth 100000 in
theorem kl_L_does_4 {α β : Nat → Nat} {D : va_G} {κ : Nat → ClassId} {p : Program} {l : Launch} {e : Env} {R : Room} {s : State} {m : MethodId} {args : Array Value} {below : List Frame} {meth : Method} {c : Code} {A : Nat → Prop} {Q : State → Prop} (hfl : l.flags = flags0) (C : q_Cx α β D κ p s m args meth c cL_does RL (fun _ => none) (fun _ => none) 4 A) (hRf : 12 ≤ R.frames) (hRl : 275 ≤ R.locals) (T1 T2 : Nat) (hT1 : T1 ≤ R.cells) (hT2 : T2 ≤ R.slots) : ∀ (nn : Nat) (v2 : Int32) (v3 : Int32) (τ : q_M) (u1 u2 : Nat), u1 + 1 * nn ≤ T1 → u2 + 204 * nn ≤ T2 → PL_L_does_4 α nn v2 v3 τ → (∀ (xo9 : Int32) (τ1 : q_M), FL_L_does_4 α nn v2 v3 τ = (xo9, τ1) → q_St α β D κ p l e R s m args below meth c 4 A Q T1 T2 τ1 [(0, .ref 220), (1, .ref 356), (2, .int xo9)] 30 []) → q_St α β D κ p l e R s m args below meth c 4 A Q u1 u2 τ [(0, .ref 220), (1, .ref 356), (2, .int v2), (3, .int v3)] 4 [] := by
  intro nn
  induction nn with
  | zero => intro v2 v3 τ u1 u2 hu1 hu2 hP; exact hP.elim
  | succ nn ih =>
    intro v2 v3 τ u1 u2 hu1 hu2 hP hK
    generalize hF : FL_L_does_4 α (nn + 1) v2 v3 τ = rr at hK
    unfold FL_L_does_4 at hF
    refine q_go C tk_L_does [(4, 2)] [] (pc1 := 6) (σ1 := τ) (lv1 := [(0, .ref 220), (1, .ref 356), (2, .int v2), (3, .int v3)]) (st1 := [.ref 356, .int v3]) rfl trivial ?_
    refine q_callG C hfl mw_J0_length_8abf5 mi_J0_length_8abf5 me_J0_length_8abf5 lk_L_96 (k_dynLen τ) (rest := [.int v3]) rfl (q_recvD C) rfl (q_dc (z := (6, .invokevirtual 96, 3, 0, 0)) tk_L_does 6 rfl) (Nat.le_of_ble_eq_true rfl) ⟨by omega, by omega⟩ ⟨by omega, by omega⟩ ?_
    refine q_nrm 9 [.int (nI (α 700)), .int v3] (u1 + 0) (u2 + 0) rfl rfl (by omega) (by omega) ?_
    by_cases c8 : v3 < (nI (α 700))
    · rw [if_pos c8] at hF
      refine q_go C tk_L_does [(7, 5)] [false] (pc1 := 16) (σ1 := τ) (lv1 := [(0, .ref 220), (1, .ref 356), (2, .int v2), (3, .int v3)]) (st1 := [.int v3, .ref 356, .ref 220, .int v2]) rfl ⟨c8, trivial⟩ ?_
      refine q_callG C hfl mw_J0_charAt_5068e mi_J0_charAt_5068e me_J0_charAt_5068e lk_L_101 (k_dynAt v3 τ (hP.1 c8).1) (rest := [.ref 220, .int v2]) rfl (q_recvD C) rfl (q_dc (z := (16, .invokevirtual 101, 3, 0, 0)) tk_L_does 12 rfl) (Nat.le_of_ble_eq_true rfl) ⟨by omega, by omega⟩ ⟨by omega, by omega⟩ ?_
      refine q_nrm 19 [.int (nI (α (701 + (v3).toNatClampNeg))), .ref 220, .int v2] (u1 + 0) (u2 + 0) rfl rfl (by omega) (by omega) ?_
      refine q_callV C hfl mw_X8_type mi_X8_type me_X8_type lk_L_105 (n_X8_type (nI (α (701 + (v3).toNatClampNeg))) τ (hP.1 c8).2.1) (rest := [.int v2]) rfl rfl rfl (by decide) (by decide) rfl (q_dc (z := (19, .invokevirtual 105, 3, 0, 0)) tk_L_does 13 rfl) (Nat.le_of_ble_eq_true rfl) ⟨by omega, by omega⟩ ⟨by omega, by omega⟩ ?_
      refine q_nrm 22 [.int (F_N8_type (nI (α (701 + (v3).toNatClampNeg))) τ).1, .int v2] (u1 + 1) (u2 + 204) rfl rfl (by omega) (by omega) ?_
      refine q_nmM (fun σ9 e10 => ?_)
      replace hF := q_let e10 hF
      refine q_nmI (fun x11 e12 => ?_)
      replace hF := q_let e12 hF
      refine q_go C tk_L_does [(14, 1)] [] (pc1 := 23) (σ1 := σ9) (lv1 := [(0, .ref 220), (1, .ref 356), (2, .int v2), (3, .int v3)]) (st1 := [.int (v2 + x11)]) rfl trivial ?_
      refine q_nmI (fun x13 e14 => ?_)
      replace hF := q_let e14 hF
      refine q_go C tk_L_does [(15, 3)] [] (pc1 := 4) (σ1 := σ9) (lv1 := [(3, .int (v3 + 1)), (2, .int x13), (0, .ref 220), (1, .ref 356)]) (st1 := []) rfl trivial ?_
      refine q_lvpick [2, 3, 1, 0] (lv' := [(0, .ref 220), (1, .ref 356), (2, .int x13), (3, .int (v3 + 1))]) rfl ?_
      exact ih x13 (v3 + 1) σ9 (u1 + 1) (u2 + 204) (by omega) (by omega) ((((hP.1 c8).2.2 σ9 e10) x11 e12) x13 e14) (by rw [hF]; exact hK)
    · rw [if_neg c8] at hF
      refine q_go C tk_L_does [(7, 1)] [true] (pc1 := 30) (σ1 := τ) (lv1 := [(0, .ref 220), (1, .ref 356), (2, .int v2), (3, .int v3)]) (st1 := []) rfl ⟨c8, trivial⟩ ?_
      refine q_wdn (k1 := T1) (k2 := T2) (by omega) (by omega) (q_lvpick [0, 1, 2] (lv' := [(0, .ref 220), (1, .ref 356), (2, .int v2)]) rfl ?_)
      exact hK _ _ hF.symm
def F_L_does (ζ : Nat → Nat) (σ : q_M) : (Int32) × q_M := (q_L2 (FL_L_does_4 ζ 101 0 0 σ) (fun (y2 : Int32) (σ1 : q_M) => (q_L (W_execute σ1).2 (fun σ4 : q_M => (q_L (W_execute σ1).1 (fun x6 : Int32 => (x6, σ4)))))))
def P_L_does (ζ : Nat → Nat) (σ : q_M) : Prop := ((PL_L_does_4 ζ 101 0 0 σ) ∧ (∀ (y2 : Int32) (σ1 : q_M), (FL_L_does_4 ζ 101 0 0 σ) = (y2, σ1) → (¬ y2 < 0 ∧ ((Q_execute σ1) ∧ True))))
set_option maxRecDepth 100000 in
theorem k_L_does {α β : Nat → Nat} {D : va_G} {κ : Nat → ClassId} (σ : q_M) (hP : P_L_does α σ) : q_C α β D κ yL_does cL_does 4 (Option.some Jvm.ClassFile.FieldType.int) 12 275 102 20610 [.ref 220, .ref 356] σ (q_oi (F_L_does α σ).1) (F_L_does α σ).2 := by
  refine q_enter (own := RL) (F := fun _ => none) (G := fun _ => none) (by decide +kernel) rfl Fok_L Gok_L (Nat.le_of_ble_eq_true rfl) (fun p l e s m args below meth c A hfl C hr hT => ?_)
  generalize hRR : ({ frames := 12, cells := 102, slots := 20610, locals := 275 } : Room) = R
  have hRf : 12 ≤ R.frames := by rw [← hRR]; exact Nat.le_refl _
  have hRc : 102 ≤ R.cells := by rw [← hRR]; exact Nat.le_refl _
  have hRs : 20610 ≤ R.slots := by rw [← hRR]; exact Nat.le_refl _
  have hRl : 275 ≤ R.locals := by rw [← hRR]; exact Nat.le_refl _
  generalize hF : F_L_does α σ = rr
  unfold F_L_does at hF
  unfold P_L_does at hP
  refine q_go C tk_L_does [(0, 4)] [] (pc1 := 4) (σ1 := σ) (lv1 := [(3, .int 0), (2, .int 0), (0, .ref 220), (1, .ref 356)]) (st1 := []) rfl trivial ?_
  refine q_lvpick [2, 3, 1, 0] (lv' := [(0, .ref 220), (1, .ref 356), (2, .int 0), (3, .int 0)]) rfl ?_
  refine kl_L_does_4   hfl C hRf hRl 101 20604 (by omega) (by omega) 101 0 0 σ 0 0 (by omega) (by omega) hP.1 (fun y2 σ1 e3 => ?_)
  replace hF := q_let2 e3 hF
  refine q_go C tk_L_does [(18, 1)] [] (pc1 := 31) (σ1 := σ1) (lv1 := [(0, .ref 220), (1, .ref 356), (2, .int y2)]) (st1 := [.int y2]) rfl trivial ?_
  refine q_go C tk_L_does [(19, 1)] [true] (pc1 := 39) (σ1 := σ1) (lv1 := [(0, .ref 220), (1, .ref 356), (2, .int y2)]) (st1 := []) rfl ⟨(hP.2 y2 σ1 e3).1, trivial⟩ ?_
  refine q_go C tk_L_does [(22, 1)] [] (pc1 := 40) (σ1 := σ1) (lv1 := [(0, .ref 220), (1, .ref 356), (2, .int y2)]) (st1 := [.ref 220]) rfl trivial ?_
  refine q_callW (n := 1) C hfl cw_execute ⟨by decide +kernel, by decide +kernel, by decide +kernel⟩ q_init_QuillRelayLaw sw_execute lk_L_110 (kw_execute σ1 (hP.2 y2 σ1 e3).2.1) (rest := []) rfl rfl (q_dc (z := (40, .invokestatic 110, 3, 0, 0)) tk_L_does 23 rfl) (Nat.le_of_ble_eq_true rfl) ⟨by omega, by omega⟩ ⟨by omega, by omega⟩ ?_
  refine q_nrm 43 [.int (W_execute σ1).1] 102 20610 rfl rfl (by omega) (by omega) ?_
  refine q_nmM (fun σ4 e5 => ?_)
  replace hF := q_let e5 hF
  refine q_nmI (fun x6 e7 => ?_)
  replace hF := q_let e7 hF
  exact q_iret C hr (q_dc (z := (43, .ireturn, 1, 0, 0)) tk_L_does 24 rfl) (congrArg Prod.snd hF) (congrArg (fun z => q_oi z.1) hF.symm) (by omega) (by omega)
