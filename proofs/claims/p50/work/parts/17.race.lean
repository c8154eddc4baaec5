/-! The class: 17.race. -/
def FL_X4_copyFrom_2 (r : Nat) (u : Nat) : Nat → Int32 → q_M → q_M
  | 0, v2, τ => τ
  | nn + 1, v2, τ => (if v2 < 6 then (q_L (F_X6_copyFrom ((r + 1) + 1 + 3 * (v2).toNatClampNeg) ((u + 1) + 1 + 3 * (v2).toNatClampNeg) τ) (fun σ2 : q_M => (FL_X4_copyFrom_2 r u nn (v2 + 1) σ2))) else (q_up (q_up (q_up τ r 1 (τ u 1)) r 2 (τ u 2)) r 3 (τ u 3)))
def PL_X4_copyFrom_2 (r : Nat) (u : Nat) : Nat → Int32 → q_M → Prop
  | 0, v2, τ => False
  | nn + 1, v2, τ => ((v2 < 6 → (vp_in v2 6 ∧ (vp_in v2 6 ∧ ((P_X6_copyFrom ((r + 1) + 1 + 3 * (v2).toNatClampNeg) ((u + 1) + 1 + 3 * (v2).toNatClampNeg) τ) ∧ (∀ σ2 : q_M, (F_X6_copyFrom ((r + 1) + 1 + 3 * (v2).toNatClampNeg) ((u + 1) + 1 + 3 * (v2).toNatClampNeg) τ) = σ2 → (PL_X4_copyFrom_2 r u nn (v2 + 1) σ2)))))) ∧ (¬ v2 < 6 → (((τ u 1) = 0 ∨ (τ u 1) = 1) ∧ True)))
set_option maxRecDepth 100000 in
theorem kl_X4_copyFrom_2 {α β : Nat → Nat} {D : va_G} {κ : Nat → ClassId} (r : Nat) (u : Nat) (h_r : q_kd r = 6) (h_u : q_kd u = 6) {p : Program} {l : Launch} {e : Env} {s : State} {m : MethodId} {args : Array Value} {below : List Frame} {meth : Method} {c : Code} {A : Nat → Prop} (hfl : l.flags = flags0) (C : q_Cx α β D κ p s m args meth c cX4_copyFrom RX4 F_X4 G_X4 3 A) (hr : meth.sig.returnType = (Option.none : Option Jvm.ClassFile.FieldType)) (hT : ∀ x ∈ c.exceptionTable.toList, False) : ∀ (nn : Nat) (v2 : Int32) (τ : q_M) (rr : q_M), PL_X4_copyFrom_2 r u nn v2 τ → FL_X4_copyFrom_2 r u nn v2 τ = rr → q_St α β D κ p l e ({ frames := 3, cells := 0, slots := 0, locals := 64 } : Room) s m args below meth c 3 A (vx_MQ below (q_Qc α β D κ A q_ov rr) (q_XC α β D κ A q_ov rr) args s 0 0 A) 0 0 τ [(0, .ref r), (1, .ref u), (2, .int v2)] 2 [] := by
  intro nn
  induction nn with
  | zero => intro v2 τ rr hP; exact hP.elim
  | succ nn ih =>
    intro v2 τ rr hP hF
    unfold FL_X4_copyFrom_2 at hF
    refine q_go C tk_X4_copyFrom [(2, 4)] [] (pc1 := 8) (σ1 := τ) (lv1 := [(0, .ref r), (1, .ref u), (2, .int v2)]) (st1 := [.int 6, .int v2]) rfl ⟨h_r, (q_kd_ta h_r), trivial⟩ ?_
    by_cases c1 : v2 < 6
    · rw [if_pos c1] at hF
      refine q_go C tk_X4_copyFrom [(6, 14)] [false, false] (pc1 := 32) (σ1 := τ) (lv1 := [(0, .ref r), (1, .ref u), (2, .int v2)]) (st1 := [.ref ((u + 1) + 1 + 3 * (v2).toNatClampNeg), .ref ((r + 1) + 1 + 3 * (v2).toNatClampNeg)]) rfl ⟨c1, h_u, (q_kd_ta h_u), c1, h_r, (q_kd_ta h_r), (hP.1 c1).1, h_u, (q_kd_ta h_u), (hP.1 c1).2.1, trivial⟩ ?_
      refine q_callV C hfl mw_X6_copyFrom mi_X6_copyFrom me_X6_copyFrom lk_X4_24 (k_X6_copyFrom ((r + 1) + 1 + 3 * (v2).toNatClampNeg) ((u + 1) + 1 + 3 * (v2).toNatClampNeg) τ (q_kd_te (q_kd_ta h_r) (hP.1 c1).2.1) (q_kd_te (q_kd_ta h_u) (hP.1 c1).2.1) (hP.1 c1).2.2.1) (rest := []) rfl (q_kd_te (q_kd_ta h_r) (hP.1 c1).2.1) rfl (by decide) (by decide) rfl (q_dc (z := (32, .invokevirtual 24, 3, 0, 0)) tk_X4_copyFrom 20 rfl) (Nat.le_of_ble_eq_true rfl) ⟨Nat.le_of_ble_eq_true rfl, Nat.le_of_ble_eq_true rfl⟩ ⟨Nat.le_of_ble_eq_true rfl, Nat.le_of_ble_eq_true rfl⟩ ?_
      refine q_nrm 35 [] 0 0 rfl rfl rfl rfl ?_
      generalize e3 : (F_X6_copyFrom ((r + 1) + 1 + 3 * (v2).toNatClampNeg) ((u + 1) + 1 + 3 * (v2).toNatClampNeg) τ) = σ2
      replace hF := q_let e3 hF
      refine q_go C tk_X4_copyFrom [(21, 2)] [] (pc1 := 2) (σ1 := σ2) (lv1 := [(2, .int (v2 + 1)), (0, .ref r), (1, .ref u)]) (st1 := []) rfl trivial ?_
      refine q_lvpick [1, 2, 0] (lv' := [(0, .ref r), (1, .ref u), (2, .int (v2 + 1))]) rfl ?_
      exact ih (v2 + 1) σ2 rr ((hP.1 c1).2.2.2 σ2 e3) hF
    · rw [if_neg c1] at hF
      refine q_go C tk_X4_copyFrom [(6, 1), (23, 12)] [true] (pc1 := 65) (σ1 := (q_up (q_up (q_up τ r 1 (τ u 1)) r 2 (τ u 2)) r 3 (τ u 3))) (lv1 := [(0, .ref r), (1, .ref u), (2, .int v2)]) (st1 := []) rfl ⟨c1, h_u, h_r, (hP.2 c1).1, h_u, h_r, h_u, h_r, trivial⟩ ?_
      exact q_vret C hr (q_dc (z := (65, .return_, 1, 0, 0)) tk_X4_copyFrom 35 rfl) hF rfl (Nat.le_of_ble_eq_true rfl) (Nat.le_of_ble_eq_true rfl)
def F_X4_copyFrom (r : Nat) (u : Nat) (σ : q_M) : q_M := (FL_X4_copyFrom_2 r u 8 0 σ)
def P_X4_copyFrom (r : Nat) (u : Nat) (σ : q_M) : Prop := (PL_X4_copyFrom_2 r u 8 0 σ)
set_option maxRecDepth 100000 in
theorem k_X4_copyFrom {α β : Nat → Nat} {D : va_G} {κ : Nat → ClassId} (r : Nat) (u : Nat) (σ : q_M) (h_r : q_kd r = 6) (h_u : q_kd u = 6) (hP : P_X4_copyFrom r u σ) : q_C α β D κ yX4_copyFrom cX4_copyFrom 3 (Option.none : Option Jvm.ClassFile.FieldType) 3 64 0 0 [.ref r, .ref u] σ q_ov (F_X4_copyFrom r u σ) := by
  refine q_enter (own := RX4) (F := F_X4) (G := G_X4) (by decide +kernel) rfl Fok_X4 Gok_X4 (Nat.le_of_ble_eq_true rfl) (fun p l e s m args below meth c A hfl C hr hT => ?_)
  generalize hF : F_X4_copyFrom r u σ = rr
  unfold F_X4_copyFrom at hF
  refine q_go C tk_X4_copyFrom [(0, 2)] [] (pc1 := 2) (σ1 := σ) (lv1 := [(2, .int 0), (0, .ref r), (1, .ref u)]) (st1 := []) rfl trivial ?_
  refine q_lvpick [1, 2, 0] (lv' := [(0, .ref r), (1, .ref u), (2, .int 0)]) rfl ?_
  exact kl_X4_copyFrom_2 r u h_r h_u hfl C hr hT 8 0 σ rr hP hF
def F_X4_find (r : Nat) (n : Int32) (σ : q_M) : Option Nat := (if n < 0 then none else (if n < 6 then (if (σ ((r + 1) + 1 + 3 * (n).toNatClampNeg) 3) = 0 then none else (some ((r + 1) + 1 + 3 * (n).toNatClampNeg))) else none))
def P_X4_find (r : Nat) (n : Int32) (σ : q_M) : Prop := ((n < 0 → True) ∧ (¬ n < 0 → ((n < 6 → (vp_in n 6 ∧ True)) ∧ (¬ n < 6 → True))))
set_option maxRecDepth 100000 in
theorem k_X4_find {α β : Nat → Nat} {D : va_G} {κ : Nat → ClassId} (r : Nat) (n : Int32) (σ : q_M) (h_r : q_kd r = 6) (hP : P_X4_find r n σ) : q_C α β D κ yX4_find cX4_find 3 (Option.some (Jvm.ClassFile.FieldType.object "QuillRelay$Team")) 0 0 0 0 [.ref r, .int n] σ (q_oo (F_X4_find r n σ)) σ := by
  refine q_enter (own := RX4) (F := F_X4) (G := G_X4) (by decide +kernel) rfl Fok_X4 Gok_X4 (Nat.le_of_ble_eq_true rfl) (fun p l e s m args below meth c A hfl C hr hT => ?_)
  generalize hF : F_X4_find r n σ = rr
  unfold F_X4_find at hF
  refine q_go C tk_X4_find [(0, 1)] [] (pc1 := 1) (σ1 := σ) (lv1 := [(0, .ref r), (1, .int n)]) (st1 := [.int n]) rfl trivial ?_
  by_cases c1 : n < 0
  · rw [if_pos c1] at hF
    refine q_go C tk_X4_find [(1, 1), (7, 1)] [true] (pc1 := 14) (σ1 := σ) (lv1 := [(0, .ref r), (1, .int n)]) (st1 := [.null]) rfl ⟨c1, trivial⟩ ?_
    exact q_aret C hr (q_dc (z := (14, .areturn, 1, 0, 0)) tk_X4_find 8 rfl) q_rnul rfl (congrArg q_oo hF.symm) (Nat.le_of_ble_eq_true rfl) (Nat.le_of_ble_eq_true rfl)
  · rw [if_neg c1] at hF
    refine q_go C tk_X4_find [(1, 5)] [false] (pc1 := 10) (σ1 := σ) (lv1 := [(0, .ref r), (1, .int n)]) (st1 := [.int 6, .int n]) rfl ⟨c1, h_r, (q_kd_ta h_r), trivial⟩ ?_
    by_cases c2 : n < 6
    · rw [if_pos c2] at hF
      refine q_go C tk_X4_find [(6, 1), (9, 8)] [true] (pc1 := 29) (σ1 := σ) (lv1 := [(2, .ref ((r + 1) + 1 + 3 * (n).toNatClampNeg)), (0, .ref r), (1, .int n)]) (st1 := [q_e 0, q_e (σ ((r + 1) + 1 + 3 * (n).toNatClampNeg) 3)]) rfl ⟨c2, h_r, (q_kd_ta h_r), ((hP.2 c1).1 c2).1, (q_kd_te (q_kd_ta h_r) ((hP.2 c1).1 c2).1), trivial⟩ ?_
      by_cases c3 : (σ ((r + 1) + 1 + 3 * (n).toNatClampNeg) 3) = 0
      · rw [if_pos c3] at hF
        refine q_go C tk_X4_find [(17, 3)] [false] (pc1 := 37) (σ1 := σ) (lv1 := [(2, .ref ((r + 1) + 1 + 3 * (n).toNatClampNeg)), (0, .ref r), (1, .int n)]) (st1 := [.null]) rfl ⟨(congrArg Int32.toUInt32 c3), trivial⟩ ?_
        exact q_aret C hr (q_dc (z := (37, .areturn, 1, 0, 0)) tk_X4_find 21 rfl) q_rnul rfl (congrArg q_oo hF.symm) (Nat.le_of_ble_eq_true rfl) (Nat.le_of_ble_eq_true rfl)
      · rw [if_neg c3] at hF
        refine q_go C tk_X4_find [(17, 1), (20, 1)] [true] (pc1 := 37) (σ1 := σ) (lv1 := [(2, .ref ((r + 1) + 1 + 3 * (n).toNatClampNeg)), (0, .ref r), (1, .int n)]) (st1 := [.ref ((r + 1) + 1 + 3 * (n).toNatClampNeg)]) rfl ⟨(fun q => c3 (q_u32 q)), trivial⟩ ?_
        exact q_aret C hr (q_dc (z := (37, .areturn, 1, 0, 0)) tk_X4_find 21 rfl) q_rref rfl (congrArg q_oo hF.symm) (Nat.le_of_ble_eq_true rfl) (Nat.le_of_ble_eq_true rfl)
    · rw [if_neg c2] at hF
      refine q_go C tk_X4_find [(6, 2)] [false] (pc1 := 14) (σ1 := σ) (lv1 := [(0, .ref r), (1, .int n)]) (st1 := [.null]) rfl ⟨c2, trivial⟩ ?_
      exact q_aret C hr (q_dc (z := (14, .areturn, 1, 0, 0)) tk_X4_find 8 rfl) q_rnul rfl (congrArg q_oo hF.symm) (Nat.le_of_ble_eq_true rfl) (Nat.le_of_ble_eq_true rfl)
theorem p_X4_find (r : Nat) (n : Int32) (σ : q_M) : P_X4_find r n σ := by
  unfold P_X4_find
  exact ⟨fun _ => trivial, fun h1 => ⟨fun h2 => ⟨q_vlt h1 h2 rfl (by decide), trivial⟩, fun _ => trivial⟩⟩
theorem f_X4_find_kd {r : Nat} {n : Int32} {σ : q_M} {t : Nat} (h : q_kd r = 6) (hx : F_X4_find r n σ = some t) : q_kd t = 7 := by
  have hP := p_X4_find r n σ
  unfold F_X4_find at hx
  unfold P_X4_find at hP
  split at hx
  · cases hx
  next h1 =>
    split at hx
    next h2 =>
      split at hx
      · cases hx
      · cases hx
        exact q_kd_te (q_kd_ta h) ((hP.2 h1).1 h2).1
    · cases hx
theorem k_X4_find0 {α β : Nat → Nat} {D : va_G} {κ : Nat → ClassId} (r : Nat) (n : Int32) (σ : q_M) (h_r : q_kd r = 6) : q_C α β D κ yX4_find cX4_find 3 (Option.some (Jvm.ClassFile.FieldType.object "QuillRelay$Team")) 0 0 0 0 [.ref r, .int n] σ (q_oo (F_X4_find r n σ)) σ := k_X4_find r n σ h_r (p_X4_find r n σ)
def FL_X4_countIn_14 (r : Nat) (q : Int32) : Nat → Int32 → Int32 → q_M → Int32
  | 0, v2, v5, τ => 0
  | nn + 1, v2, v5, τ => (if v5 < 6 then (if (τ ((r + 1) + 1 + 3 * (v5).toNatClampNeg) 3) = q then (FL_X4_countIn_14 r q nn (v2 + 1) (v5 + 1) τ) else (FL_X4_countIn_14 r q nn v2 (v5 + 1) τ)) else v2)
def PL_X4_countIn_14 (r : Nat) (q : Int32) : Nat → Int32 → Int32 → q_M → Prop
  | 0, v2, v5, τ => False
  | nn + 1, v2, v5, τ => ((v5 < 6 → (vp_in v5 6 ∧ (((τ ((r + 1) + 1 + 3 * (v5).toNatClampNeg) 3) = q → (PL_X4_countIn_14 r q nn (v2 + 1) (v5 + 1) τ)) ∧ (¬ (τ ((r + 1) + 1 + 3 * (v5).toNatClampNeg) 3) = q → (PL_X4_countIn_14 r q nn v2 (v5 + 1) τ))))) ∧ (¬ v5 < 6 → True))
set_option maxRecDepth 100000 in
theorem kl_X4_countIn_14 {α β : Nat → Nat} {D : va_G} {κ : Nat → ClassId} (r : Nat) (q : Int32) (h_r : q_kd r = 6) {p : Program} {l : Launch} {e : Env} {s : State} {m : MethodId} {args : Array Value} {below : List Frame} {meth : Method} {c : Code} {A : Nat → Prop} (hfl : l.flags = flags0) (C : q_Cx α β D κ p s m args meth c cX4_countIn RX4 F_X4 G_X4 7 A) (hr : meth.sig.returnType = (Option.some Jvm.ClassFile.FieldType.int)) (hT : ∀ x ∈ c.exceptionTable.toList, False) : ∀ (nn : Nat) (v2 : Int32) (v5 : Int32) (τ : q_M) (rr : Int32), PL_X4_countIn_14 r q nn v2 v5 τ → FL_X4_countIn_14 r q nn v2 v5 τ = rr → q_St α β D κ p l e ({ frames := 0, cells := 0, slots := 0, locals := 0 } : Room) s m args below meth c 7 A (vx_MQ below (q_Qc α β D κ A (q_oi rr) τ) (q_XC α β D κ A (q_oi rr) τ) args s 0 0 A) 0 0 τ [(0, .ref r), (1, q_e q), (2, .int v2), (3, .ref (r + 1)), (4, .int 6), (5, .int v5)] 14 [] := by
  intro nn
  induction nn with
  | zero => intro v2 v5 τ rr hP; exact hP.elim
  | succ nn ih =>
    intro v2 v5 τ rr hP hF
    unfold FL_X4_countIn_14 at hF
    refine q_go C tk_X4_countIn [(10, 2)] [] (pc1 := 18) (σ1 := τ) (lv1 := [(0, .ref r), (1, q_e q), (2, .int v2), (3, .ref (r + 1)), (4, .int 6), (5, .int v5)]) (st1 := [.int 6, .int v5]) rfl trivial ?_
    by_cases c1 : v5 < 6
    · rw [if_pos c1] at hF
      refine q_go C tk_X4_countIn [(12, 8)] [false] (pc1 := 33) (σ1 := τ) (lv1 := [(6, .ref ((r + 1) + 1 + 3 * (v5).toNatClampNeg)), (0, .ref r), (1, q_e q), (2, .int v2), (3, .ref (r + 1)), (4, .int 6), (5, .int v5)]) (st1 := [q_e q, q_e (τ ((r + 1) + 1 + 3 * (v5).toNatClampNeg) 3)]) rfl ⟨c1, (q_kd_ta h_r), (hP.1 c1).1, (q_kd_te (q_kd_ta h_r) (hP.1 c1).1), trivial⟩ ?_
      by_cases c2 : (τ ((r + 1) + 1 + 3 * (v5).toNatClampNeg) 3) = q
      · rw [if_pos c2] at hF
        refine q_go C tk_X4_countIn [(20, 4)] [false] (pc1 := 14) (σ1 := τ) (lv1 := [(5, .int (v5 + 1)), (2, .int (v2 + 1)), (6, .ref ((r + 1) + 1 + 3 * (v5).toNatClampNeg)), (0, .ref r), (1, q_e q), (3, .ref (r + 1)), (4, .int 6)]) (st1 := []) rfl ⟨(congrArg Int32.toUInt32 c2), trivial⟩ ?_
        refine q_lvpick [3, 4, 1, 5, 6, 0] (lv' := [(0, .ref r), (1, q_e q), (2, .int (v2 + 1)), (3, .ref (r + 1)), (4, .int 6), (5, .int (v5 + 1))]) rfl ?_
        exact ih (v2 + 1) (v5 + 1) τ rr ((hP.1 c1).2.1 c2) hF
      · rw [if_neg c2] at hF
        refine q_go C tk_X4_countIn [(20, 1), (22, 2)] [true] (pc1 := 14) (σ1 := τ) (lv1 := [(5, .int (v5 + 1)), (6, .ref ((r + 1) + 1 + 3 * (v5).toNatClampNeg)), (0, .ref r), (1, q_e q), (2, .int v2), (3, .ref (r + 1)), (4, .int 6)]) (st1 := []) rfl ⟨(fun q => c2 (q_u32 q)), trivial⟩ ?_
        refine q_lvpick [2, 3, 4, 5, 6, 0] (lv' := [(0, .ref r), (1, q_e q), (2, .int v2), (3, .ref (r + 1)), (4, .int 6), (5, .int (v5 + 1))]) rfl ?_
        exact ih v2 (v5 + 1) τ rr ((hP.1 c1).2.2 c2) hF
    · rw [if_neg c1] at hF
      refine q_go C tk_X4_countIn [(12, 1), (24, 1)] [true] (pc1 := 46) (σ1 := τ) (lv1 := [(0, .ref r), (1, q_e q), (2, .int v2), (3, .ref (r + 1)), (4, .int 6), (5, .int v5)]) (st1 := [.int v2]) rfl ⟨c1, trivial⟩ ?_
      exact q_iret C hr (q_dc (z := (46, .ireturn, 1, 0, 0)) tk_X4_countIn 25 rfl) rfl (congrArg q_oi hF.symm) (Nat.le_of_ble_eq_true rfl) (Nat.le_of_ble_eq_true rfl)
def F_X4_countIn (r : Nat) (q : Int32) (σ : q_M) : Int32 := (FL_X4_countIn_14 r q 10 0 0 σ)
def P_X4_countIn (r : Nat) (q : Int32) (σ : q_M) : Prop := (PL_X4_countIn_14 r q 10 0 0 σ)
set_option maxRecDepth 100000 in
theorem k_X4_countIn {α β : Nat → Nat} {D : va_G} {κ : Nat → ClassId} (r : Nat) (q : Int32) (σ : q_M) (h_r : q_kd r = 6) (hP : P_X4_countIn r q σ) : q_C α β D κ yX4_countIn cX4_countIn 7 (Option.some Jvm.ClassFile.FieldType.int) 0 0 0 0 [.ref r, q_e q] σ (q_oi (F_X4_countIn r q σ)) σ := by
  refine q_enter (own := RX4) (F := F_X4) (G := G_X4) (by decide +kernel) rfl Fok_X4 Gok_X4 (Nat.le_of_ble_eq_true rfl) (fun p l e s m args below meth c A hfl C hr hT => ?_)
  generalize hF : F_X4_countIn r q σ = rr
  unfold F_X4_countIn at hF
  refine q_go C tk_X4_countIn [(0, 10)] [] (pc1 := 14) (σ1 := σ) (lv1 := [(5, .int 0), (4, .int 6), (3, .ref (r + 1)), (2, .int 0), (0, .ref r), (1, q_e q)]) (st1 := []) rfl ⟨h_r, (q_kd_ta h_r), trivial⟩ ?_
  refine q_lvpick [4, 5, 3, 2, 1, 0] (lv' := [(0, .ref r), (1, q_e q), (2, .int 0), (3, .ref (r + 1)), (4, .int 6), (5, .int 0)]) rfl ?_
  exact kl_X4_countIn_14 r q h_r hfl C hr hT 10 0 0 σ rr hP hF
def F_X4_countEntered (r : Nat) (σ : q_M) : Int32 := (6 - (F_X4_countIn r 0 σ))
def P_X4_countEntered (r : Nat) (σ : q_M) : Prop := ((P_X4_countIn r 0 σ) ∧ True)
set_option maxRecDepth 100000 in
theorem k_X4_countEntered {α β : Nat → Nat} {D : va_G} {κ : Nat → ClassId} (r : Nat) (σ : q_M) (h_r : q_kd r = 6) (hP : P_X4_countEntered r σ) : q_C α β D κ yX4_countEntered cX4_countEntered 1 (Option.some Jvm.ClassFile.FieldType.int) 1 26 0 0 [.ref r] σ (q_oi (F_X4_countEntered r σ)) σ := by
  refine q_enter (own := RX4) (F := F_X4) (G := G_X4) (by decide +kernel) rfl Fok_X4 Gok_X4 (Nat.le_of_ble_eq_true rfl) (fun p l e s m args below meth c A hfl C hr hT => ?_)
  generalize hF : F_X4_countEntered r σ = rr
  unfold F_X4_countEntered at hF
  refine q_go C tk_X4_countEntered [(0, 5)] [] (pc1 := 9) (σ1 := σ) (lv1 := [(0, .ref r)]) (st1 := [q_e 0, .ref r, .int 6]) rfl ⟨h_r, (q_kd_ta h_r), trivial⟩ ?_
  refine q_callV C hfl mw_X4_countIn mi_X4_countIn me_X4_countIn lk_X4_44 (k_X4_countIn r 0 σ h_r hP.1) (rest := [.int 6]) rfl h_r rfl (by decide) (by decide) rfl (q_dc (z := (9, .invokevirtual 44, 3, 0, 0)) tk_X4_countEntered 5 rfl) (Nat.le_of_ble_eq_true rfl) ⟨Nat.le_of_ble_eq_true rfl, Nat.le_of_ble_eq_true rfl⟩ ⟨Nat.le_of_ble_eq_true rfl, Nat.le_of_ble_eq_true rfl⟩ ?_
  refine q_nrm 12 [.int (F_X4_countIn r 0 σ), .int 6] 0 0 rfl rfl rfl rfl ?_
  refine q_go C tk_X4_countEntered [(6, 1)] [] (pc1 := 13) (σ1 := σ) (lv1 := [(0, .ref r)]) (st1 := [.int (6 - (F_X4_countIn r 0 σ))]) rfl trivial ?_
  exact q_iret C hr (q_dc (z := (13, .ireturn, 1, 0, 0)) tk_X4_countEntered 7 rfl) rfl (congrArg q_oi hF.symm) (Nat.le_of_ble_eq_true rfl) (Nat.le_of_ble_eq_true rfl)
def F_X4_countRunning (r : Nat) (σ : q_M) : Int32 := (F_X4_countIn r 2 σ)
def P_X4_countRunning (r : Nat) (σ : q_M) : Prop := ((P_X4_countIn r 2 σ) ∧ True)
set_option maxRecDepth 100000 in
theorem k_X4_countRunning {α β : Nat → Nat} {D : va_G} {κ : Nat → ClassId} (r : Nat) (σ : q_M) (h_r : q_kd r = 6) (hP : P_X4_countRunning r σ) : q_C α β D κ yX4_countRunning cX4_countRunning 1 (Option.some Jvm.ClassFile.FieldType.int) 1 26 0 0 [.ref r] σ (q_oi (F_X4_countRunning r σ)) σ := by
  refine q_enter (own := RX4) (F := F_X4) (G := G_X4) (by decide +kernel) rfl Fok_X4 Gok_X4 (Nat.le_of_ble_eq_true rfl) (fun p l e s m args below meth c A hfl C hr hT => ?_)
  generalize hF : F_X4_countRunning r σ = rr
  unfold F_X4_countRunning at hF
  refine q_go C tk_X4_countRunning [(0, 2)] [] (pc1 := 4) (σ1 := σ) (lv1 := [(0, .ref r)]) (st1 := [q_e 2, .ref r]) rfl trivial ?_
  refine q_callV C hfl mw_X4_countIn mi_X4_countIn me_X4_countIn lk_X4_44 (k_X4_countIn r 2 σ h_r hP.1) (rest := []) rfl h_r rfl (by decide) (by decide) rfl (q_dc (z := (4, .invokevirtual 44, 3, 0, 0)) tk_X4_countRunning 2 rfl) (Nat.le_of_ble_eq_true rfl) ⟨Nat.le_of_ble_eq_true rfl, Nat.le_of_ble_eq_true rfl⟩ ⟨Nat.le_of_ble_eq_true rfl, Nat.le_of_ble_eq_true rfl⟩ ?_
  refine q_nrm 7 [.int (F_X4_countIn r 2 σ)] 0 0 rfl rfl rfl rfl ?_
  exact q_iret C hr (q_dc (z := (7, .ireturn, 1, 0, 0)) tk_X4_countRunning 3 rfl) rfl (congrArg q_oi hF.symm) (Nat.le_of_ble_eq_true rfl) (Nat.le_of_ble_eq_true rfl)
def F_X4_countFinished (r : Nat) (σ : q_M) : Int32 := (F_X4_countIn r 3 σ)
def P_X4_countFinished (r : Nat) (σ : q_M) : Prop := ((P_X4_countIn r 3 σ) ∧ True)
set_option maxRecDepth 100000 in
theorem k_X4_countFinished {α β : Nat → Nat} {D : va_G} {κ : Nat → ClassId} (r : Nat) (σ : q_M) (h_r : q_kd r = 6) (hP : P_X4_countFinished r σ) : q_C α β D κ yX4_countFinished cX4_countFinished 1 (Option.some Jvm.ClassFile.FieldType.int) 1 26 0 0 [.ref r] σ (q_oi (F_X4_countFinished r σ)) σ := by
  refine q_enter (own := RX4) (F := F_X4) (G := G_X4) (by decide +kernel) rfl Fok_X4 Gok_X4 (Nat.le_of_ble_eq_true rfl) (fun p l e s m args below meth c A hfl C hr hT => ?_)
  generalize hF : F_X4_countFinished r σ = rr
  unfold F_X4_countFinished at hF
  refine q_go C tk_X4_countFinished [(0, 2)] [] (pc1 := 4) (σ1 := σ) (lv1 := [(0, .ref r)]) (st1 := [q_e 3, .ref r]) rfl trivial ?_
  refine q_callV C hfl mw_X4_countIn mi_X4_countIn me_X4_countIn lk_X4_44 (k_X4_countIn r 3 σ h_r hP.1) (rest := []) rfl h_r rfl (by decide) (by decide) rfl (q_dc (z := (4, .invokevirtual 44, 3, 0, 0)) tk_X4_countFinished 2 rfl) (Nat.le_of_ble_eq_true rfl) ⟨Nat.le_of_ble_eq_true rfl, Nat.le_of_ble_eq_true rfl⟩ ⟨Nat.le_of_ble_eq_true rfl, Nat.le_of_ble_eq_true rfl⟩ ?_
  refine q_nrm 7 [.int (F_X4_countIn r 3 σ)] 0 0 rfl rfl rfl rfl ?_
  exact q_iret C hr (q_dc (z := (7, .ireturn, 1, 0, 0)) tk_X4_countFinished 3 rfl) rfl (congrArg q_oi hF.symm) (Nat.le_of_ble_eq_true rfl) (Nat.le_of_ble_eq_true rfl)
def FL_X4_sumOfTimes_13 (r : Nat) : Nat → Int32 → Int32 → q_M → Int32
  | 0, v1, v4, τ => 0
  | nn + 1, v1, v4, τ => (if v4 < 6 then (if (τ ((r + 1) + 1 + 3 * (v4).toNatClampNeg) 3) = 3 then (q_L (v1 + (τ ((r + 1) + 1 + 3 * (v4).toNatClampNeg) 11)) (fun x3 : Int32 => (FL_X4_sumOfTimes_13 r nn x3 (v4 + 1) τ))) else (FL_X4_sumOfTimes_13 r nn v1 (v4 + 1) τ)) else v1)
def PL_X4_sumOfTimes_13 (r : Nat) : Nat → Int32 → Int32 → q_M → Prop
  | 0, v1, v4, τ => False
  | nn + 1, v1, v4, τ => ((v4 < 6 → (vp_in v4 6 ∧ (((τ ((r + 1) + 1 + 3 * (v4).toNatClampNeg) 3) = 3 → (∀ x3 : Int32, (v1 + (τ ((r + 1) + 1 + 3 * (v4).toNatClampNeg) 11)) = x3 → (PL_X4_sumOfTimes_13 r nn x3 (v4 + 1) τ))) ∧ (¬ (τ ((r + 1) + 1 + 3 * (v4).toNatClampNeg) 3) = 3 → (PL_X4_sumOfTimes_13 r nn v1 (v4 + 1) τ))))) ∧ (¬ v4 < 6 → True))
set_option maxRecDepth 100000 in
theorem kl_X4_sumOfTimes_13 {α β : Nat → Nat} {D : va_G} {κ : Nat → ClassId} (r : Nat) (h_r : q_kd r = 6) {p : Program} {l : Launch} {e : Env} {s : State} {m : MethodId} {args : Array Value} {below : List Frame} {meth : Method} {c : Code} {A : Nat → Prop} (hfl : l.flags = flags0) (C : q_Cx α β D κ p s m args meth c cX4_sumOfTimes RX4 F_X4 G_X4 6 A) (hr : meth.sig.returnType = (Option.some Jvm.ClassFile.FieldType.int)) (hT : ∀ x ∈ c.exceptionTable.toList, False) : ∀ (nn : Nat) (v1 : Int32) (v4 : Int32) (τ : q_M) (rr : Int32), PL_X4_sumOfTimes_13 r nn v1 v4 τ → FL_X4_sumOfTimes_13 r nn v1 v4 τ = rr → q_St α β D κ p l e ({ frames := 0, cells := 0, slots := 0, locals := 0 } : Room) s m args below meth c 6 A (vx_MQ below (q_Qc α β D κ A (q_oi rr) τ) (q_XC α β D κ A (q_oi rr) τ) args s 0 0 A) 0 0 τ [(0, .ref r), (1, .int v1), (2, .ref (r + 1)), (3, .int 6), (4, .int v4)] 13 [] := by
  intro nn
  induction nn with
  | zero => intro v1 v4 τ rr hP; exact hP.elim
  | succ nn ih =>
    intro v1 v4 τ rr hP hF
    unfold FL_X4_sumOfTimes_13 at hF
    refine q_go C tk_X4_sumOfTimes [(10, 2)] [] (pc1 := 16) (σ1 := τ) (lv1 := [(0, .ref r), (1, .int v1), (2, .ref (r + 1)), (3, .int 6), (4, .int v4)]) (st1 := [.int 6, .int v4]) rfl trivial ?_
    by_cases c1 : v4 < 6
    · rw [if_pos c1] at hF
      refine q_go C tk_X4_sumOfTimes [(12, 8)] [false] (pc1 := 33) (σ1 := τ) (lv1 := [(5, .ref ((r + 1) + 1 + 3 * (v4).toNatClampNeg)), (0, .ref r), (1, .int v1), (2, .ref (r + 1)), (3, .int 6), (4, .int v4)]) (st1 := [q_e 3, q_e (τ ((r + 1) + 1 + 3 * (v4).toNatClampNeg) 3)]) rfl ⟨c1, (q_kd_ta h_r), (hP.1 c1).1, (q_kd_te (q_kd_ta h_r) (hP.1 c1).1), trivial⟩ ?_
      by_cases c2 : (τ ((r + 1) + 1 + 3 * (v4).toNatClampNeg) 3) = 3
      · rw [if_pos c2] at hF
        refine q_go C tk_X4_sumOfTimes [(20, 5)] [false] (pc1 := 43) (σ1 := τ) (lv1 := [(5, .ref ((r + 1) + 1 + 3 * (v4).toNatClampNeg)), (0, .ref r), (1, .int v1), (2, .ref (r + 1)), (3, .int 6), (4, .int v4)]) (st1 := [.int (v1 + (τ ((r + 1) + 1 + 3 * (v4).toNatClampNeg) 11))]) rfl ⟨(congrArg Int32.toUInt32 c2), (q_kd_te (q_kd_ta h_r) (hP.1 c1).1), trivial⟩ ?_
        generalize e4 : (v1 + (τ ((r + 1) + 1 + 3 * (v4).toNatClampNeg) 11)) = x3
        replace hF := q_let e4 hF
        refine q_go C tk_X4_sumOfTimes [(25, 3)] [] (pc1 := 13) (σ1 := τ) (lv1 := [(4, .int (v4 + 1)), (1, .int x3), (5, .ref ((r + 1) + 1 + 3 * (v4).toNatClampNeg)), (0, .ref r), (2, .ref (r + 1)), (3, .int 6)]) (st1 := []) rfl trivial ?_
        refine q_lvpick [3, 1, 4, 5, 0] (lv' := [(0, .ref r), (1, .int x3), (2, .ref (r + 1)), (3, .int 6), (4, .int (v4 + 1))]) rfl ?_
        exact ih x3 (v4 + 1) τ rr (((hP.1 c1).2.1 c2) x3 e4) hF
      · rw [if_neg c2] at hF
        refine q_go C tk_X4_sumOfTimes [(20, 1), (26, 2)] [true] (pc1 := 13) (σ1 := τ) (lv1 := [(4, .int (v4 + 1)), (5, .ref ((r + 1) + 1 + 3 * (v4).toNatClampNeg)), (0, .ref r), (1, .int v1), (2, .ref (r + 1)), (3, .int 6)]) (st1 := []) rfl ⟨(fun q => c2 (q_u32 q)), trivial⟩ ?_
        refine q_lvpick [2, 3, 4, 5, 0] (lv' := [(0, .ref r), (1, .int v1), (2, .ref (r + 1)), (3, .int 6), (4, .int (v4 + 1))]) rfl ?_
        exact ih v1 (v4 + 1) τ rr ((hP.1 c1).2.2 c2) hF
    · rw [if_neg c1] at hF
      refine q_go C tk_X4_sumOfTimes [(12, 1), (28, 1)] [true] (pc1 := 51) (σ1 := τ) (lv1 := [(0, .ref r), (1, .int v1), (2, .ref (r + 1)), (3, .int 6), (4, .int v4)]) (st1 := [.int v1]) rfl ⟨c1, trivial⟩ ?_
      exact q_iret C hr (q_dc (z := (51, .ireturn, 1, 0, 0)) tk_X4_sumOfTimes 29 rfl) rfl (congrArg q_oi hF.symm) (Nat.le_of_ble_eq_true rfl) (Nat.le_of_ble_eq_true rfl)
def F_X4_sumOfTimes (r : Nat) (σ : q_M) : Int32 := (FL_X4_sumOfTimes_13 r 10 0 0 σ)
def P_X4_sumOfTimes (r : Nat) (σ : q_M) : Prop := (PL_X4_sumOfTimes_13 r 10 0 0 σ)
set_option maxRecDepth 100000 in
theorem k_X4_sumOfTimes {α β : Nat → Nat} {D : va_G} {κ : Nat → ClassId} (r : Nat) (σ : q_M) (h_r : q_kd r = 6) (hP : P_X4_sumOfTimes r σ) : q_C α β D κ yX4_sumOfTimes cX4_sumOfTimes 6 (Option.some Jvm.ClassFile.FieldType.int) 0 0 0 0 [.ref r] σ (q_oi (F_X4_sumOfTimes r σ)) σ := by
  refine q_enter (own := RX4) (F := F_X4) (G := G_X4) (by decide +kernel) rfl Fok_X4 Gok_X4 (Nat.le_of_ble_eq_true rfl) (fun p l e s m args below meth c A hfl C hr hT => ?_)
  generalize hF : F_X4_sumOfTimes r σ = rr
  unfold F_X4_sumOfTimes at hF
  refine q_go C tk_X4_sumOfTimes [(0, 10)] [] (pc1 := 13) (σ1 := σ) (lv1 := [(4, .int 0), (3, .int 6), (2, .ref (r + 1)), (1, .int 0), (0, .ref r)]) (st1 := []) rfl ⟨h_r, (q_kd_ta h_r), trivial⟩ ?_
  refine q_lvpick [4, 3, 2, 1, 0] (lv' := [(0, .ref r), (1, .int 0), (2, .ref (r + 1)), (3, .int 6), (4, .int 0)]) rfl ?_
  exact kl_X4_sumOfTimes_13 r h_r hfl C hr hT 10 0 0 σ rr hP hF
def FL_X4_numberInLane_11 (r : Nat) (q : Int32) : Nat → Int32 → q_M → Int32
  | 0, v4, τ => 0
  | nn + 1, v4, τ => (if v4 < 6 then (if (τ ((r + 1) + 1 + 3 * (v4).toNatClampNeg) 3) = 0 then (FL_X4_numberInLane_11 r q nn (v4 + 1) τ) else (if (τ ((r + 1) + 1 + 3 * (v4).toNatClampNeg) 4) = q then (τ ((r + 1) + 1 + 3 * (v4).toNatClampNeg) 0) else (FL_X4_numberInLane_11 r q nn (v4 + 1) τ))) else (-1))
def PL_X4_numberInLane_11 (r : Nat) (q : Int32) : Nat → Int32 → q_M → Prop
  | 0, v4, τ => False
  | nn + 1, v4, τ => ((v4 < 6 → (vp_in v4 6 ∧ (((τ ((r + 1) + 1 + 3 * (v4).toNatClampNeg) 3) = 0 → (PL_X4_numberInLane_11 r q nn (v4 + 1) τ)) ∧ (¬ (τ ((r + 1) + 1 + 3 * (v4).toNatClampNeg) 3) = 0 → (((τ ((r + 1) + 1 + 3 * (v4).toNatClampNeg) 4) = q → True) ∧ (¬ (τ ((r + 1) + 1 + 3 * (v4).toNatClampNeg) 4) = q → (PL_X4_numberInLane_11 r q nn (v4 + 1) τ))))))) ∧ (¬ v4 < 6 → True))
set_option maxRecDepth 100000 in
theorem kl_X4_numberInLane_11 {α β : Nat → Nat} {D : va_G} {κ : Nat → ClassId} (r : Nat) (q : Int32) (h_r : q_kd r = 6) {p : Program} {l : Launch} {e : Env} {s : State} {m : MethodId} {args : Array Value} {below : List Frame} {meth : Method} {c : Code} {A : Nat → Prop} (hfl : l.flags = flags0) (C : q_Cx α β D κ p s m args meth c cX4_numberInLane RX4 F_X4 G_X4 6 A) (hr : meth.sig.returnType = (Option.some Jvm.ClassFile.FieldType.int)) (hT : ∀ x ∈ c.exceptionTable.toList, False) : ∀ (nn : Nat) (v4 : Int32) (τ : q_M) (rr : Int32), PL_X4_numberInLane_11 r q nn v4 τ → FL_X4_numberInLane_11 r q nn v4 τ = rr → q_St α β D κ p l e ({ frames := 0, cells := 0, slots := 0, locals := 0 } : Room) s m args below meth c 6 A (vx_MQ below (q_Qc α β D κ A (q_oi rr) τ) (q_XC α β D κ A (q_oi rr) τ) args s 0 0 A) 0 0 τ [(0, .ref r), (1, .int q), (2, .ref (r + 1)), (3, .int 6), (4, .int v4)] 11 [] := by
  intro nn
  induction nn with
  | zero => intro v4 τ rr hP; exact hP.elim
  | succ nn ih =>
    intro v4 τ rr hP hF
    unfold FL_X4_numberInLane_11 at hF
    refine q_go C tk_X4_numberInLane [(8, 2)] [] (pc1 := 14) (σ1 := τ) (lv1 := [(0, .ref r), (1, .int q), (2, .ref (r + 1)), (3, .int 6), (4, .int v4)]) (st1 := [.int 6, .int v4]) rfl trivial ?_
    by_cases c1 : v4 < 6
    · rw [if_pos c1] at hF
      refine q_go C tk_X4_numberInLane [(10, 8)] [false] (pc1 := 31) (σ1 := τ) (lv1 := [(5, .ref ((r + 1) + 1 + 3 * (v4).toNatClampNeg)), (0, .ref r), (1, .int q), (2, .ref (r + 1)), (3, .int 6), (4, .int v4)]) (st1 := [q_e 0, q_e (τ ((r + 1) + 1 + 3 * (v4).toNatClampNeg) 3)]) rfl ⟨c1, (q_kd_ta h_r), (hP.1 c1).1, (q_kd_te (q_kd_ta h_r) (hP.1 c1).1), trivial⟩ ?_
      by_cases c2 : (τ ((r + 1) + 1 + 3 * (v4).toNatClampNeg) 3) = 0
      · rw [if_pos c2] at hF
        refine q_go C tk_X4_numberInLane [(18, 1), (26, 2)] [true] (pc1 := 11) (σ1 := τ) (lv1 := [(4, .int (v4 + 1)), (5, .ref ((r + 1) + 1 + 3 * (v4).toNatClampNeg)), (0, .ref r), (1, .int q), (2, .ref (r + 1)), (3, .int 6)]) (st1 := []) rfl ⟨(congrArg Int32.toUInt32 c2), trivial⟩ ?_
        refine q_lvpick [2, 3, 4, 5, 0] (lv' := [(0, .ref r), (1, .int q), (2, .ref (r + 1)), (3, .int 6), (4, .int (v4 + 1))]) rfl ?_
        exact ih (v4 + 1) τ rr ((hP.1 c1).2.1 c2) hF
      · rw [if_neg c2] at hF
        refine q_go C tk_X4_numberInLane [(18, 4)] [false] (pc1 := 40) (σ1 := τ) (lv1 := [(5, .ref ((r + 1) + 1 + 3 * (v4).toNatClampNeg)), (0, .ref r), (1, .int q), (2, .ref (r + 1)), (3, .int 6), (4, .int v4)]) (st1 := [.int q, .int (τ ((r + 1) + 1 + 3 * (v4).toNatClampNeg) 4)]) rfl ⟨(fun q => c2 (q_u32 q)), (q_kd_te (q_kd_ta h_r) (hP.1 c1).1), trivial⟩ ?_
        by_cases c3 : (τ ((r + 1) + 1 + 3 * (v4).toNatClampNeg) 4) = q
        · rw [if_pos c3] at hF
          refine q_go C tk_X4_numberInLane [(22, 3)] [false] (pc1 := 48) (σ1 := τ) (lv1 := [(5, .ref ((r + 1) + 1 + 3 * (v4).toNatClampNeg)), (0, .ref r), (1, .int q), (2, .ref (r + 1)), (3, .int 6), (4, .int v4)]) (st1 := [.int (τ ((r + 1) + 1 + 3 * (v4).toNatClampNeg) 0)]) rfl ⟨c3, (q_kd_te (q_kd_ta h_r) (hP.1 c1).1), trivial⟩ ?_
          exact q_iret C hr (q_dc (z := (48, .ireturn, 1, 0, 0)) tk_X4_numberInLane 25 rfl) rfl (congrArg q_oi hF.symm) (Nat.le_of_ble_eq_true rfl) (Nat.le_of_ble_eq_true rfl)
        · rw [if_neg c3] at hF
          refine q_go C tk_X4_numberInLane [(22, 1), (26, 2)] [true] (pc1 := 11) (σ1 := τ) (lv1 := [(4, .int (v4 + 1)), (5, .ref ((r + 1) + 1 + 3 * (v4).toNatClampNeg)), (0, .ref r), (1, .int q), (2, .ref (r + 1)), (3, .int 6)]) (st1 := []) rfl ⟨c3, trivial⟩ ?_
          refine q_lvpick [2, 3, 4, 5, 0] (lv' := [(0, .ref r), (1, .int q), (2, .ref (r + 1)), (3, .int 6), (4, .int (v4 + 1))]) rfl ?_
          exact ih (v4 + 1) τ rr (((hP.1 c1).2.2 c2).2 c3) hF
    · rw [if_neg c1] at hF
      refine q_go C tk_X4_numberInLane [(10, 1), (28, 1)] [true] (pc1 := 56) (σ1 := τ) (lv1 := [(0, .ref r), (1, .int q), (2, .ref (r + 1)), (3, .int 6), (4, .int v4)]) (st1 := [.int (-1)]) rfl ⟨c1, trivial⟩ ?_
      exact q_iret C hr (q_dc (z := (56, .ireturn, 1, 0, 0)) tk_X4_numberInLane 29 rfl) rfl (congrArg q_oi hF.symm) (Nat.le_of_ble_eq_true rfl) (Nat.le_of_ble_eq_true rfl)
def F_X4_numberInLane (r : Nat) (q : Int32) (σ : q_M) : Int32 := (FL_X4_numberInLane_11 r q 10 0 σ)
def P_X4_numberInLane (r : Nat) (q : Int32) (σ : q_M) : Prop := (PL_X4_numberInLane_11 r q 10 0 σ)
set_option maxRecDepth 100000 in
theorem k_X4_numberInLane {α β : Nat → Nat} {D : va_G} {κ : Nat → ClassId} (r : Nat) (q : Int32) (σ : q_M) (h_r : q_kd r = 6) (hP : P_X4_numberInLane r q σ) : q_C α β D κ yX4_numberInLane cX4_numberInLane 6 (Option.some Jvm.ClassFile.FieldType.int) 0 0 0 0 [.ref r, .int q] σ (q_oi (F_X4_numberInLane r q σ)) σ := by
  refine q_enter (own := RX4) (F := F_X4) (G := G_X4) (by decide +kernel) rfl Fok_X4 Gok_X4 (Nat.le_of_ble_eq_true rfl) (fun p l e s m args below meth c A hfl C hr hT => ?_)
  generalize hF : F_X4_numberInLane r q σ = rr
  unfold F_X4_numberInLane at hF
  refine q_go C tk_X4_numberInLane [(0, 8)] [] (pc1 := 11) (σ1 := σ) (lv1 := [(4, .int 0), (3, .int 6), (2, .ref (r + 1)), (0, .ref r), (1, .int q)]) (st1 := []) rfl ⟨h_r, (q_kd_ta h_r), trivial⟩ ?_
  refine q_lvpick [3, 4, 2, 1, 0] (lv' := [(0, .ref r), (1, .int q), (2, .ref (r + 1)), (3, .int 6), (4, .int 0)]) rfl ?_
  exact kl_X4_numberInLane_11 r q h_r hfl C hr hT 10 0 σ rr hP hF
def FL_X4_countAhead_14 (r : Nat) (t : Nat) : Nat → Int32 → Int32 → q_M → Int32
  | 0, v2, v5, τ => 0
  | nn + 1, v2, v5, τ => (if v5 < 6 then (if (τ ((r + 1) + 1 + 3 * (v5).toNatClampNeg) 3) = 0 then (FL_X4_countAhead_14 r t nn v2 (v5 + 1) τ) else (if (F_X6_isAheadOf ((r + 1) + 1 + 3 * (v5).toNatClampNeg) t τ) = 0 then (FL_X4_countAhead_14 r t nn v2 (v5 + 1) τ) else (FL_X4_countAhead_14 r t nn (v2 + 1) (v5 + 1) τ))) else v2)
def PL_X4_countAhead_14 (r : Nat) (t : Nat) : Nat → Int32 → Int32 → q_M → Prop
  | 0, v2, v5, τ => False
  | nn + 1, v2, v5, τ => ((v5 < 6 → (vp_in v5 6 ∧ (((τ ((r + 1) + 1 + 3 * (v5).toNatClampNeg) 3) = 0 → (PL_X4_countAhead_14 r t nn v2 (v5 + 1) τ)) ∧ (¬ (τ ((r + 1) + 1 + 3 * (v5).toNatClampNeg) 3) = 0 → ((P_X6_isAheadOf ((r + 1) + 1 + 3 * (v5).toNatClampNeg) t τ) ∧ (((F_X6_isAheadOf ((r + 1) + 1 + 3 * (v5).toNatClampNeg) t τ) = 0 → (PL_X4_countAhead_14 r t nn v2 (v5 + 1) τ)) ∧ (¬ (F_X6_isAheadOf ((r + 1) + 1 + 3 * (v5).toNatClampNeg) t τ) = 0 → (PL_X4_countAhead_14 r t nn (v2 + 1) (v5 + 1) τ)))))))) ∧ (¬ v5 < 6 → True))
set_option maxRecDepth 100000 in
theorem kl_X4_countAhead_14 {α β : Nat → Nat} {D : va_G} {κ : Nat → ClassId} (r : Nat) (t : Nat) (h_r : q_kd r = 6) (h_t : q_kd t = 7) {p : Program} {l : Launch} {e : Env} {s : State} {m : MethodId} {args : Array Value} {below : List Frame} {meth : Method} {c : Code} {A : Nat → Prop} (hfl : l.flags = flags0) (C : q_Cx α β D κ p s m args meth c cX4_countAhead RX4 F_X4 G_X4 7 A) (hr : meth.sig.returnType = (Option.some Jvm.ClassFile.FieldType.int)) (hT : ∀ x ∈ c.exceptionTable.toList, False) : ∀ (nn : Nat) (v2 : Int32) (v5 : Int32) (τ : q_M) (rr : Int32), PL_X4_countAhead_14 r t nn v2 v5 τ → FL_X4_countAhead_14 r t nn v2 v5 τ = rr → q_St α β D κ p l e ({ frames := 2, cells := 0, slots := 0, locals := 42 } : Room) s m args below meth c 7 A (vx_MQ below (q_Qc α β D κ A (q_oi rr) τ) (q_XC α β D κ A (q_oi rr) τ) args s 0 0 A) 0 0 τ [(0, .ref r), (1, .ref t), (2, .int v2), (3, .ref (r + 1)), (4, .int 6), (5, .int v5)] 14 [] := by
  intro nn
  induction nn with
  | zero => intro v2 v5 τ rr hP; exact hP.elim
  | succ nn ih =>
    intro v2 v5 τ rr hP hF
    unfold FL_X4_countAhead_14 at hF
    refine q_go C tk_X4_countAhead [(10, 2)] [] (pc1 := 18) (σ1 := τ) (lv1 := [(0, .ref r), (1, .ref t), (2, .int v2), (3, .ref (r + 1)), (4, .int 6), (5, .int v5)]) (st1 := [.int 6, .int v5]) rfl trivial ?_
    by_cases c1 : v5 < 6
    · rw [if_pos c1] at hF
      refine q_go C tk_X4_countAhead [(12, 8)] [false] (pc1 := 35) (σ1 := τ) (lv1 := [(6, .ref ((r + 1) + 1 + 3 * (v5).toNatClampNeg)), (0, .ref r), (1, .ref t), (2, .int v2), (3, .ref (r + 1)), (4, .int 6), (5, .int v5)]) (st1 := [q_e 0, q_e (τ ((r + 1) + 1 + 3 * (v5).toNatClampNeg) 3)]) rfl ⟨c1, (q_kd_ta h_r), (hP.1 c1).1, (q_kd_te (q_kd_ta h_r) (hP.1 c1).1), trivial⟩ ?_
      by_cases c2 : (τ ((r + 1) + 1 + 3 * (v5).toNatClampNeg) 3) = 0
      · rw [if_pos c2] at hF
        refine q_go C tk_X4_countAhead [(20, 1), (26, 2)] [true] (pc1 := 14) (σ1 := τ) (lv1 := [(5, .int (v5 + 1)), (6, .ref ((r + 1) + 1 + 3 * (v5).toNatClampNeg)), (0, .ref r), (1, .ref t), (2, .int v2), (3, .ref (r + 1)), (4, .int 6)]) (st1 := []) rfl ⟨(congrArg Int32.toUInt32 c2), trivial⟩ ?_
        refine q_lvpick [2, 3, 4, 5, 6, 0] (lv' := [(0, .ref r), (1, .ref t), (2, .int v2), (3, .ref (r + 1)), (4, .int 6), (5, .int (v5 + 1))]) rfl ?_
        exact ih v2 (v5 + 1) τ rr ((hP.1 c1).2.1 c2) hF
      · rw [if_neg c2] at hF
        refine q_go C tk_X4_countAhead [(20, 3)] [false] (pc1 := 41) (σ1 := τ) (lv1 := [(6, .ref ((r + 1) + 1 + 3 * (v5).toNatClampNeg)), (0, .ref r), (1, .ref t), (2, .int v2), (3, .ref (r + 1)), (4, .int 6), (5, .int v5)]) (st1 := [.ref t, .ref ((r + 1) + 1 + 3 * (v5).toNatClampNeg)]) rfl ⟨(fun q => c2 (q_u32 q)), trivial⟩ ?_
        refine q_callV C hfl mw_X6_isAheadOf mi_X6_isAheadOf me_X6_isAheadOf lk_X4_67 (k_X6_isAheadOf ((r + 1) + 1 + 3 * (v5).toNatClampNeg) t τ (q_kd_te (q_kd_ta h_r) (hP.1 c1).1) h_t ((hP.1 c1).2.2 c2).1) (rest := []) rfl (q_kd_te (q_kd_ta h_r) (hP.1 c1).1) rfl (by decide) (by decide) rfl (q_dc (z := (41, .invokevirtual 67, 3, 0, 0)) tk_X4_countAhead 23 rfl) (Nat.le_of_ble_eq_true rfl) ⟨Nat.le_of_ble_eq_true rfl, Nat.le_of_ble_eq_true rfl⟩ ⟨Nat.le_of_ble_eq_true rfl, Nat.le_of_ble_eq_true rfl⟩ ?_
        refine q_nrm 44 [.int (F_X6_isAheadOf ((r + 1) + 1 + 3 * (v5).toNatClampNeg) t τ)] 0 0 rfl rfl rfl rfl ?_
        by_cases c3 : (F_X6_isAheadOf ((r + 1) + 1 + 3 * (v5).toNatClampNeg) t τ) = 0
        · rw [if_pos c3] at hF
          refine q_go C tk_X4_countAhead [(24, 1), (26, 2)] [true] (pc1 := 14) (σ1 := τ) (lv1 := [(5, .int (v5 + 1)), (6, .ref ((r + 1) + 1 + 3 * (v5).toNatClampNeg)), (0, .ref r), (1, .ref t), (2, .int v2), (3, .ref (r + 1)), (4, .int 6)]) (st1 := []) rfl ⟨c3, trivial⟩ ?_
          refine q_lvpick [2, 3, 4, 5, 6, 0] (lv' := [(0, .ref r), (1, .ref t), (2, .int v2), (3, .ref (r + 1)), (4, .int 6), (5, .int (v5 + 1))]) rfl ?_
          exact ih v2 (v5 + 1) τ rr (((hP.1 c1).2.2 c2).2.1 c3) hF
        · rw [if_neg c3] at hF
          refine q_go C tk_X4_countAhead [(24, 4)] [false] (pc1 := 14) (σ1 := τ) (lv1 := [(5, .int (v5 + 1)), (2, .int (v2 + 1)), (6, .ref ((r + 1) + 1 + 3 * (v5).toNatClampNeg)), (0, .ref r), (1, .ref t), (3, .ref (r + 1)), (4, .int 6)]) (st1 := []) rfl ⟨c3, trivial⟩ ?_
          refine q_lvpick [3, 4, 1, 5, 6, 0] (lv' := [(0, .ref r), (1, .ref t), (2, .int (v2 + 1)), (3, .ref (r + 1)), (4, .int 6), (5, .int (v5 + 1))]) rfl ?_
          exact ih (v2 + 1) (v5 + 1) τ rr (((hP.1 c1).2.2 c2).2.2 c3) hF
    · rw [if_neg c1] at hF
      refine q_go C tk_X4_countAhead [(12, 1), (28, 1)] [true] (pc1 := 57) (σ1 := τ) (lv1 := [(0, .ref r), (1, .ref t), (2, .int v2), (3, .ref (r + 1)), (4, .int 6), (5, .int v5)]) (st1 := [.int v2]) rfl ⟨c1, trivial⟩ ?_
      exact q_iret C hr (q_dc (z := (57, .ireturn, 1, 0, 0)) tk_X4_countAhead 29 rfl) rfl (congrArg q_oi hF.symm) (Nat.le_of_ble_eq_true rfl) (Nat.le_of_ble_eq_true rfl)
def F_X4_countAhead (r : Nat) (t : Nat) (σ : q_M) : Int32 := (FL_X4_countAhead_14 r t 10 0 0 σ)
def P_X4_countAhead (r : Nat) (t : Nat) (σ : q_M) : Prop := (PL_X4_countAhead_14 r t 10 0 0 σ)
set_option maxRecDepth 100000 in
theorem k_X4_countAhead {α β : Nat → Nat} {D : va_G} {κ : Nat → ClassId} (r : Nat) (t : Nat) (σ : q_M) (h_r : q_kd r = 6) (h_t : q_kd t = 7) (hP : P_X4_countAhead r t σ) : q_C α β D κ yX4_countAhead cX4_countAhead 7 (Option.some Jvm.ClassFile.FieldType.int) 2 42 0 0 [.ref r, .ref t] σ (q_oi (F_X4_countAhead r t σ)) σ := by
  refine q_enter (own := RX4) (F := F_X4) (G := G_X4) (by decide +kernel) rfl Fok_X4 Gok_X4 (Nat.le_of_ble_eq_true rfl) (fun p l e s m args below meth c A hfl C hr hT => ?_)
  generalize hF : F_X4_countAhead r t σ = rr
  unfold F_X4_countAhead at hF
  refine q_go C tk_X4_countAhead [(0, 10)] [] (pc1 := 14) (σ1 := σ) (lv1 := [(5, .int 0), (4, .int 6), (3, .ref (r + 1)), (2, .int 0), (0, .ref r), (1, .ref t)]) (st1 := []) rfl ⟨h_r, (q_kd_ta h_r), trivial⟩ ?_
  refine q_lvpick [4, 5, 3, 2, 1, 0] (lv' := [(0, .ref r), (1, .ref t), (2, .int 0), (3, .ref (r + 1)), (4, .int 6), (5, .int 0)]) rfl ?_
  exact kl_X4_countAhead_14 r t h_r h_t hfl C hr hT 10 0 0 σ rr hP hF
def FL_X4_numberAtRank_11 (r : Nat) (q : Int32) : Nat → Int32 → q_M → Int32
  | 0, v4, τ => 0
  | nn + 1, v4, τ => (if v4 < 6 then (if (τ ((r + 1) + 1 + 3 * (v4).toNatClampNeg) 3) = 0 then (FL_X4_numberAtRank_11 r q nn (v4 + 1) τ) else (if (F_X4_countAhead r ((r + 1) + 1 + 3 * (v4).toNatClampNeg) τ) = q then (τ ((r + 1) + 1 + 3 * (v4).toNatClampNeg) 0) else (FL_X4_numberAtRank_11 r q nn (v4 + 1) τ))) else (-1))
def PL_X4_numberAtRank_11 (r : Nat) (q : Int32) : Nat → Int32 → q_M → Prop
  | 0, v4, τ => False
  | nn + 1, v4, τ => ((v4 < 6 → (vp_in v4 6 ∧ (((τ ((r + 1) + 1 + 3 * (v4).toNatClampNeg) 3) = 0 → (PL_X4_numberAtRank_11 r q nn (v4 + 1) τ)) ∧ (¬ (τ ((r + 1) + 1 + 3 * (v4).toNatClampNeg) 3) = 0 → ((P_X4_countAhead r ((r + 1) + 1 + 3 * (v4).toNatClampNeg) τ) ∧ (((F_X4_countAhead r ((r + 1) + 1 + 3 * (v4).toNatClampNeg) τ) = q → True) ∧ (¬ (F_X4_countAhead r ((r + 1) + 1 + 3 * (v4).toNatClampNeg) τ) = q → (PL_X4_numberAtRank_11 r q nn (v4 + 1) τ)))))))) ∧ (¬ v4 < 6 → True))
set_option maxRecDepth 100000 in
theorem kl_X4_numberAtRank_11 {α β : Nat → Nat} {D : va_G} {κ : Nat → ClassId} (r : Nat) (q : Int32) (h_r : q_kd r = 6) {p : Program} {l : Launch} {e : Env} {s : State} {m : MethodId} {args : Array Value} {below : List Frame} {meth : Method} {c : Code} {A : Nat → Prop} (hfl : l.flags = flags0) (C : q_Cx α β D κ p s m args meth c cX4_numberAtRank RX4 F_X4 G_X4 6 A) (hr : meth.sig.returnType = (Option.some Jvm.ClassFile.FieldType.int)) (hT : ∀ x ∈ c.exceptionTable.toList, False) : ∀ (nn : Nat) (v4 : Int32) (τ : q_M) (rr : Int32), PL_X4_numberAtRank_11 r q nn v4 τ → FL_X4_numberAtRank_11 r q nn v4 τ = rr → q_St α β D κ p l e ({ frames := 3, cells := 0, slots := 0, locals := 68 } : Room) s m args below meth c 6 A (vx_MQ below (q_Qc α β D κ A (q_oi rr) τ) (q_XC α β D κ A (q_oi rr) τ) args s 0 0 A) 0 0 τ [(0, .ref r), (1, .int q), (2, .ref (r + 1)), (3, .int 6), (4, .int v4)] 11 [] := by
  intro nn
  induction nn with
  | zero => intro v4 τ rr hP; exact hP.elim
  | succ nn ih =>
    intro v4 τ rr hP hF
    unfold FL_X4_numberAtRank_11 at hF
    refine q_go C tk_X4_numberAtRank [(8, 2)] [] (pc1 := 14) (σ1 := τ) (lv1 := [(0, .ref r), (1, .int q), (2, .ref (r + 1)), (3, .int 6), (4, .int v4)]) (st1 := [.int 6, .int v4]) rfl trivial ?_
    by_cases c1 : v4 < 6
    · rw [if_pos c1] at hF
      refine q_go C tk_X4_numberAtRank [(10, 8)] [false] (pc1 := 31) (σ1 := τ) (lv1 := [(5, .ref ((r + 1) + 1 + 3 * (v4).toNatClampNeg)), (0, .ref r), (1, .int q), (2, .ref (r + 1)), (3, .int 6), (4, .int v4)]) (st1 := [q_e 0, q_e (τ ((r + 1) + 1 + 3 * (v4).toNatClampNeg) 3)]) rfl ⟨c1, (q_kd_ta h_r), (hP.1 c1).1, (q_kd_te (q_kd_ta h_r) (hP.1 c1).1), trivial⟩ ?_
      by_cases c2 : (τ ((r + 1) + 1 + 3 * (v4).toNatClampNeg) 3) = 0
      · rw [if_pos c2] at hF
        refine q_go C tk_X4_numberAtRank [(18, 1), (27, 2)] [true] (pc1 := 11) (σ1 := τ) (lv1 := [(4, .int (v4 + 1)), (5, .ref ((r + 1) + 1 + 3 * (v4).toNatClampNeg)), (0, .ref r), (1, .int q), (2, .ref (r + 1)), (3, .int 6)]) (st1 := []) rfl ⟨(congrArg Int32.toUInt32 c2), trivial⟩ ?_
        refine q_lvpick [2, 3, 4, 5, 0] (lv' := [(0, .ref r), (1, .int q), (2, .ref (r + 1)), (3, .int 6), (4, .int (v4 + 1))]) rfl ?_
        exact ih (v4 + 1) τ rr ((hP.1 c1).2.1 c2) hF
      · rw [if_neg c2] at hF
        refine q_go C tk_X4_numberAtRank [(18, 3)] [false] (pc1 := 37) (σ1 := τ) (lv1 := [(5, .ref ((r + 1) + 1 + 3 * (v4).toNatClampNeg)), (0, .ref r), (1, .int q), (2, .ref (r + 1)), (3, .int 6), (4, .int v4)]) (st1 := [.ref ((r + 1) + 1 + 3 * (v4).toNatClampNeg), .ref r]) rfl ⟨(fun q => c2 (q_u32 q)), trivial⟩ ?_
        refine q_callV C hfl mw_X4_countAhead mi_X4_countAhead me_X4_countAhead lk_X4_63 (k_X4_countAhead r ((r + 1) + 1 + 3 * (v4).toNatClampNeg) τ h_r (q_kd_te (q_kd_ta h_r) (hP.1 c1).1) ((hP.1 c1).2.2 c2).1) (rest := []) rfl h_r rfl (by decide) (by decide) rfl (q_dc (z := (37, .invokevirtual 63, 3, 0, 0)) tk_X4_numberAtRank 21 rfl) (Nat.le_of_ble_eq_true rfl) ⟨Nat.le_of_ble_eq_true rfl, Nat.le_of_ble_eq_true rfl⟩ ⟨Nat.le_of_ble_eq_true rfl, Nat.le_of_ble_eq_true rfl⟩ ?_
        refine q_nrm 40 [.int (F_X4_countAhead r ((r + 1) + 1 + 3 * (v4).toNatClampNeg) τ)] 0 0 rfl rfl rfl rfl ?_
        refine q_go C tk_X4_numberAtRank [(22, 1)] [] (pc1 := 41) (σ1 := τ) (lv1 := [(5, .ref ((r + 1) + 1 + 3 * (v4).toNatClampNeg)), (0, .ref r), (1, .int q), (2, .ref (r + 1)), (3, .int 6), (4, .int v4)]) (st1 := [.int q, .int (F_X4_countAhead r ((r + 1) + 1 + 3 * (v4).toNatClampNeg) τ)]) rfl trivial ?_
        by_cases c3 : (F_X4_countAhead r ((r + 1) + 1 + 3 * (v4).toNatClampNeg) τ) = q
        · rw [if_pos c3] at hF
          refine q_go C tk_X4_numberAtRank [(23, 3)] [false] (pc1 := 49) (σ1 := τ) (lv1 := [(5, .ref ((r + 1) + 1 + 3 * (v4).toNatClampNeg)), (0, .ref r), (1, .int q), (2, .ref (r + 1)), (3, .int 6), (4, .int v4)]) (st1 := [.int (τ ((r + 1) + 1 + 3 * (v4).toNatClampNeg) 0)]) rfl ⟨c3, (q_kd_te (q_kd_ta h_r) (hP.1 c1).1), trivial⟩ ?_
          exact q_iret C hr (q_dc (z := (49, .ireturn, 1, 0, 0)) tk_X4_numberAtRank 26 rfl) rfl (congrArg q_oi hF.symm) (Nat.le_of_ble_eq_true rfl) (Nat.le_of_ble_eq_true rfl)
        · rw [if_neg c3] at hF
          refine q_go C tk_X4_numberAtRank [(23, 1), (27, 2)] [true] (pc1 := 11) (σ1 := τ) (lv1 := [(4, .int (v4 + 1)), (5, .ref ((r + 1) + 1 + 3 * (v4).toNatClampNeg)), (0, .ref r), (1, .int q), (2, .ref (r + 1)), (3, .int 6)]) (st1 := []) rfl ⟨c3, trivial⟩ ?_
          refine q_lvpick [2, 3, 4, 5, 0] (lv' := [(0, .ref r), (1, .int q), (2, .ref (r + 1)), (3, .int 6), (4, .int (v4 + 1))]) rfl ?_
          exact ih (v4 + 1) τ rr (((hP.1 c1).2.2 c2).2.2 c3) hF
    · rw [if_neg c1] at hF
      refine q_go C tk_X4_numberAtRank [(10, 1), (29, 1)] [true] (pc1 := 57) (σ1 := τ) (lv1 := [(0, .ref r), (1, .int q), (2, .ref (r + 1)), (3, .int 6), (4, .int v4)]) (st1 := [.int (-1)]) rfl ⟨c1, trivial⟩ ?_
      exact q_iret C hr (q_dc (z := (57, .ireturn, 1, 0, 0)) tk_X4_numberAtRank 30 rfl) rfl (congrArg q_oi hF.symm) (Nat.le_of_ble_eq_true rfl) (Nat.le_of_ble_eq_true rfl)
def F_X4_numberAtRank (r : Nat) (q : Int32) (σ : q_M) : Int32 := (FL_X4_numberAtRank_11 r q 10 0 σ)
def P_X4_numberAtRank (r : Nat) (q : Int32) (σ : q_M) : Prop := (PL_X4_numberAtRank_11 r q 10 0 σ)
set_option maxRecDepth 100000 in
theorem k_X4_numberAtRank {α β : Nat → Nat} {D : va_G} {κ : Nat → ClassId} (r : Nat) (q : Int32) (σ : q_M) (h_r : q_kd r = 6) (hP : P_X4_numberAtRank r q σ) : q_C α β D κ yX4_numberAtRank cX4_numberAtRank 6 (Option.some Jvm.ClassFile.FieldType.int) 3 68 0 0 [.ref r, .int q] σ (q_oi (F_X4_numberAtRank r q σ)) σ := by
  refine q_enter (own := RX4) (F := F_X4) (G := G_X4) (by decide +kernel) rfl Fok_X4 Gok_X4 (Nat.le_of_ble_eq_true rfl) (fun p l e s m args below meth c A hfl C hr hT => ?_)
  generalize hF : F_X4_numberAtRank r q σ = rr
  unfold F_X4_numberAtRank at hF
  refine q_go C tk_X4_numberAtRank [(0, 8)] [] (pc1 := 11) (σ1 := σ) (lv1 := [(4, .int 0), (3, .int 6), (2, .ref (r + 1)), (0, .ref r), (1, .int q)]) (st1 := []) rfl ⟨h_r, (q_kd_ta h_r), trivial⟩ ?_
  refine q_lvpick [3, 4, 2, 1, 0] (lv' := [(0, .ref r), (1, .int q), (2, .ref (r + 1)), (3, .int 6), (4, .int 0)]) rfl ?_
  exact kl_X4_numberAtRank_11 r q h_r hfl C hr hT 10 0 σ rr hP hF
def F_X4_faultOfEntering (r : Nat) (σ : q_M) : Int32 := (if (σ r 1) = 0 then (if (F_X4_countEntered r σ) < 6 then 10 else 13) else 13)
def P_X4_faultOfEntering (r : Nat) (σ : q_M) : Prop := (((σ r 1) = 0 → ((P_X4_countEntered r σ) ∧ True)) ∧ (¬ (σ r 1) = 0 → True))
set_option maxRecDepth 100000 in
theorem k_X4_faultOfEntering {α β : Nat → Nat} {D : va_G} {κ : Nat → ClassId} (r : Nat) (σ : q_M) (h_r : q_kd r = 6) (hP : P_X4_faultOfEntering r σ) : q_C α β D κ yX4_faultOfEntering cX4_faultOfEntering 1 (Option.some (Jvm.ClassFile.FieldType.object "QuillRelay$Fault")) 2 46 0 0 [.ref r] σ (q_oe (F_X4_faultOfEntering r σ)) σ := by
  refine q_enter (own := RX4) (F := F_X4) (G := G_X4) (by decide +kernel) rfl Fok_X4 Gok_X4 (Nat.le_of_ble_eq_true rfl) (fun p l e s m args below meth c A hfl C hr hT => ?_)
  generalize hF : F_X4_faultOfEntering r σ = rr
  unfold F_X4_faultOfEntering at hF
  refine q_go C tk_X4_faultOfEntering [(0, 2)] [] (pc1 := 4) (σ1 := σ) (lv1 := [(0, .ref r)]) (st1 := [.int (σ r 1)]) rfl ⟨h_r, trivial⟩ ?_
  by_cases c1 : (σ r 1) = 0
  · rw [if_pos c1] at hF
    refine q_go C tk_X4_faultOfEntering [(2, 2)] [false] (pc1 := 8) (σ1 := σ) (lv1 := [(0, .ref r)]) (st1 := [.ref r]) rfl ⟨c1, trivial⟩ ?_
    refine q_callV C hfl mw_X4_countEntered mi_X4_countEntered me_X4_countEntered lk_X4_71 (k_X4_countEntered r σ h_r (hP.1 c1).1) (rest := []) rfl h_r rfl (by decide) (by decide) rfl (q_dc (z := (8, .invokevirtual 71, 3, 0, 0)) tk_X4_faultOfEntering 4 rfl) (Nat.le_of_ble_eq_true rfl) ⟨Nat.le_of_ble_eq_true rfl, Nat.le_of_ble_eq_true rfl⟩ ⟨Nat.le_of_ble_eq_true rfl, Nat.le_of_ble_eq_true rfl⟩ ?_
    refine q_nrm 11 [.int (F_X4_countEntered r σ)] 0 0 rfl rfl rfl rfl ?_
    refine q_go C tk_X4_faultOfEntering [(5, 3)] [] (pc1 := 16) (σ1 := σ) (lv1 := [(0, .ref r)]) (st1 := [.int 6, .int (F_X4_countEntered r σ)]) rfl ⟨h_r, (q_kd_ta h_r), trivial⟩ ?_
    by_cases c2 : (F_X4_countEntered r σ) < 6
    · rw [if_pos c2] at hF
      refine q_go C tk_X4_faultOfEntering [(8, 1), (11, 1)] [true] (pc1 := 28) (σ1 := σ) (lv1 := [(0, .ref r)]) (st1 := [q_e 10]) rfl ⟨c2, trivial⟩ ?_
      exact q_aret C hr (q_dc (z := (28, .areturn, 1, 0, 0)) tk_X4_faultOfEntering 12 rfl) q_renm rfl (congrArg q_oe hF.symm) (Nat.le_of_ble_eq_true rfl) (Nat.le_of_ble_eq_true rfl)
    · rw [if_neg c2] at hF
      refine q_go C tk_X4_faultOfEntering [(8, 3)] [false] (pc1 := 28) (σ1 := σ) (lv1 := [(0, .ref r)]) (st1 := [q_e 13]) rfl ⟨c2, trivial⟩ ?_
      exact q_aret C hr (q_dc (z := (28, .areturn, 1, 0, 0)) tk_X4_faultOfEntering 12 rfl) q_renm rfl (congrArg q_oe hF.symm) (Nat.le_of_ble_eq_true rfl) (Nat.le_of_ble_eq_true rfl)
  · rw [if_neg c1] at hF
    refine q_go C tk_X4_faultOfEntering [(2, 1), (9, 2)] [true] (pc1 := 28) (σ1 := σ) (lv1 := [(0, .ref r)]) (st1 := [q_e 13]) rfl ⟨c1, trivial⟩ ?_
    exact q_aret C hr (q_dc (z := (28, .areturn, 1, 0, 0)) tk_X4_faultOfEntering 12 rfl) q_renm rfl (congrArg q_oe hF.symm) (Nat.le_of_ble_eq_true rfl) (Nat.le_of_ble_eq_true rfl)
def F_X4_faultOfSpeed (r : Nat) (n : Int32) (g : Int32) (v : Int32) (σ : q_M) : Int32 := (match (F_X4_find r n σ) with | some v1 => (if (F_X8_isLeg g σ) = 0 then 11 else (if v < 20 then 12 else (if 99 < v then 12 else (if (σ r 1) = 0 then 10 else 13)))) | none => 11)
set_option maxRecDepth 100000 in
theorem k_X4_faultOfSpeed {α β : Nat → Nat} {D : va_G} {κ : Nat → ClassId} (r : Nat) (n : Int32) (g : Int32) (v : Int32) (σ : q_M) (h_r : q_kd r = 6) : q_C α β D κ yX4_faultOfSpeed cX4_faultOfSpeed 4 (Option.some (Jvm.ClassFile.FieldType.object "QuillRelay$Fault")) 1 22 0 0 [.ref r, .int n, .int g, .int v] σ (q_oe (F_X4_faultOfSpeed r n g v σ)) σ := by
  refine q_enter (own := RX4) (F := F_X4) (G := G_X4) (by decide +kernel) rfl Fok_X4 Gok_X4 (Nat.le_of_ble_eq_true rfl) (fun p l e s m args below meth c A hfl C hr hT => ?_)
  generalize hF : F_X4_faultOfSpeed r n g v σ = rr
  unfold F_X4_faultOfSpeed at hF
  refine q_go C tk_X4_faultOfSpeed [(0, 2)] [] (pc1 := 2) (σ1 := σ) (lv1 := [(0, .ref r), (1, .int n), (2, .int g), (3, .int v)]) (st1 := [.int n, .ref r]) rfl trivial ?_
  have hc7 := (k_X4_find0 (α := α) (β := β) (D := D) (κ := κ) r n σ h_r)
  cases hx2 : (F_X4_find r n σ) with
  | some v1 =>
    rw [hx2] at hc7 hF
    dsimp only at hF
    refine q_callV C hfl mw_X4_find mi_X4_find me_X4_find lk_X4_84 hc7 (rest := []) rfl h_r rfl (by decide) (by decide) rfl (q_dc (z := (2, .invokevirtual 84, 3, 0, 0)) tk_X4_faultOfSpeed 2 rfl) (Nat.le_of_ble_eq_true rfl) ⟨Nat.le_of_ble_eq_true rfl, Nat.le_of_ble_eq_true rfl⟩ ⟨Nat.le_of_ble_eq_true rfl, Nat.le_of_ble_eq_true rfl⟩ ?_
    refine q_nrm 5 [.ref v1] 0 0 rfl rfl rfl rfl ?_
    refine q_go C tk_X4_faultOfSpeed [(3, 2)] [] (pc1 := 9) (σ1 := σ) (lv1 := [(0, .ref r), (1, .int n), (2, .int g), (3, .int v)]) (st1 := [.int g]) rfl trivial ?_
    refine q_callN C hfl mw_X8_isLeg ms_X8_isLeg nl_X4_88 (k_X8_isLeg g σ) (rest := []) rfl rfl (q_dc (z := (9, .invokestatic 88, 3, 0, 0)) tk_X4_faultOfSpeed 5 rfl) (Nat.le_of_ble_eq_true rfl) ⟨Nat.le_of_ble_eq_true rfl, Nat.le_of_ble_eq_true rfl⟩ ⟨Nat.le_of_ble_eq_true rfl, Nat.le_of_ble_eq_true rfl⟩ ?_
    refine q_nrm 12 [.int (F_X8_isLeg g σ)] 0 0 rfl rfl rfl rfl ?_
    by_cases c3 : (F_X8_isLeg g σ) = 0
    · rw [if_pos c3] at hF
      refine q_go C tk_X4_faultOfSpeed [(6, 2)] [false] (pc1 := 18) (σ1 := σ) (lv1 := [(0, .ref r), (1, .int n), (2, .int g), (3, .int v)]) (st1 := [q_e 11]) rfl ⟨c3, trivial⟩ ?_
      exact q_aret C hr (q_dc (z := (18, .areturn, 1, 0, 0)) tk_X4_faultOfSpeed 8 rfl) q_renm rfl (congrArg q_oe hF.symm) (Nat.le_of_ble_eq_true rfl) (Nat.le_of_ble_eq_true rfl)
    · rw [if_neg c3] at hF
      refine q_go C tk_X4_faultOfSpeed [(6, 1), (9, 2)] [true] (pc1 := 22) (σ1 := σ) (lv1 := [(0, .ref r), (1, .int n), (2, .int g), (3, .int v)]) (st1 := [.int 20, .int v]) rfl ⟨c3, trivial⟩ ?_
      by_cases c4 : v < 20
      · rw [if_pos c4] at hF
        refine q_go C tk_X4_faultOfSpeed [(11, 1), (15, 1)] [true] (pc1 := 34) (σ1 := σ) (lv1 := [(0, .ref r), (1, .int n), (2, .int g), (3, .int v)]) (st1 := [q_e 12]) rfl ⟨c4, trivial⟩ ?_
        exact q_aret C hr (q_dc (z := (34, .areturn, 1, 0, 0)) tk_X4_faultOfSpeed 16 rfl) q_renm rfl (congrArg q_oe hF.symm) (Nat.le_of_ble_eq_true rfl) (Nat.le_of_ble_eq_true rfl)
      · rw [if_neg c4] at hF
        refine q_go C tk_X4_faultOfSpeed [(11, 3)] [false] (pc1 := 28) (σ1 := σ) (lv1 := [(0, .ref r), (1, .int n), (2, .int g), (3, .int v)]) (st1 := [.int 99, .int v]) rfl ⟨c4, trivial⟩ ?_
        by_cases c5 : 99 < v
        · rw [if_pos c5] at hF
          refine q_go C tk_X4_faultOfSpeed [(14, 2)] [false] (pc1 := 34) (σ1 := σ) (lv1 := [(0, .ref r), (1, .int n), (2, .int g), (3, .int v)]) (st1 := [q_e 12]) rfl ⟨c5, trivial⟩ ?_
          exact q_aret C hr (q_dc (z := (34, .areturn, 1, 0, 0)) tk_X4_faultOfSpeed 16 rfl) q_renm rfl (congrArg q_oe hF.symm) (Nat.le_of_ble_eq_true rfl) (Nat.le_of_ble_eq_true rfl)
        · rw [if_neg c5] at hF
          refine q_go C tk_X4_faultOfSpeed [(14, 1), (17, 2)] [true] (pc1 := 39) (σ1 := σ) (lv1 := [(0, .ref r), (1, .int n), (2, .int g), (3, .int v)]) (st1 := [.int (σ r 1)]) rfl ⟨c5, h_r, trivial⟩ ?_
          by_cases c6 : (σ r 1) = 0
          · rw [if_pos c6] at hF
            refine q_go C tk_X4_faultOfSpeed [(19, 1), (22, 1)] [true] (pc1 := 51) (σ1 := σ) (lv1 := [(0, .ref r), (1, .int n), (2, .int g), (3, .int v)]) (st1 := [q_e 10]) rfl ⟨c6, trivial⟩ ?_
            exact q_aret C hr (q_dc (z := (51, .areturn, 1, 0, 0)) tk_X4_faultOfSpeed 23 rfl) q_renm rfl (congrArg q_oe hF.symm) (Nat.le_of_ble_eq_true rfl) (Nat.le_of_ble_eq_true rfl)
          · rw [if_neg c6] at hF
            refine q_go C tk_X4_faultOfSpeed [(19, 3)] [false] (pc1 := 51) (σ1 := σ) (lv1 := [(0, .ref r), (1, .int n), (2, .int g), (3, .int v)]) (st1 := [q_e 13]) rfl ⟨c6, trivial⟩ ?_
            exact q_aret C hr (q_dc (z := (51, .areturn, 1, 0, 0)) tk_X4_faultOfSpeed 23 rfl) q_renm rfl (congrArg q_oe hF.symm) (Nat.le_of_ble_eq_true rfl) (Nat.le_of_ble_eq_true rfl)
  | none =>
    rw [hx2] at hc7 hF
    dsimp only at hF
    refine q_callV C hfl mw_X4_find mi_X4_find me_X4_find lk_X4_84 hc7 (rest := []) rfl h_r rfl (by decide) (by decide) rfl (q_dc (z := (2, .invokevirtual 84, 3, 0, 0)) tk_X4_faultOfSpeed 2 rfl) (Nat.le_of_ble_eq_true rfl) ⟨Nat.le_of_ble_eq_true rfl, Nat.le_of_ble_eq_true rfl⟩ ⟨Nat.le_of_ble_eq_true rfl, Nat.le_of_ble_eq_true rfl⟩ ?_
    refine q_nrm 5 [.null] 0 0 rfl rfl rfl rfl ?_
    refine q_go C tk_X4_faultOfSpeed [(3, 1), (7, 1)] [] (pc1 := 18) (σ1 := σ) (lv1 := [(0, .ref r), (1, .int n), (2, .int g), (3, .int v)]) (st1 := [q_e 11]) rfl trivial ?_
    exact q_aret C hr (q_dc (z := (18, .areturn, 1, 0, 0)) tk_X4_faultOfSpeed 8 rfl) q_renm rfl (congrArg q_oe hF.symm) (Nat.le_of_ble_eq_true rfl) (Nat.le_of_ble_eq_true rfl)
def F_X4_faultOfLength (r : Nat) (v : Int32) (σ : q_M) : Int32 := (if v < 400 then 12 else (if 4000 < v then 12 else (if (σ r 1) = 0 then 10 else 13)))
set_option maxRecDepth 100000 in
theorem k_X4_faultOfLength {α β : Nat → Nat} {D : va_G} {κ : Nat → ClassId} (r : Nat) (v : Int32) (σ : q_M) (h_r : q_kd r = 6) : q_C α β D κ yX4_faultOfLength cX4_faultOfLength 2 (Option.some (Jvm.ClassFile.FieldType.object "QuillRelay$Fault")) 0 0 0 0 [.ref r, .int v] σ (q_oe (F_X4_faultOfLength r v σ)) σ := by
  refine q_enter (own := RX4) (F := F_X4) (G := G_X4) (by decide +kernel) rfl Fok_X4 Gok_X4 (Nat.le_of_ble_eq_true rfl) (fun p l e s m args below meth c A hfl C hr hT => ?_)
  generalize hF : F_X4_faultOfLength r v σ = rr
  unfold F_X4_faultOfLength at hF
  refine q_go C tk_X4_faultOfLength [(0, 2)] [] (pc1 := 4) (σ1 := σ) (lv1 := [(0, .ref r), (1, .int v)]) (st1 := [.int 400, .int v]) rfl trivial ?_
  by_cases c1 : v < 400
  · rw [if_pos c1] at hF
    refine q_go C tk_X4_faultOfLength [(2, 1), (6, 1)] [true] (pc1 := 17) (σ1 := σ) (lv1 := [(0, .ref r), (1, .int v)]) (st1 := [q_e 12]) rfl ⟨c1, trivial⟩ ?_
    exact q_aret C hr (q_dc (z := (17, .areturn, 1, 0, 0)) tk_X4_faultOfLength 7 rfl) q_renm rfl (congrArg q_oe hF.symm) (Nat.le_of_ble_eq_true rfl) (Nat.le_of_ble_eq_true rfl)
  · rw [if_neg c1] at hF
    refine q_go C tk_X4_faultOfLength [(2, 3)] [false] (pc1 := 11) (σ1 := σ) (lv1 := [(0, .ref r), (1, .int v)]) (st1 := [.int 4000, .int v]) rfl ⟨c1, trivial⟩ ?_
    by_cases c2 : 4000 < v
    · rw [if_pos c2] at hF
      refine q_go C tk_X4_faultOfLength [(5, 2)] [false] (pc1 := 17) (σ1 := σ) (lv1 := [(0, .ref r), (1, .int v)]) (st1 := [q_e 12]) rfl ⟨c2, trivial⟩ ?_
      exact q_aret C hr (q_dc (z := (17, .areturn, 1, 0, 0)) tk_X4_faultOfLength 7 rfl) q_renm rfl (congrArg q_oe hF.symm) (Nat.le_of_ble_eq_true rfl) (Nat.le_of_ble_eq_true rfl)
    · rw [if_neg c2] at hF
      refine q_go C tk_X4_faultOfLength [(5, 1), (8, 2)] [true] (pc1 := 22) (σ1 := σ) (lv1 := [(0, .ref r), (1, .int v)]) (st1 := [.int (σ r 1)]) rfl ⟨c2, h_r, trivial⟩ ?_
      by_cases c3 : (σ r 1) = 0
      · rw [if_pos c3] at hF
        refine q_go C tk_X4_faultOfLength [(10, 1), (13, 1)] [true] (pc1 := 34) (σ1 := σ) (lv1 := [(0, .ref r), (1, .int v)]) (st1 := [q_e 10]) rfl ⟨c3, trivial⟩ ?_
        exact q_aret C hr (q_dc (z := (34, .areturn, 1, 0, 0)) tk_X4_faultOfLength 14 rfl) q_renm rfl (congrArg q_oe hF.symm) (Nat.le_of_ble_eq_true rfl) (Nat.le_of_ble_eq_true rfl)
      · rw [if_neg c3] at hF
        refine q_go C tk_X4_faultOfLength [(10, 3)] [false] (pc1 := 34) (σ1 := σ) (lv1 := [(0, .ref r), (1, .int v)]) (st1 := [q_e 13]) rfl ⟨c3, trivial⟩ ?_
        exact q_aret C hr (q_dc (z := (34, .areturn, 1, 0, 0)) tk_X4_faultOfLength 14 rfl) q_renm rfl (congrArg q_oe hF.symm) (Nat.le_of_ble_eq_true rfl) (Nat.le_of_ble_eq_true rfl)
def F_X4_faultOfStarting (r : Nat) (σ : q_M) : Int32 := (if (σ r 1) = 0 then (if (F_X4_countEntered r σ) = 0 then 13 else 10) else 13)
def P_X4_faultOfStarting (r : Nat) (σ : q_M) : Prop := (((σ r 1) = 0 → ((P_X4_countEntered r σ) ∧ True)) ∧ (¬ (σ r 1) = 0 → True))
set_option maxRecDepth 100000 in
theorem k_X4_faultOfStarting {α β : Nat → Nat} {D : va_G} {κ : Nat → ClassId} (r : Nat) (σ : q_M) (h_r : q_kd r = 6) (hP : P_X4_faultOfStarting r σ) : q_C α β D κ yX4_faultOfStarting cX4_faultOfStarting 1 (Option.some (Jvm.ClassFile.FieldType.object "QuillRelay$Fault")) 2 46 0 0 [.ref r] σ (q_oe (F_X4_faultOfStarting r σ)) σ := by
  refine q_enter (own := RX4) (F := F_X4) (G := G_X4) (by decide +kernel) rfl Fok_X4 Gok_X4 (Nat.le_of_ble_eq_true rfl) (fun p l e s m args below meth c A hfl C hr hT => ?_)
  generalize hF : F_X4_faultOfStarting r σ = rr
  unfold F_X4_faultOfStarting at hF
  refine q_go C tk_X4_faultOfStarting [(0, 2)] [] (pc1 := 4) (σ1 := σ) (lv1 := [(0, .ref r)]) (st1 := [.int (σ r 1)]) rfl ⟨h_r, trivial⟩ ?_
  by_cases c1 : (σ r 1) = 0
  · rw [if_pos c1] at hF
    refine q_go C tk_X4_faultOfStarting [(2, 2)] [false] (pc1 := 8) (σ1 := σ) (lv1 := [(0, .ref r)]) (st1 := [.ref r]) rfl ⟨c1, trivial⟩ ?_
    refine q_callV C hfl mw_X4_countEntered mi_X4_countEntered me_X4_countEntered lk_X4_71 (k_X4_countEntered r σ h_r (hP.1 c1).1) (rest := []) rfl h_r rfl (by decide) (by decide) rfl (q_dc (z := (8, .invokevirtual 71, 3, 0, 0)) tk_X4_faultOfStarting 4 rfl) (Nat.le_of_ble_eq_true rfl) ⟨Nat.le_of_ble_eq_true rfl, Nat.le_of_ble_eq_true rfl⟩ ⟨Nat.le_of_ble_eq_true rfl, Nat.le_of_ble_eq_true rfl⟩ ?_
    refine q_nrm 11 [.int (F_X4_countEntered r σ)] 0 0 rfl rfl rfl rfl ?_
    by_cases c2 : (F_X4_countEntered r σ) = 0
    · rw [if_pos c2] at hF
      refine q_go C tk_X4_faultOfStarting [(5, 3)] [false] (pc1 := 23) (σ1 := σ) (lv1 := [(0, .ref r)]) (st1 := [q_e 13]) rfl ⟨c2, trivial⟩ ?_
      exact q_aret C hr (q_dc (z := (23, .areturn, 1, 0, 0)) tk_X4_faultOfStarting 9 rfl) q_renm rfl (congrArg q_oe hF.symm) (Nat.le_of_ble_eq_true rfl) (Nat.le_of_ble_eq_true rfl)
    · rw [if_neg c2] at hF
      refine q_go C tk_X4_faultOfStarting [(5, 1), (8, 1)] [true] (pc1 := 23) (σ1 := σ) (lv1 := [(0, .ref r)]) (st1 := [q_e 10]) rfl ⟨c2, trivial⟩ ?_
      exact q_aret C hr (q_dc (z := (23, .areturn, 1, 0, 0)) tk_X4_faultOfStarting 9 rfl) q_renm rfl (congrArg q_oe hF.symm) (Nat.le_of_ble_eq_true rfl) (Nat.le_of_ble_eq_true rfl)
  · rw [if_neg c1] at hF
    refine q_go C tk_X4_faultOfStarting [(2, 1), (6, 2)] [true] (pc1 := 23) (σ1 := σ) (lv1 := [(0, .ref r)]) (st1 := [q_e 13]) rfl ⟨c1, trivial⟩ ?_
    exact q_aret C hr (q_dc (z := (23, .areturn, 1, 0, 0)) tk_X4_faultOfStarting 9 rfl) q_renm rfl (congrArg q_oe hF.symm) (Nat.le_of_ble_eq_true rfl) (Nat.le_of_ble_eq_true rfl)
def F_X4_faultOfDrawing (r : Nat) (v : Int32) (σ : q_M) : Int32 := (if v < 0 then 12 else (if 999 < v then 12 else (F_X4_faultOfStarting r σ)))
def P_X4_faultOfDrawing (r : Nat) (v : Int32) (σ : q_M) : Prop := ((v < 0 → True) ∧ (¬ v < 0 → ((999 < v → True) ∧ (¬ 999 < v → ((P_X4_faultOfStarting r σ) ∧ True)))))
set_option maxRecDepth 100000 in
theorem k_X4_faultOfDrawing {α β : Nat → Nat} {D : va_G} {κ : Nat → ClassId} (r : Nat) (v : Int32) (σ : q_M) (h_r : q_kd r = 6) (hP : P_X4_faultOfDrawing r v σ) : q_C α β D κ yX4_faultOfDrawing cX4_faultOfDrawing 2 (Option.some (Jvm.ClassFile.FieldType.object "QuillRelay$Fault")) 3 66 0 0 [.ref r, .int v] σ (q_oe (F_X4_faultOfDrawing r v σ)) σ := by
  refine q_enter (own := RX4) (F := F_X4) (G := G_X4) (by decide +kernel) rfl Fok_X4 Gok_X4 (Nat.le_of_ble_eq_true rfl) (fun p l e s m args below meth c A hfl C hr hT => ?_)
  generalize hF : F_X4_faultOfDrawing r v σ = rr
  unfold F_X4_faultOfDrawing at hF
  refine q_go C tk_X4_faultOfDrawing [(0, 1)] [] (pc1 := 1) (σ1 := σ) (lv1 := [(0, .ref r), (1, .int v)]) (st1 := [.int v]) rfl trivial ?_
  by_cases c1 : v < 0
  · rw [if_pos c1] at hF
    refine q_go C tk_X4_faultOfDrawing [(1, 1), (5, 1)] [true] (pc1 := 14) (σ1 := σ) (lv1 := [(0, .ref r), (1, .int v)]) (st1 := [q_e 12]) rfl ⟨c1, trivial⟩ ?_
    exact q_aret C hr (q_dc (z := (14, .areturn, 1, 0, 0)) tk_X4_faultOfDrawing 6 rfl) q_renm rfl (congrArg q_oe hF.symm) (Nat.le_of_ble_eq_true rfl) (Nat.le_of_ble_eq_true rfl)
  · rw [if_neg c1] at hF
    refine q_go C tk_X4_faultOfDrawing [(1, 3)] [false] (pc1 := 8) (σ1 := σ) (lv1 := [(0, .ref r), (1, .int v)]) (st1 := [.int 999, .int v]) rfl ⟨c1, trivial⟩ ?_
    by_cases c2 : 999 < v
    · rw [if_pos c2] at hF
      refine q_go C tk_X4_faultOfDrawing [(4, 2)] [false] (pc1 := 14) (σ1 := σ) (lv1 := [(0, .ref r), (1, .int v)]) (st1 := [q_e 12]) rfl ⟨c2, trivial⟩ ?_
      exact q_aret C hr (q_dc (z := (14, .areturn, 1, 0, 0)) tk_X4_faultOfDrawing 6 rfl) q_renm rfl (congrArg q_oe hF.symm) (Nat.le_of_ble_eq_true rfl) (Nat.le_of_ble_eq_true rfl)
    · rw [if_neg c2] at hF
      refine q_go C tk_X4_faultOfDrawing [(4, 1), (7, 1)] [true] (pc1 := 16) (σ1 := σ) (lv1 := [(0, .ref r), (1, .int v)]) (st1 := [.ref r]) rfl ⟨c2, trivial⟩ ?_
      refine q_callV C hfl mw_X4_faultOfStarting mi_X4_faultOfStarting me_X4_faultOfStarting lk_X4_98 (k_X4_faultOfStarting r σ h_r ((hP.2 c1).2 c2).1) (rest := []) rfl h_r rfl (by decide) (by decide) rfl (q_dc (z := (16, .invokevirtual 98, 3, 0, 0)) tk_X4_faultOfDrawing 8 rfl) (Nat.le_of_ble_eq_true rfl) ⟨Nat.le_of_ble_eq_true rfl, Nat.le_of_ble_eq_true rfl⟩ ⟨Nat.le_of_ble_eq_true rfl, Nat.le_of_ble_eq_true rfl⟩ ?_
      refine q_nrm 19 [q_e (F_X4_faultOfStarting r σ)] 0 0 rfl rfl rfl rfl ?_
      exact q_aret C hr (q_dc (z := (19, .areturn, 1, 0, 0)) tk_X4_faultOfDrawing 9 rfl) q_renm rfl (congrArg q_oe hF.symm) (Nat.le_of_ble_eq_true rfl) (Nat.le_of_ble_eq_true rfl)
def F_X4_faultOfRunning (r : Nat) (v : Int32) (σ : q_M) : Int32 := (if v < 1 then 12 else (if 200 < v then 12 else (if (σ r 1) = 0 then 13 else 10)))
set_option maxRecDepth 100000 in
theorem k_X4_faultOfRunning {α β : Nat → Nat} {D : va_G} {κ : Nat → ClassId} (r : Nat) (v : Int32) (σ : q_M) (h_r : q_kd r = 6) : q_C α β D κ yX4_faultOfRunning cX4_faultOfRunning 2 (Option.some (Jvm.ClassFile.FieldType.object "QuillRelay$Fault")) 0 0 0 0 [.ref r, .int v] σ (q_oe (F_X4_faultOfRunning r v σ)) σ := by
  refine q_enter (own := RX4) (F := F_X4) (G := G_X4) (by decide +kernel) rfl Fok_X4 Gok_X4 (Nat.le_of_ble_eq_true rfl) (fun p l e s m args below meth c A hfl C hr hT => ?_)
  generalize hF : F_X4_faultOfRunning r v σ = rr
  unfold F_X4_faultOfRunning at hF
  refine q_go C tk_X4_faultOfRunning [(0, 2)] [] (pc1 := 2) (σ1 := σ) (lv1 := [(0, .ref r), (1, .int v)]) (st1 := [.int 1, .int v]) rfl trivial ?_
  by_cases c1 : v < 1
  · rw [if_pos c1] at hF
    refine q_go C tk_X4_faultOfRunning [(2, 1), (6, 1)] [true] (pc1 := 15) (σ1 := σ) (lv1 := [(0, .ref r), (1, .int v)]) (st1 := [q_e 12]) rfl ⟨c1, trivial⟩ ?_
    exact q_aret C hr (q_dc (z := (15, .areturn, 1, 0, 0)) tk_X4_faultOfRunning 7 rfl) q_renm rfl (congrArg q_oe hF.symm) (Nat.le_of_ble_eq_true rfl) (Nat.le_of_ble_eq_true rfl)
  · rw [if_neg c1] at hF
    refine q_go C tk_X4_faultOfRunning [(2, 3)] [false] (pc1 := 9) (σ1 := σ) (lv1 := [(0, .ref r), (1, .int v)]) (st1 := [.int 200, .int v]) rfl ⟨c1, trivial⟩ ?_
    by_cases c2 : 200 < v
    · rw [if_pos c2] at hF
      refine q_go C tk_X4_faultOfRunning [(5, 2)] [false] (pc1 := 15) (σ1 := σ) (lv1 := [(0, .ref r), (1, .int v)]) (st1 := [q_e 12]) rfl ⟨c2, trivial⟩ ?_
      exact q_aret C hr (q_dc (z := (15, .areturn, 1, 0, 0)) tk_X4_faultOfRunning 7 rfl) q_renm rfl (congrArg q_oe hF.symm) (Nat.le_of_ble_eq_true rfl) (Nat.le_of_ble_eq_true rfl)
    · rw [if_neg c2] at hF
      refine q_go C tk_X4_faultOfRunning [(5, 1), (8, 2)] [true] (pc1 := 20) (σ1 := σ) (lv1 := [(0, .ref r), (1, .int v)]) (st1 := [.int (σ r 1)]) rfl ⟨c2, h_r, trivial⟩ ?_
      by_cases c3 : (σ r 1) = 0
      · rw [if_pos c3] at hF
        refine q_go C tk_X4_faultOfRunning [(10, 1), (13, 1)] [true] (pc1 := 32) (σ1 := σ) (lv1 := [(0, .ref r), (1, .int v)]) (st1 := [q_e 13]) rfl ⟨c3, trivial⟩ ?_
        exact q_aret C hr (q_dc (z := (32, .areturn, 1, 0, 0)) tk_X4_faultOfRunning 14 rfl) q_renm rfl (congrArg q_oe hF.symm) (Nat.le_of_ble_eq_true rfl) (Nat.le_of_ble_eq_true rfl)
      · rw [if_neg c3] at hF
        refine q_go C tk_X4_faultOfRunning [(10, 3)] [false] (pc1 := 32) (σ1 := σ) (lv1 := [(0, .ref r), (1, .int v)]) (st1 := [q_e 10]) rfl ⟨c3, trivial⟩ ?_
        exact q_aret C hr (q_dc (z := (32, .areturn, 1, 0, 0)) tk_X4_faultOfRunning 14 rfl) q_renm rfl (congrArg q_oe hF.symm) (Nat.le_of_ble_eq_true rfl) (Nat.le_of_ble_eq_true rfl)
def F_X4_faultOfWithdrawing (r : Nat) (n : Int32) (σ : q_M) : Int32 := (match (F_X4_find r n σ) with | some v1 => (if (σ v1 3) = 2 then 10 else 13) | none => 11)
set_option maxRecDepth 100000 in
theorem k_X4_faultOfWithdrawing {α β : Nat → Nat} {D : va_G} {κ : Nat → ClassId} (r : Nat) (n : Int32) (σ : q_M) (h_r : q_kd r = 6) : q_C α β D κ yX4_faultOfWithdrawing cX4_faultOfWithdrawing 3 (Option.some (Jvm.ClassFile.FieldType.object "QuillRelay$Fault")) 1 22 0 0 [.ref r, .int n] σ (q_oe (F_X4_faultOfWithdrawing r n σ)) σ := by
  refine q_enter (own := RX4) (F := F_X4) (G := G_X4) (by decide +kernel) rfl Fok_X4 Gok_X4 (Nat.le_of_ble_eq_true rfl) (fun p l e s m args below meth c A hfl C hr hT => ?_)
  generalize hF : F_X4_faultOfWithdrawing r n σ = rr
  unfold F_X4_faultOfWithdrawing at hF
  refine q_go C tk_X4_faultOfWithdrawing [(0, 2)] [] (pc1 := 2) (σ1 := σ) (lv1 := [(0, .ref r), (1, .int n)]) (st1 := [.int n, .ref r]) rfl trivial ?_
  have hc4 := (k_X4_find0 (α := α) (β := β) (D := D) (κ := κ) r n σ h_r)
  cases hx2 : (F_X4_find r n σ) with
  | some v1 =>
    rw [hx2] at hc4 hF
    dsimp only at hF
    refine q_callV C hfl mw_X4_find mi_X4_find me_X4_find lk_X4_84 hc4 (rest := []) rfl h_r rfl (by decide) (by decide) rfl (q_dc (z := (2, .invokevirtual 84, 3, 0, 0)) tk_X4_faultOfWithdrawing 2 rfl) (Nat.le_of_ble_eq_true rfl) ⟨Nat.le_of_ble_eq_true rfl, Nat.le_of_ble_eq_true rfl⟩ ⟨Nat.le_of_ble_eq_true rfl, Nat.le_of_ble_eq_true rfl⟩ ?_
    refine q_nrm 5 [.ref v1] 0 0 rfl rfl rfl rfl ?_
    refine q_go C tk_X4_faultOfWithdrawing [(3, 3), (8, 3)] [] (pc1 := 21) (σ1 := σ) (lv1 := [(2, .ref v1), (0, .ref r), (1, .int n)]) (st1 := [q_e 2, q_e (σ v1 3)]) rfl ⟨(f_X4_find_kd h_r hx2), trivial⟩ ?_
    by_cases c3 : (σ v1 3) = 2
    · rw [if_pos c3] at hF
      refine q_go C tk_X4_faultOfWithdrawing [(11, 3)] [false] (pc1 := 33) (σ1 := σ) (lv1 := [(2, .ref v1), (0, .ref r), (1, .int n)]) (st1 := [q_e 10]) rfl ⟨(congrArg Int32.toUInt32 c3), trivial⟩ ?_
      exact q_aret C hr (q_dc (z := (33, .areturn, 1, 0, 0)) tk_X4_faultOfWithdrawing 15 rfl) q_renm rfl (congrArg q_oe hF.symm) (Nat.le_of_ble_eq_true rfl) (Nat.le_of_ble_eq_true rfl)
    · rw [if_neg c3] at hF
      refine q_go C tk_X4_faultOfWithdrawing [(11, 1), (14, 1)] [true] (pc1 := 33) (σ1 := σ) (lv1 := [(2, .ref v1), (0, .ref r), (1, .int n)]) (st1 := [q_e 13]) rfl ⟨(fun q => c3 (q_u32 q)), trivial⟩ ?_
      exact q_aret C hr (q_dc (z := (33, .areturn, 1, 0, 0)) tk_X4_faultOfWithdrawing 15 rfl) q_renm rfl (congrArg q_oe hF.symm) (Nat.le_of_ble_eq_true rfl) (Nat.le_of_ble_eq_true rfl)
  | none =>
    rw [hx2] at hc4 hF
    dsimp only at hF
    refine q_callV C hfl mw_X4_find mi_X4_find me_X4_find lk_X4_84 hc4 (rest := []) rfl h_r rfl (by decide) (by decide) rfl (q_dc (z := (2, .invokevirtual 84, 3, 0, 0)) tk_X4_faultOfWithdrawing 2 rfl) (Nat.le_of_ble_eq_true rfl) ⟨Nat.le_of_ble_eq_true rfl, Nat.le_of_ble_eq_true rfl⟩ ⟨Nat.le_of_ble_eq_true rfl, Nat.le_of_ble_eq_true rfl⟩ ?_
    refine q_nrm 5 [.null] 0 0 rfl rfl rfl rfl ?_
    refine q_go C tk_X4_faultOfWithdrawing [(3, 4)] [] (pc1 := 13) (σ1 := σ) (lv1 := [(2, .null), (0, .ref r), (1, .int n)]) (st1 := [q_e 11]) rfl trivial ?_
    exact q_aret C hr (q_dc (z := (13, .areturn, 1, 0, 0)) tk_X4_faultOfWithdrawing 7 rfl) q_renm rfl (congrArg q_oe hF.symm) (Nat.le_of_ble_eq_true rfl) (Nat.le_of_ble_eq_true rfl)
def F_X4_faultOfDropping (r : Nat) (n : Int32) (v : Int32) (σ : q_M) : Int32 := (match (F_X4_find r n σ) with | some v1 => (if v < 1 then 12 else (if 20 < v then 12 else (F_X4_faultOfWithdrawing r n σ))) | none => 11)
set_option maxRecDepth 100000 in
theorem k_X4_faultOfDropping {α β : Nat → Nat} {D : va_G} {κ : Nat → ClassId} (r : Nat) (n : Int32) (v : Int32) (σ : q_M) (h_r : q_kd r = 6) : q_C α β D κ yX4_faultOfDropping cX4_faultOfDropping 3 (Option.some (Jvm.ClassFile.FieldType.object "QuillRelay$Fault")) 2 44 0 0 [.ref r, .int n, .int v] σ (q_oe (F_X4_faultOfDropping r n v σ)) σ := by
  refine q_enter (own := RX4) (F := F_X4) (G := G_X4) (by decide +kernel) rfl Fok_X4 Gok_X4 (Nat.le_of_ble_eq_true rfl) (fun p l e s m args below meth c A hfl C hr hT => ?_)
  generalize hF : F_X4_faultOfDropping r n v σ = rr
  unfold F_X4_faultOfDropping at hF
  refine q_go C tk_X4_faultOfDropping [(0, 2)] [] (pc1 := 2) (σ1 := σ) (lv1 := [(0, .ref r), (1, .int n), (2, .int v)]) (st1 := [.int n, .ref r]) rfl trivial ?_
  have hc5 := (k_X4_find0 (α := α) (β := β) (D := D) (κ := κ) r n σ h_r)
  cases hx2 : (F_X4_find r n σ) with
  | some v1 =>
    rw [hx2] at hc5 hF
    dsimp only at hF
    refine q_callV C hfl mw_X4_find mi_X4_find me_X4_find lk_X4_84 hc5 (rest := []) rfl h_r rfl (by decide) (by decide) rfl (q_dc (z := (2, .invokevirtual 84, 3, 0, 0)) tk_X4_faultOfDropping 2 rfl) (Nat.le_of_ble_eq_true rfl) ⟨Nat.le_of_ble_eq_true rfl, Nat.le_of_ble_eq_true rfl⟩ ⟨Nat.le_of_ble_eq_true rfl, Nat.le_of_ble_eq_true rfl⟩ ?_
    refine q_nrm 5 [.ref v1] 0 0 rfl rfl rfl rfl ?_
    refine q_go C tk_X4_faultOfDropping [(3, 1), (6, 2)] [] (pc1 := 14) (σ1 := σ) (lv1 := [(0, .ref r), (1, .int n), (2, .int v)]) (st1 := [.int 1, .int v]) rfl trivial ?_
    by_cases c3 : v < 1
    · rw [if_pos c3] at hF
      refine q_go C tk_X4_faultOfDropping [(8, 1), (12, 1)] [true] (pc1 := 26) (σ1 := σ) (lv1 := [(0, .ref r), (1, .int n), (2, .int v)]) (st1 := [q_e 12]) rfl ⟨c3, trivial⟩ ?_
      exact q_aret C hr (q_dc (z := (26, .areturn, 1, 0, 0)) tk_X4_faultOfDropping 13 rfl) q_renm rfl (congrArg q_oe hF.symm) (Nat.le_of_ble_eq_true rfl) (Nat.le_of_ble_eq_true rfl)
    · rw [if_neg c3] at hF
      refine q_go C tk_X4_faultOfDropping [(8, 3)] [false] (pc1 := 20) (σ1 := σ) (lv1 := [(0, .ref r), (1, .int n), (2, .int v)]) (st1 := [.int 20, .int v]) rfl ⟨c3, trivial⟩ ?_
      by_cases c4 : 20 < v
      · rw [if_pos c4] at hF
        refine q_go C tk_X4_faultOfDropping [(11, 2)] [false] (pc1 := 26) (σ1 := σ) (lv1 := [(0, .ref r), (1, .int n), (2, .int v)]) (st1 := [q_e 12]) rfl ⟨c4, trivial⟩ ?_
        exact q_aret C hr (q_dc (z := (26, .areturn, 1, 0, 0)) tk_X4_faultOfDropping 13 rfl) q_renm rfl (congrArg q_oe hF.symm) (Nat.le_of_ble_eq_true rfl) (Nat.le_of_ble_eq_true rfl)
      · rw [if_neg c4] at hF
        refine q_go C tk_X4_faultOfDropping [(11, 1), (14, 2)] [true] (pc1 := 29) (σ1 := σ) (lv1 := [(0, .ref r), (1, .int n), (2, .int v)]) (st1 := [.int n, .ref r]) rfl ⟨c4, trivial⟩ ?_
        refine q_callV C hfl mw_X4_faultOfWithdrawing mi_X4_faultOfWithdrawing me_X4_faultOfWithdrawing lk_X4_102 (k_X4_faultOfWithdrawing r n σ h_r) (rest := []) rfl h_r rfl (by decide) (by decide) rfl (q_dc (z := (29, .invokevirtual 102, 3, 0, 0)) tk_X4_faultOfDropping 16 rfl) (Nat.le_of_ble_eq_true rfl) ⟨Nat.le_of_ble_eq_true rfl, Nat.le_of_ble_eq_true rfl⟩ ⟨Nat.le_of_ble_eq_true rfl, Nat.le_of_ble_eq_true rfl⟩ ?_
        refine q_nrm 32 [q_e (F_X4_faultOfWithdrawing r n σ)] 0 0 rfl rfl rfl rfl ?_
        exact q_aret C hr (q_dc (z := (32, .areturn, 1, 0, 0)) tk_X4_faultOfDropping 17 rfl) q_renm rfl (congrArg q_oe hF.symm) (Nat.le_of_ble_eq_true rfl) (Nat.le_of_ble_eq_true rfl)
  | none =>
    rw [hx2] at hc5 hF
    dsimp only at hF
    refine q_callV C hfl mw_X4_find mi_X4_find me_X4_find lk_X4_84 hc5 (rest := []) rfl h_r rfl (by decide) (by decide) rfl (q_dc (z := (2, .invokevirtual 84, 3, 0, 0)) tk_X4_faultOfDropping 2 rfl) (Nat.le_of_ble_eq_true rfl) ⟨Nat.le_of_ble_eq_true rfl, Nat.le_of_ble_eq_true rfl⟩ ⟨Nat.le_of_ble_eq_true rfl, Nat.le_of_ble_eq_true rfl⟩ ?_
    refine q_nrm 5 [.null] 0 0 rfl rfl rfl rfl ?_
    refine q_go C tk_X4_faultOfDropping [(3, 2)] [] (pc1 := 11) (σ1 := σ) (lv1 := [(0, .ref r), (1, .int n), (2, .int v)]) (st1 := [q_e 11]) rfl trivial ?_
    exact q_aret C hr (q_dc (z := (11, .areturn, 1, 0, 0)) tk_X4_faultOfDropping 5 rfl) q_renm rfl (congrArg q_oe hF.symm) (Nat.le_of_ble_eq_true rfl) (Nat.le_of_ble_eq_true rfl)
def F_X4_faultOfProtesting (r : Nat) (b : Int32) (a : Int32) (k : Int32) (σ : q_M) : Int32 := (match (F_X4_find r b σ) with | some v1 => (match (F_X4_find r a σ) with | some v3 => (if b = a then 12 else (if (F_X8_isKind k σ) = 0 then 12 else (if (σ r 1) = 0 then 13 else 10))) | none => 11) | none => 11)
set_option maxRecDepth 100000 in
theorem k_X4_faultOfProtesting {α β : Nat → Nat} {D : va_G} {κ : Nat → ClassId} (r : Nat) (b : Int32) (a : Int32) (k : Int32) (σ : q_M) (h_r : q_kd r = 6) : q_C α β D κ yX4_faultOfProtesting cX4_faultOfProtesting 4 (Option.some (Jvm.ClassFile.FieldType.object "QuillRelay$Fault")) 1 22 0 0 [.ref r, .int b, .int a, .int k] σ (q_oe (F_X4_faultOfProtesting r b a k σ)) σ := by
  refine q_enter (own := RX4) (F := F_X4) (G := G_X4) (by decide +kernel) rfl Fok_X4 Gok_X4 (Nat.le_of_ble_eq_true rfl) (fun p l e s m args below meth c A hfl C hr hT => ?_)
  generalize hF : F_X4_faultOfProtesting r b a k σ = rr
  unfold F_X4_faultOfProtesting at hF
  refine q_go C tk_X4_faultOfProtesting [(0, 2)] [] (pc1 := 2) (σ1 := σ) (lv1 := [(0, .ref r), (1, .int b), (2, .int a), (3, .int k)]) (st1 := [.int b, .ref r]) rfl trivial ?_
  have hc8 := (k_X4_find0 (α := α) (β := β) (D := D) (κ := κ) r b σ h_r)
  cases hx2 : (F_X4_find r b σ) with
  | some v1 =>
    rw [hx2] at hc8 hF
    dsimp only at hF
    refine q_callV C hfl mw_X4_find mi_X4_find me_X4_find lk_X4_84 hc8 (rest := []) rfl h_r rfl (by decide) (by decide) rfl (q_dc (z := (2, .invokevirtual 84, 3, 0, 0)) tk_X4_faultOfProtesting 2 rfl) (Nat.le_of_ble_eq_true rfl) ⟨Nat.le_of_ble_eq_true rfl, Nat.le_of_ble_eq_true rfl⟩ ⟨Nat.le_of_ble_eq_true rfl, Nat.le_of_ble_eq_true rfl⟩ ?_
    refine q_nrm 5 [.ref v1] 0 0 rfl rfl rfl rfl ?_
    refine q_go C tk_X4_faultOfProtesting [(3, 3)] [] (pc1 := 10) (σ1 := σ) (lv1 := [(0, .ref r), (1, .int b), (2, .int a), (3, .int k)]) (st1 := [.int a, .ref r]) rfl trivial ?_
    have hc10 := (k_X4_find0 (α := α) (β := β) (D := D) (κ := κ) r a σ h_r)
    cases hx4 : (F_X4_find r a σ) with
    | some v3 =>
      rw [hx4] at hc10 hF
      dsimp only at hF
      refine q_callV C hfl mw_X4_find mi_X4_find me_X4_find lk_X4_84 hc10 (rest := []) rfl h_r rfl (by decide) (by decide) rfl (q_dc (z := (10, .invokevirtual 84, 3, 0, 0)) tk_X4_faultOfProtesting 6 rfl) (Nat.le_of_ble_eq_true rfl) ⟨Nat.le_of_ble_eq_true rfl, Nat.le_of_ble_eq_true rfl⟩ ⟨Nat.le_of_ble_eq_true rfl, Nat.le_of_ble_eq_true rfl⟩ ?_
      refine q_nrm 13 [.ref v3] 0 0 rfl rfl rfl rfl ?_
      refine q_go C tk_X4_faultOfProtesting [(7, 1), (10, 2)] [] (pc1 := 22) (σ1 := σ) (lv1 := [(0, .ref r), (1, .int b), (2, .int a), (3, .int k)]) (st1 := [.int a, .int b]) rfl trivial ?_
      by_cases c5 : b = a
      · rw [if_pos c5] at hF
        refine q_go C tk_X4_faultOfProtesting [(12, 1), (16, 1)] [true] (pc1 := 35) (σ1 := σ) (lv1 := [(0, .ref r), (1, .int b), (2, .int a), (3, .int k)]) (st1 := [q_e 12]) rfl ⟨c5, trivial⟩ ?_
        exact q_aret C hr (q_dc (z := (35, .areturn, 1, 0, 0)) tk_X4_faultOfProtesting 17 rfl) q_renm rfl (congrArg q_oe hF.symm) (Nat.le_of_ble_eq_true rfl) (Nat.le_of_ble_eq_true rfl)
      · rw [if_neg c5] at hF
        refine q_go C tk_X4_faultOfProtesting [(12, 2)] [false] (pc1 := 26) (σ1 := σ) (lv1 := [(0, .ref r), (1, .int b), (2, .int a), (3, .int k)]) (st1 := [.int k]) rfl ⟨c5, trivial⟩ ?_
        refine q_callN C hfl mw_X8_isKind ms_X8_isKind nl_X4_106 (k_X8_isKind k σ) (rest := []) rfl rfl (q_dc (z := (26, .invokestatic 106, 3, 0, 0)) tk_X4_faultOfProtesting 14 rfl) (Nat.le_of_ble_eq_true rfl) ⟨Nat.le_of_ble_eq_true rfl, Nat.le_of_ble_eq_true rfl⟩ ⟨Nat.le_of_ble_eq_true rfl, Nat.le_of_ble_eq_true rfl⟩ ?_
        refine q_nrm 29 [.int (F_X8_isKind k σ)] 0 0 rfl rfl rfl rfl ?_
        by_cases c6 : (F_X8_isKind k σ) = 0
        · rw [if_pos c6] at hF
          refine q_go C tk_X4_faultOfProtesting [(15, 2)] [false] (pc1 := 35) (σ1 := σ) (lv1 := [(0, .ref r), (1, .int b), (2, .int a), (3, .int k)]) (st1 := [q_e 12]) rfl ⟨c6, trivial⟩ ?_
          exact q_aret C hr (q_dc (z := (35, .areturn, 1, 0, 0)) tk_X4_faultOfProtesting 17 rfl) q_renm rfl (congrArg q_oe hF.symm) (Nat.le_of_ble_eq_true rfl) (Nat.le_of_ble_eq_true rfl)
        · rw [if_neg c6] at hF
          refine q_go C tk_X4_faultOfProtesting [(15, 1), (18, 2)] [true] (pc1 := 40) (σ1 := σ) (lv1 := [(0, .ref r), (1, .int b), (2, .int a), (3, .int k)]) (st1 := [.int (σ r 1)]) rfl ⟨c6, h_r, trivial⟩ ?_
          by_cases c7 : (σ r 1) = 0
          · rw [if_pos c7] at hF
            refine q_go C tk_X4_faultOfProtesting [(20, 1), (23, 1)] [true] (pc1 := 52) (σ1 := σ) (lv1 := [(0, .ref r), (1, .int b), (2, .int a), (3, .int k)]) (st1 := [q_e 13]) rfl ⟨c7, trivial⟩ ?_
            exact q_aret C hr (q_dc (z := (52, .areturn, 1, 0, 0)) tk_X4_faultOfProtesting 24 rfl) q_renm rfl (congrArg q_oe hF.symm) (Nat.le_of_ble_eq_true rfl) (Nat.le_of_ble_eq_true rfl)
          · rw [if_neg c7] at hF
            refine q_go C tk_X4_faultOfProtesting [(20, 3)] [false] (pc1 := 52) (σ1 := σ) (lv1 := [(0, .ref r), (1, .int b), (2, .int a), (3, .int k)]) (st1 := [q_e 10]) rfl ⟨c7, trivial⟩ ?_
            exact q_aret C hr (q_dc (z := (52, .areturn, 1, 0, 0)) tk_X4_faultOfProtesting 24 rfl) q_renm rfl (congrArg q_oe hF.symm) (Nat.le_of_ble_eq_true rfl) (Nat.le_of_ble_eq_true rfl)
    | none =>
      rw [hx4] at hc10 hF
      dsimp only at hF
      refine q_callV C hfl mw_X4_find mi_X4_find me_X4_find lk_X4_84 hc10 (rest := []) rfl h_r rfl (by decide) (by decide) rfl (q_dc (z := (10, .invokevirtual 84, 3, 0, 0)) tk_X4_faultOfProtesting 6 rfl) (Nat.le_of_ble_eq_true rfl) ⟨Nat.le_of_ble_eq_true rfl, Nat.le_of_ble_eq_true rfl⟩ ⟨Nat.le_of_ble_eq_true rfl, Nat.le_of_ble_eq_true rfl⟩ ?_
      refine q_nrm 13 [.null] 0 0 rfl rfl rfl rfl ?_
      refine q_go C tk_X4_faultOfProtesting [(7, 2)] [] (pc1 := 19) (σ1 := σ) (lv1 := [(0, .ref r), (1, .int b), (2, .int a), (3, .int k)]) (st1 := [q_e 11]) rfl trivial ?_
      exact q_aret C hr (q_dc (z := (19, .areturn, 1, 0, 0)) tk_X4_faultOfProtesting 9 rfl) q_renm rfl (congrArg q_oe hF.symm) (Nat.le_of_ble_eq_true rfl) (Nat.le_of_ble_eq_true rfl)
  | none =>
    rw [hx2] at hc8 hF
    dsimp only at hF
    refine q_callV C hfl mw_X4_find mi_X4_find me_X4_find lk_X4_84 hc8 (rest := []) rfl h_r rfl (by decide) (by decide) rfl (q_dc (z := (2, .invokevirtual 84, 3, 0, 0)) tk_X4_faultOfProtesting 2 rfl) (Nat.le_of_ble_eq_true rfl) ⟨Nat.le_of_ble_eq_true rfl, Nat.le_of_ble_eq_true rfl⟩ ⟨Nat.le_of_ble_eq_true rfl, Nat.le_of_ble_eq_true rfl⟩ ?_
    refine q_nrm 5 [.null] 0 0 rfl rfl rfl rfl ?_
    refine q_go C tk_X4_faultOfProtesting [(3, 1), (8, 1)] [] (pc1 := 19) (σ1 := σ) (lv1 := [(0, .ref r), (1, .int b), (2, .int a), (3, .int k)]) (st1 := [q_e 11]) rfl trivial ?_
    exact q_aret C hr (q_dc (z := (19, .areturn, 1, 0, 0)) tk_X4_faultOfProtesting 9 rfl) q_renm rfl (congrArg q_oe hF.symm) (Nat.le_of_ble_eq_true rfl) (Nat.le_of_ble_eq_true rfl)
def FL_X4_enterTeam_10 (r : Nat) : Nat → Int32 → q_M → (Int32) × q_M
  | 0, v3, τ => (0, τ)
  | nn + 1, v3, τ => (if v3 < 6 then (if (τ ((r + 1) + 1 + 3 * (v3).toNatClampNeg) 3) = 0 then ((τ ((r + 1) + 1 + 3 * (v3).toNatClampNeg) 0), (q_up τ ((r + 1) + 1 + 3 * (v3).toNatClampNeg) 3 1)) else (FL_X4_enterTeam_10 r nn (v3 + 1) τ)) else ((-1), τ))
def PL_X4_enterTeam_10 (r : Nat) : Nat → Int32 → q_M → Prop
  | 0, v3, τ => False
  | nn + 1, v3, τ => ((v3 < 6 → (vp_in v3 6 ∧ (((τ ((r + 1) + 1 + 3 * (v3).toNatClampNeg) 3) = 0 → True) ∧ (¬ (τ ((r + 1) + 1 + 3 * (v3).toNatClampNeg) 3) = 0 → (PL_X4_enterTeam_10 r nn (v3 + 1) τ))))) ∧ (¬ v3 < 6 → True))
set_option maxRecDepth 100000 in
theorem kl_X4_enterTeam_10 {α β : Nat → Nat} {D : va_G} {κ : Nat → ClassId} (r : Nat) (h_r : q_kd r = 6) {p : Program} {l : Launch} {e : Env} {s : State} {m : MethodId} {args : Array Value} {below : List Frame} {meth : Method} {c : Code} {A : Nat → Prop} (hfl : l.flags = flags0) (C : q_Cx α β D κ p s m args meth c cX4_enterTeam RX4 F_X4 G_X4 5 A) (hr : meth.sig.returnType = (Option.some Jvm.ClassFile.FieldType.int)) (hT : ∀ x ∈ c.exceptionTable.toList, False) : ∀ (nn : Nat) (v3 : Int32) (τ : q_M) (rr : (Int32) × q_M), PL_X4_enterTeam_10 r nn v3 τ → FL_X4_enterTeam_10 r nn v3 τ = rr → q_St α β D κ p l e ({ frames := 0, cells := 0, slots := 0, locals := 0 } : Room) s m args below meth c 5 A (vx_MQ below (q_Qc α β D κ A (q_oi rr.1) rr.2) (q_XC α β D κ A (q_oi rr.1) rr.2) args s 0 0 A) 0 0 τ [(0, .ref r), (1, .ref (r + 1)), (2, .int 6), (3, .int v3)] 10 [] := by
  intro nn
  induction nn with
  | zero => intro v3 τ rr hP; exact hP.elim
  | succ nn ih =>
    intro v3 τ rr hP hF
    unfold FL_X4_enterTeam_10 at hF
    refine q_go C tk_X4_enterTeam [(8, 2)] [] (pc1 := 12) (σ1 := τ) (lv1 := [(0, .ref r), (1, .ref (r + 1)), (2, .int 6), (3, .int v3)]) (st1 := [.int 6, .int v3]) rfl trivial ?_
    by_cases c1 : v3 < 6
    · rw [if_pos c1] at hF
      refine q_go C tk_X4_enterTeam [(10, 8)] [false] (pc1 := 28) (σ1 := τ) (lv1 := [(4, .ref ((r + 1) + 1 + 3 * (v3).toNatClampNeg)), (0, .ref r), (1, .ref (r + 1)), (2, .int 6), (3, .int v3)]) (st1 := [q_e 0, q_e (τ ((r + 1) + 1 + 3 * (v3).toNatClampNeg) 3)]) rfl ⟨c1, (q_kd_ta h_r), (hP.1 c1).1, (q_kd_te (q_kd_ta h_r) (hP.1 c1).1), trivial⟩ ?_
      by_cases c2 : (τ ((r + 1) + 1 + 3 * (v3).toNatClampNeg) 3) = 0
      · rw [if_pos c2] at hF
        refine q_go C tk_X4_enterTeam [(18, 6)] [false] (pc1 := 44) (σ1 := (q_up τ ((r + 1) + 1 + 3 * (v3).toNatClampNeg) 3 1)) (lv1 := [(4, .ref ((r + 1) + 1 + 3 * (v3).toNatClampNeg)), (0, .ref r), (1, .ref (r + 1)), (2, .int 6), (3, .int v3)]) (st1 := [.int (τ ((r + 1) + 1 + 3 * (v3).toNatClampNeg) 0)]) rfl ⟨(congrArg Int32.toUInt32 c2), (q_kd_te (q_kd_ta h_r) (hP.1 c1).1), (q_kd_te (q_kd_ta h_r) (hP.1 c1).1), trivial⟩ ?_
        exact q_iret C hr (q_dc (z := (44, .ireturn, 1, 0, 0)) tk_X4_enterTeam 24 rfl) (congrArg Prod.snd hF) (congrArg (fun z => q_oi z.1) hF.symm) (Nat.le_of_ble_eq_true rfl) (Nat.le_of_ble_eq_true rfl)
      · rw [if_neg c2] at hF
        refine q_go C tk_X4_enterTeam [(18, 1), (25, 2)] [true] (pc1 := 10) (σ1 := τ) (lv1 := [(3, .int (v3 + 1)), (4, .ref ((r + 1) + 1 + 3 * (v3).toNatClampNeg)), (0, .ref r), (1, .ref (r + 1)), (2, .int 6)]) (st1 := []) rfl ⟨(fun q => c2 (q_u32 q)), trivial⟩ ?_
        refine q_lvpick [2, 3, 4, 0] (lv' := [(0, .ref r), (1, .ref (r + 1)), (2, .int 6), (3, .int (v3 + 1))]) rfl ?_
        exact ih (v3 + 1) τ rr ((hP.1 c1).2.2 c2) hF
    · rw [if_neg c1] at hF
      refine q_go C tk_X4_enterTeam [(10, 1), (27, 1)] [true] (pc1 := 52) (σ1 := τ) (lv1 := [(0, .ref r), (1, .ref (r + 1)), (2, .int 6), (3, .int v3)]) (st1 := [.int (-1)]) rfl ⟨c1, trivial⟩ ?_
      exact q_iret C hr (q_dc (z := (52, .ireturn, 1, 0, 0)) tk_X4_enterTeam 28 rfl) (congrArg Prod.snd hF) (congrArg (fun z => q_oi z.1) hF.symm) (Nat.le_of_ble_eq_true rfl) (Nat.le_of_ble_eq_true rfl)
def F_X4_enterTeam (r : Nat) (σ : q_M) : (Int32) × q_M := (FL_X4_enterTeam_10 r 10 0 σ)
def P_X4_enterTeam (r : Nat) (σ : q_M) : Prop := (PL_X4_enterTeam_10 r 10 0 σ)
set_option maxRecDepth 100000 in
theorem k_X4_enterTeam {α β : Nat → Nat} {D : va_G} {κ : Nat → ClassId} (r : Nat) (σ : q_M) (h_r : q_kd r = 6) (hP : P_X4_enterTeam r σ) : q_C α β D κ yX4_enterTeam cX4_enterTeam 5 (Option.some Jvm.ClassFile.FieldType.int) 0 0 0 0 [.ref r] σ (q_oi (F_X4_enterTeam r σ).1) (F_X4_enterTeam r σ).2 := by
  refine q_enter (own := RX4) (F := F_X4) (G := G_X4) (by decide +kernel) rfl Fok_X4 Gok_X4 (Nat.le_of_ble_eq_true rfl) (fun p l e s m args below meth c A hfl C hr hT => ?_)
  generalize hF : F_X4_enterTeam r σ = rr
  unfold F_X4_enterTeam at hF
  refine q_go C tk_X4_enterTeam [(0, 8)] [] (pc1 := 10) (σ1 := σ) (lv1 := [(3, .int 0), (2, .int 6), (1, .ref (r + 1)), (0, .ref r)]) (st1 := []) rfl ⟨h_r, (q_kd_ta h_r), trivial⟩ ?_
  refine q_lvpick [3, 2, 1, 0] (lv' := [(0, .ref r), (1, .ref (r + 1)), (2, .int 6), (3, .int 0)]) rfl ?_
  exact kl_X4_enterTeam_10 r h_r hfl C hr hT 10 0 σ rr hP hF
def FL_X4_isTaken_12 (r : Nat) (q : Int32) (n : Int32) : Nat → Int32 → q_M → Int32
  | 0, v5, τ => 0
  | nn + 1, v5, τ => (if v5 < 6 then (if (τ ((r + 1) + 1 + 3 * (v5).toNatClampNeg) 0) < n then (if (τ ((r + 1) + 1 + 3 * (v5).toNatClampNeg) 4) = q then 1 else (FL_X4_isTaken_12 r q n nn (v5 + 1) τ)) else (FL_X4_isTaken_12 r q n nn (v5 + 1) τ)) else 0)
def PL_X4_isTaken_12 (r : Nat) (q : Int32) (n : Int32) : Nat → Int32 → q_M → Prop
  | 0, v5, τ => False
  | nn + 1, v5, τ => ((v5 < 6 → (vp_in v5 6 ∧ (((τ ((r + 1) + 1 + 3 * (v5).toNatClampNeg) 0) < n → (((τ ((r + 1) + 1 + 3 * (v5).toNatClampNeg) 4) = q → True) ∧ (¬ (τ ((r + 1) + 1 + 3 * (v5).toNatClampNeg) 4) = q → (PL_X4_isTaken_12 r q n nn (v5 + 1) τ)))) ∧ (¬ (τ ((r + 1) + 1 + 3 * (v5).toNatClampNeg) 0) < n → (PL_X4_isTaken_12 r q n nn (v5 + 1) τ))))) ∧ (¬ v5 < 6 → True))
set_option maxRecDepth 100000 in
theorem kl_X4_isTaken_12 {α β : Nat → Nat} {D : va_G} {κ : Nat → ClassId} (r : Nat) (q : Int32) (n : Int32) (h_r : q_kd r = 6) {p : Program} {l : Launch} {e : Env} {s : State} {m : MethodId} {args : Array Value} {below : List Frame} {meth : Method} {c : Code} {A : Nat → Prop} (hfl : l.flags = flags0) (C : q_Cx α β D κ p s m args meth c cX4_isTaken RX4 F_X4 G_X4 7 A) (hr : meth.sig.returnType = (Option.some Jvm.ClassFile.FieldType.boolean)) (hT : ∀ x ∈ c.exceptionTable.toList, False) : ∀ (nn : Nat) (v5 : Int32) (τ : q_M) (rr : Int32), PL_X4_isTaken_12 r q n nn v5 τ → FL_X4_isTaken_12 r q n nn v5 τ = rr → q_St α β D κ p l e ({ frames := 0, cells := 0, slots := 0, locals := 0 } : Room) s m args below meth c 7 A (vx_MQ below (q_Qc α β D κ A (q_oi rr) τ) (q_XC α β D κ A (q_oi rr) τ) args s 0 0 A) 0 0 τ [(0, .ref r), (1, .int q), (2, .int n), (3, .ref (r + 1)), (4, .int 6), (5, .int v5)] 12 [] := by
  intro nn
  induction nn with
  | zero => intro v5 τ rr hP; exact hP.elim
  | succ nn ih =>
    intro v5 τ rr hP hF
    unfold FL_X4_isTaken_12 at hF
    refine q_go C tk_X4_isTaken [(8, 2)] [] (pc1 := 16) (σ1 := τ) (lv1 := [(0, .ref r), (1, .int q), (2, .int n), (3, .ref (r + 1)), (4, .int 6), (5, .int v5)]) (st1 := [.int 6, .int v5]) rfl trivial ?_
    by_cases c1 : v5 < 6
    · rw [if_pos c1] at hF
      refine q_go C tk_X4_isTaken [(10, 8)] [false] (pc1 := 31) (σ1 := τ) (lv1 := [(6, .ref ((r + 1) + 1 + 3 * (v5).toNatClampNeg)), (0, .ref r), (1, .int q), (2, .int n), (3, .ref (r + 1)), (4, .int 6), (5, .int v5)]) (st1 := [.int n, .int (τ ((r + 1) + 1 + 3 * (v5).toNatClampNeg) 0)]) rfl ⟨c1, (q_kd_ta h_r), (hP.1 c1).1, (q_kd_te (q_kd_ta h_r) (hP.1 c1).1), trivial⟩ ?_
      by_cases c2 : (τ ((r + 1) + 1 + 3 * (v5).toNatClampNeg) 0) < n
      · rw [if_pos c2] at hF
        refine q_go C tk_X4_isTaken [(18, 4)] [false] (pc1 := 40) (σ1 := τ) (lv1 := [(6, .ref ((r + 1) + 1 + 3 * (v5).toNatClampNeg)), (0, .ref r), (1, .int q), (2, .int n), (3, .ref (r + 1)), (4, .int 6), (5, .int v5)]) (st1 := [.int q, .int (τ ((r + 1) + 1 + 3 * (v5).toNatClampNeg) 4)]) rfl ⟨c2, (q_kd_te (q_kd_ta h_r) (hP.1 c1).1), trivial⟩ ?_
        by_cases c3 : (τ ((r + 1) + 1 + 3 * (v5).toNatClampNeg) 4) = q
        · rw [if_pos c3] at hF
          refine q_go C tk_X4_isTaken [(22, 2)] [false] (pc1 := 44) (σ1 := τ) (lv1 := [(6, .ref ((r + 1) + 1 + 3 * (v5).toNatClampNeg)), (0, .ref r), (1, .int q), (2, .int n), (3, .ref (r + 1)), (4, .int 6), (5, .int v5)]) (st1 := [.int 1]) rfl ⟨c3, trivial⟩ ?_
          exact q_zret C hr (q_dc (z := (44, .ireturn, 1, 0, 0)) tk_X4_isTaken 24 rfl) (by decide +kernel) rfl (congrArg q_oi hF.symm) (Nat.le_of_ble_eq_true rfl) (Nat.le_of_ble_eq_true rfl)
        · rw [if_neg c3] at hF
          refine q_go C tk_X4_isTaken [(22, 1), (25, 2)] [true] (pc1 := 12) (σ1 := τ) (lv1 := [(5, .int (v5 + 1)), (6, .ref ((r + 1) + 1 + 3 * (v5).toNatClampNeg)), (0, .ref r), (1, .int q), (2, .int n), (3, .ref (r + 1)), (4, .int 6)]) (st1 := []) rfl ⟨c3, trivial⟩ ?_
          refine q_lvpick [2, 3, 4, 5, 6, 0] (lv' := [(0, .ref r), (1, .int q), (2, .int n), (3, .ref (r + 1)), (4, .int 6), (5, .int (v5 + 1))]) rfl ?_
          exact ih (v5 + 1) τ rr (((hP.1 c1).2.1 c2).2 c3) hF
      · rw [if_neg c2] at hF
        refine q_go C tk_X4_isTaken [(18, 1), (25, 2)] [true] (pc1 := 12) (σ1 := τ) (lv1 := [(5, .int (v5 + 1)), (6, .ref ((r + 1) + 1 + 3 * (v5).toNatClampNeg)), (0, .ref r), (1, .int q), (2, .int n), (3, .ref (r + 1)), (4, .int 6)]) (st1 := []) rfl ⟨c2, trivial⟩ ?_
        refine q_lvpick [2, 3, 4, 5, 6, 0] (lv' := [(0, .ref r), (1, .int q), (2, .int n), (3, .ref (r + 1)), (4, .int 6), (5, .int (v5 + 1))]) rfl ?_
        exact ih (v5 + 1) τ rr ((hP.1 c1).2.2 c2) hF
    · rw [if_neg c1] at hF
      refine q_go C tk_X4_isTaken [(10, 1), (27, 1)] [true] (pc1 := 52) (σ1 := τ) (lv1 := [(0, .ref r), (1, .int q), (2, .int n), (3, .ref (r + 1)), (4, .int 6), (5, .int v5)]) (st1 := [.int 0]) rfl ⟨c1, trivial⟩ ?_
      exact q_zret C hr (q_dc (z := (52, .ireturn, 1, 0, 0)) tk_X4_isTaken 28 rfl) (by decide +kernel) rfl (congrArg q_oi hF.symm) (Nat.le_of_ble_eq_true rfl) (Nat.le_of_ble_eq_true rfl)
def F_X4_isTaken (r : Nat) (q : Int32) (n : Int32) (σ : q_M) : Int32 := (FL_X4_isTaken_12 r q n 10 0 σ)
def P_X4_isTaken (r : Nat) (q : Int32) (n : Int32) (σ : q_M) : Prop := (PL_X4_isTaken_12 r q n 10 0 σ)
set_option maxRecDepth 100000 in
theorem k_X4_isTaken {α β : Nat → Nat} {D : va_G} {κ : Nat → ClassId} (r : Nat) (q : Int32) (n : Int32) (σ : q_M) (h_r : q_kd r = 6) (hP : P_X4_isTaken r q n σ) : q_C α β D κ yX4_isTaken cX4_isTaken 7 (Option.some Jvm.ClassFile.FieldType.boolean) 0 0 0 0 [.ref r, .int q, .int n] σ (q_oi (F_X4_isTaken r q n σ)) σ := by
  refine q_enter (own := RX4) (F := F_X4) (G := G_X4) (by decide +kernel) rfl Fok_X4 Gok_X4 (Nat.le_of_ble_eq_true rfl) (fun p l e s m args below meth c A hfl C hr hT => ?_)
  generalize hF : F_X4_isTaken r q n σ = rr
  unfold F_X4_isTaken at hF
  refine q_go C tk_X4_isTaken [(0, 8)] [] (pc1 := 12) (σ1 := σ) (lv1 := [(5, .int 0), (4, .int 6), (3, .ref (r + 1)), (0, .ref r), (1, .int q), (2, .int n)]) (st1 := []) rfl ⟨h_r, (q_kd_ta h_r), trivial⟩ ?_
  refine q_lvpick [3, 4, 5, 2, 1, 0] (lv' := [(0, .ref r), (1, .int q), (2, .int n), (3, .ref (r + 1)), (4, .int 6), (5, .int 0)]) rfl ?_
  exact kl_X4_isTaken_12 r q n h_r hfl C hr hT 10 0 σ rr hP hF
def FL_X4_freeLane_6 (r : Nat) (q : Int32) (n : Int32) (k : Int32) : Nat → Int32 → Int32 → q_M → Int32
  | 0, v4, v5, τ => 0
  | nn + 1, v4, v5, τ => (if q < v5 then q else (if (F_X4_isTaken r v5 n τ) = 0 then (if v4 = k then v5 else (FL_X4_freeLane_6 r q n k nn (v4 + 1) (v5 + 1) τ)) else (FL_X4_freeLane_6 r q n k nn v4 (v5 + 1) τ)))
def PL_X4_freeLane_6 (r : Nat) (q : Int32) (n : Int32) (k : Int32) : Nat → Int32 → Int32 → q_M → Prop
  | 0, v4, v5, τ => False
  | nn + 1, v4, v5, τ => ((q < v5 → True) ∧ (¬ q < v5 → ((P_X4_isTaken r v5 n τ) ∧ (((F_X4_isTaken r v5 n τ) = 0 → ((v4 = k → True) ∧ (¬ v4 = k → (PL_X4_freeLane_6 r q n k nn (v4 + 1) (v5 + 1) τ)))) ∧ (¬ (F_X4_isTaken r v5 n τ) = 0 → (PL_X4_freeLane_6 r q n k nn v4 (v5 + 1) τ))))))
set_option maxRecDepth 100000 in
theorem kl_X4_freeLane_6 {α β : Nat → Nat} {D : va_G} {κ : Nat → ClassId} (r : Nat) (q : Int32) (n : Int32) (k : Int32) (h_r : q_kd r = 6) {p : Program} {l : Launch} {e : Env} {s : State} {m : MethodId} {args : Array Value} {below : List Frame} {meth : Method} {c : Code} {A : Nat → Prop} (hfl : l.flags = flags0) (C : q_Cx α β D κ p s m args meth c cX4_freeLane RX4 F_X4 G_X4 6 A) (hr : meth.sig.returnType = (Option.some Jvm.ClassFile.FieldType.int)) (hT : ∀ x ∈ c.exceptionTable.toList, False) : ∀ (nn : Nat) (v4 : Int32) (v5 : Int32) (τ : q_M) (rr : Int32), PL_X4_freeLane_6 r q n k nn v4 v5 τ → FL_X4_freeLane_6 r q n k nn v4 v5 τ = rr → q_St α β D κ p l e ({ frames := 1, cells := 0, slots := 0, locals := 26 } : Room) s m args below meth c 6 A (vx_MQ below (q_Qc α β D κ A (q_oi rr) τ) (q_XC α β D κ A (q_oi rr) τ) args s 0 0 A) 0 0 τ [(0, .ref r), (1, .int q), (2, .int n), (3, .int k), (4, .int v4), (5, .int v5)] 6 [] := by
  intro nn
  induction nn with
  | zero => intro v4 v5 τ rr hP; exact hP.elim
  | succ nn ih =>
    intro v4 v5 τ rr hP hF
    unfold FL_X4_freeLane_6 at hF
    refine q_go C tk_X4_freeLane [(4, 2)] [] (pc1 := 9) (σ1 := τ) (lv1 := [(0, .ref r), (1, .int q), (2, .int n), (3, .int k), (4, .int v4), (5, .int v5)]) (st1 := [.int q, .int v5]) rfl trivial ?_
    by_cases c1 : q < v5
    · rw [if_pos c1] at hF
      refine q_go C tk_X4_freeLane [(6, 1), (20, 1)] [true] (pc1 := 41) (σ1 := τ) (lv1 := [(0, .ref r), (1, .int q), (2, .int n), (3, .int k), (4, .int v4), (5, .int v5)]) (st1 := [.int q]) rfl ⟨c1, trivial⟩ ?_
      exact q_iret C hr (q_dc (z := (41, .ireturn, 1, 0, 0)) tk_X4_freeLane 21 rfl) rfl (congrArg q_oi hF.symm) (Nat.le_of_ble_eq_true rfl) (Nat.le_of_ble_eq_true rfl)
    · rw [if_neg c1] at hF
      refine q_go C tk_X4_freeLane [(6, 4)] [false] (pc1 := 16) (σ1 := τ) (lv1 := [(0, .ref r), (1, .int q), (2, .int n), (3, .int k), (4, .int v4), (5, .int v5)]) (st1 := [.int n, .int v5, .ref r]) rfl ⟨c1, trivial⟩ ?_
      refine q_callV C hfl mw_X4_isTaken mi_X4_isTaken me_X4_isTaken lk_X4_116 (k_X4_isTaken r v5 n τ h_r (hP.2 c1).1) (rest := []) rfl h_r rfl (by decide) (by decide) rfl (q_dc (z := (16, .invokevirtual 116, 3, 0, 0)) tk_X4_freeLane 10 rfl) (Nat.le_of_ble_eq_true rfl) ⟨Nat.le_of_ble_eq_true rfl, Nat.le_of_ble_eq_true rfl⟩ ⟨Nat.le_of_ble_eq_true rfl, Nat.le_of_ble_eq_true rfl⟩ ?_
      refine q_nrm 19 [.int (F_X4_isTaken r v5 n τ)] 0 0 rfl rfl rfl rfl ?_
      by_cases c2 : (F_X4_isTaken r v5 n τ) = 0
      · rw [if_pos c2] at hF
        refine q_go C tk_X4_freeLane [(11, 3)] [false] (pc1 := 25) (σ1 := τ) (lv1 := [(0, .ref r), (1, .int q), (2, .int n), (3, .int k), (4, .int v4), (5, .int v5)]) (st1 := [.int k, .int v4]) rfl ⟨c2, trivial⟩ ?_
        by_cases c3 : v4 = k
        · rw [if_pos c3] at hF
          refine q_go C tk_X4_freeLane [(14, 2)] [false] (pc1 := 30) (σ1 := τ) (lv1 := [(0, .ref r), (1, .int q), (2, .int n), (3, .int k), (4, .int v4), (5, .int v5)]) (st1 := [.int v5]) rfl ⟨c3, trivial⟩ ?_
          exact q_iret C hr (q_dc (z := (30, .ireturn, 1, 0, 0)) tk_X4_freeLane 16 rfl) rfl (congrArg q_oi hF.symm) (Nat.le_of_ble_eq_true rfl) (Nat.le_of_ble_eq_true rfl)
        · rw [if_neg c3] at hF
          refine q_go C tk_X4_freeLane [(14, 1), (17, 3)] [true] (pc1 := 6) (σ1 := τ) (lv1 := [(5, .int (v5 + 1)), (4, .int (v4 + 1)), (0, .ref r), (1, .int q), (2, .int n), (3, .int k)]) (st1 := []) rfl ⟨c3, trivial⟩ ?_
          refine q_lvpick [2, 3, 4, 5, 1, 0] (lv' := [(0, .ref r), (1, .int q), (2, .int n), (3, .int k), (4, .int (v4 + 1)), (5, .int (v5 + 1))]) rfl ?_
          exact ih (v4 + 1) (v5 + 1) τ rr (((hP.2 c1).2.1 c2).2 c3) hF
      · rw [if_neg c2] at hF
        refine q_go C tk_X4_freeLane [(11, 1), (18, 2)] [true] (pc1 := 6) (σ1 := τ) (lv1 := [(5, .int (v5 + 1)), (0, .ref r), (1, .int q), (2, .int n), (3, .int k), (4, .int v4)]) (st1 := []) rfl ⟨c2, trivial⟩ ?_
        refine q_lvpick [1, 2, 3, 4, 5, 0] (lv' := [(0, .ref r), (1, .int q), (2, .int n), (3, .int k), (4, .int v4), (5, .int (v5 + 1))]) rfl ?_
        exact ih v4 (v5 + 1) τ rr ((hP.2 c1).2.2 c2) hF
def F_X4_freeLane (r : Nat) (q : Int32) (n : Int32) (k : Int32) (σ : q_M) : Int32 := (FL_X4_freeLane_6 r q n k 10 0 1 σ)
def P_X4_freeLane (r : Nat) (q : Int32) (n : Int32) (k : Int32) (σ : q_M) : Prop := (PL_X4_freeLane_6 r q n k 10 0 1 σ)
set_option maxRecDepth 100000 in
theorem k_X4_freeLane {α β : Nat → Nat} {D : va_G} {κ : Nat → ClassId} (r : Nat) (q : Int32) (n : Int32) (k : Int32) (σ : q_M) (h_r : q_kd r = 6) (hP : P_X4_freeLane r q n k σ) : q_C α β D κ yX4_freeLane cX4_freeLane 6 (Option.some Jvm.ClassFile.FieldType.int) 1 26 0 0 [.ref r, .int q, .int n, .int k] σ (q_oi (F_X4_freeLane r q n k σ)) σ := by
  refine q_enter (own := RX4) (F := F_X4) (G := G_X4) (by decide +kernel) rfl Fok_X4 Gok_X4 (Nat.le_of_ble_eq_true rfl) (fun p l e s m args below meth c A hfl C hr hT => ?_)
  generalize hF : F_X4_freeLane r q n k σ = rr
  unfold F_X4_freeLane at hF
  refine q_go C tk_X4_freeLane [(0, 4)] [] (pc1 := 6) (σ1 := σ) (lv1 := [(5, .int 1), (4, .int 0), (0, .ref r), (1, .int q), (2, .int n), (3, .int k)]) (st1 := []) rfl trivial ?_
  refine q_lvpick [2, 3, 4, 5, 1, 0] (lv' := [(0, .ref r), (1, .int q), (2, .int n), (3, .int k), (4, .int 0), (5, .int 1)]) rfl ?_
  exact kl_X4_freeLane_6 r q n k h_r hfl C hr hT 10 0 1 σ rr hP hF
def FL_X4_shuffleLanes_24 (r : Nat) (v : Int32) : Nat → Int32 → Int32 → Int32 → Int32 → q_M → q_M
  | 0, v2, v3, v4, v7, τ => τ
  | nn + 1, v2, v3, v4, v7, τ => (if v7 < 6 then (if 0 < v3 then (q_L (((5 * v4) + 3) - ((5 * v4) + 3) / 1000 * 1000) (fun x5 : Int32 => (FL_X4_shuffleLanes_24 r v nn v2 (v3 + (-1)) x5 (v7 + 1) (q_up τ ((r + 1) + 1 + 3 * (v7).toNatClampNeg) 4 (F_X4_freeLane r v2 (τ ((r + 1) + 1 + 3 * (v7).toNatClampNeg) 0) (x5 - x5 / v3 * v3) τ))))) else (FL_X4_shuffleLanes_24 r v nn v2 v3 v4 (v7 + 1) τ)) else τ)
def PL_X4_shuffleLanes_24 (r : Nat) (v : Int32) : Nat → Int32 → Int32 → Int32 → Int32 → q_M → Prop
  | 0, v2, v3, v4, v7, τ => False
  | nn + 1, v2, v3, v4, v7, τ => ((v7 < 6 → (vp_in v7 6 ∧ ((0 < v3 → (∀ x5 : Int32, (((5 * v4) + 3) - ((5 * v4) + 3) / 1000 * 1000) = x5 → (¬ v3 = 0 ∧ ((P_X4_freeLane r v2 (τ ((r + 1) + 1 + 3 * (v7).toNatClampNeg) 0) (x5 - x5 / v3 * v3) τ) ∧ (PL_X4_shuffleLanes_24 r v nn v2 (v3 + (-1)) x5 (v7 + 1) (q_up τ ((r + 1) + 1 + 3 * (v7).toNatClampNeg) 4 (F_X4_freeLane r v2 (τ ((r + 1) + 1 + 3 * (v7).toNatClampNeg) 0) (x5 - x5 / v3 * v3) τ))))))) ∧ (¬ 0 < v3 → (PL_X4_shuffleLanes_24 r v nn v2 v3 v4 (v7 + 1) τ))))) ∧ (¬ v7 < 6 → True))
set_option maxRecDepth 100000 in
theorem kl_X4_shuffleLanes_24 {α β : Nat → Nat} {D : va_G} {κ : Nat → ClassId} (r : Nat) (v : Int32) (h_r : q_kd r = 6) {p : Program} {l : Launch} {e : Env} {s : State} {m : MethodId} {args : Array Value} {below : List Frame} {meth : Method} {c : Code} {A : Nat → Prop} (hfl : l.flags = flags0) (C : q_Cx α β D κ p s m args meth c cX4_shuffleLanes RX4 F_X4 G_X4 9 A) (hr : meth.sig.returnType = (Option.none : Option Jvm.ClassFile.FieldType)) (hT : ∀ x ∈ c.exceptionTable.toList, False) : ∀ (nn : Nat) (v2 : Int32) (v3 : Int32) (v4 : Int32) (v7 : Int32) (τ : q_M) (rr : q_M), PL_X4_shuffleLanes_24 r v nn v2 v3 v4 v7 τ → FL_X4_shuffleLanes_24 r v nn v2 v3 v4 v7 τ = rr → q_St α β D κ p l e ({ frames := 2, cells := 0, slots := 0, locals := 51 } : Room) s m args below meth c 9 A (vx_MQ below (q_Qc α β D κ A q_ov rr) (q_XC α β D κ A q_ov rr) args s 0 0 A) 0 0 τ [(0, .ref r), (1, .int v), (2, .int v2), (3, .int v3), (4, .int v4), (5, .ref (r + 1)), (6, .int 6), (7, .int v7)] 24 [] := by
  intro nn
  induction nn with
  | zero => intro v2 v3 v4 v7 τ rr hP; exact hP.elim
  | succ nn ih =>
    intro v2 v3 v4 v7 τ rr hP hF
    unfold FL_X4_shuffleLanes_24 at hF
    refine q_go C tk_X4_shuffleLanes [(15, 2)] [] (pc1 := 28) (σ1 := τ) (lv1 := [(0, .ref r), (1, .int v), (2, .int v2), (3, .int v3), (4, .int v4), (5, .ref (r + 1)), (6, .int 6), (7, .int v7)]) (st1 := [.int 6, .int v7]) rfl trivial ?_
    by_cases c3 : v7 < 6
    · rw [if_pos c3] at hF
      refine q_go C tk_X4_shuffleLanes [(17, 6)] [false] (pc1 := 39) (σ1 := τ) (lv1 := [(8, .ref ((r + 1) + 1 + 3 * (v7).toNatClampNeg)), (0, .ref r), (1, .int v), (2, .int v2), (3, .int v3), (4, .int v4), (5, .ref (r + 1)), (6, .int 6), (7, .int v7)]) (st1 := [.int v3]) rfl ⟨c3, (q_kd_ta h_r), (hP.1 c3).1, trivial⟩ ?_
      by_cases c4 : 0 < v3
      · rw [if_pos c4] at hF
        refine q_go C tk_X4_shuffleLanes [(23, 8)] [false] (pc1 := 52) (σ1 := τ) (lv1 := [(8, .ref ((r + 1) + 1 + 3 * (v7).toNatClampNeg)), (0, .ref r), (1, .int v), (2, .int v2), (3, .int v3), (4, .int v4), (5, .ref (r + 1)), (6, .int 6), (7, .int v7)]) (st1 := [.int (((5 * v4) + 3) - ((5 * v4) + 3) / 1000 * 1000)]) rfl ⟨c4, (by decide), trivial⟩ ?_
        generalize e6 : (((5 * v4) + 3) - ((5 * v4) + 3) / 1000 * 1000) = x5
        replace hF := q_let e6 hF
        refine q_go C tk_X4_shuffleLanes [(31, 9)] [] (pc1 := 67) (σ1 := τ) (lv1 := [(4, .int x5), (8, .ref ((r + 1) + 1 + 3 * (v7).toNatClampNeg)), (0, .ref r), (1, .int v), (2, .int v2), (3, .int v3), (5, .ref (r + 1)), (6, .int 6), (7, .int v7)]) (st1 := [.int (x5 - x5 / v3 * v3), .int (τ ((r + 1) + 1 + 3 * (v7).toNatClampNeg) 0), .int v2, .ref r, .ref ((r + 1) + 1 + 3 * (v7).toNatClampNeg)]) rfl ⟨(q_kd_te (q_kd_ta h_r) (hP.1 c3).1), (((hP.1 c3).2.1 c4) x5 e6).1, trivial⟩ ?_
        refine q_callV C hfl mw_X4_freeLane mi_X4_freeLane me_X4_freeLane lk_X4_112 (k_X4_freeLane r v2 (τ ((r + 1) + 1 + 3 * (v7).toNatClampNeg) 0) (x5 - x5 / v3 * v3) τ h_r (((hP.1 c3).2.1 c4) x5 e6).2.1) (rest := [.ref ((r + 1) + 1 + 3 * (v7).toNatClampNeg)]) rfl h_r rfl (by decide) (by decide) rfl (q_dc (z := (67, .invokevirtual 112, 3, 0, 0)) tk_X4_shuffleLanes 40 rfl) (Nat.le_of_ble_eq_true rfl) ⟨Nat.le_of_ble_eq_true rfl, Nat.le_of_ble_eq_true rfl⟩ ⟨Nat.le_of_ble_eq_true rfl, Nat.le_of_ble_eq_true rfl⟩ ?_
        refine q_nrm 70 [.int (F_X4_freeLane r v2 (τ ((r + 1) + 1 + 3 * (v7).toNatClampNeg) 0) (x5 - x5 / v3 * v3) τ), .ref ((r + 1) + 1 + 3 * (v7).toNatClampNeg)] 0 0 rfl rfl rfl rfl ?_
        refine q_go C tk_X4_shuffleLanes [(41, 4)] [] (pc1 := 24) (σ1 := (q_up τ ((r + 1) + 1 + 3 * (v7).toNatClampNeg) 4 (F_X4_freeLane r v2 (τ ((r + 1) + 1 + 3 * (v7).toNatClampNeg) 0) (x5 - x5 / v3 * v3) τ))) (lv1 := [(7, .int (v7 + 1)), (3, .int (v3 + (-1))), (4, .int x5), (8, .ref ((r + 1) + 1 + 3 * (v7).toNatClampNeg)), (0, .ref r), (1, .int v), (2, .int v2), (5, .ref (r + 1)), (6, .int 6)]) (st1 := []) rfl ⟨(q_kd_te (q_kd_ta h_r) (hP.1 c3).1), trivial⟩ ?_
        refine q_lvpick [4, 5, 6, 1, 2, 7, 8, 0] (lv' := [(0, .ref r), (1, .int v), (2, .int v2), (3, .int (v3 + (-1))), (4, .int x5), (5, .ref (r + 1)), (6, .int 6), (7, .int (v7 + 1))]) rfl ?_
        exact ih v2 (v3 + (-1)) x5 (v7 + 1) (q_up τ ((r + 1) + 1 + 3 * (v7).toNatClampNeg) 4 (F_X4_freeLane r v2 (τ ((r + 1) + 1 + 3 * (v7).toNatClampNeg) 0) (x5 - x5 / v3 * v3) τ)) rr (((hP.1 c3).2.1 c4) x5 e6).2.2 hF
      · rw [if_neg c4] at hF
        refine q_go C tk_X4_shuffleLanes [(23, 1), (43, 2)] [true] (pc1 := 24) (σ1 := τ) (lv1 := [(7, .int (v7 + 1)), (8, .ref ((r + 1) + 1 + 3 * (v7).toNatClampNeg)), (0, .ref r), (1, .int v), (2, .int v2), (3, .int v3), (4, .int v4), (5, .ref (r + 1)), (6, .int 6)]) (st1 := []) rfl ⟨c4, trivial⟩ ?_
        refine q_lvpick [2, 3, 4, 5, 6, 7, 8, 0] (lv' := [(0, .ref r), (1, .int v), (2, .int v2), (3, .int v3), (4, .int v4), (5, .ref (r + 1)), (6, .int 6), (7, .int (v7 + 1))]) rfl ?_
        exact ih v2 v3 v4 (v7 + 1) τ rr ((hP.1 c3).2.2 c4) hF
    · rw [if_neg c3] at hF
      refine q_go C tk_X4_shuffleLanes [(17, 1)] [true] (pc1 := 82) (σ1 := τ) (lv1 := [(0, .ref r), (1, .int v), (2, .int v2), (3, .int v3), (4, .int v4), (5, .ref (r + 1)), (6, .int 6), (7, .int v7)]) (st1 := []) rfl ⟨c3, trivial⟩ ?_
      exact q_vret C hr (q_dc (z := (82, .return_, 1, 0, 0)) tk_X4_shuffleLanes 45 rfl) hF rfl (Nat.le_of_ble_eq_true rfl) (Nat.le_of_ble_eq_true rfl)
def F_X4_shuffleLanes (r : Nat) (v : Int32) (σ : q_M) : q_M := (q_L (F_X4_countEntered r σ) (fun x1 : Int32 => (FL_X4_shuffleLanes_24 r v 10 x1 x1 v 0 σ)))
def P_X4_shuffleLanes (r : Nat) (v : Int32) (σ : q_M) : Prop := ((P_X4_countEntered r σ) ∧ (∀ x1 : Int32, (F_X4_countEntered r σ) = x1 → (PL_X4_shuffleLanes_24 r v 10 x1 x1 v 0 σ)))
set_option maxRecDepth 100000 in
theorem k_X4_shuffleLanes {α β : Nat → Nat} {D : va_G} {κ : Nat → ClassId} (r : Nat) (v : Int32) (σ : q_M) (h_r : q_kd r = 6) (hP : P_X4_shuffleLanes r v σ) : q_C α β D κ yX4_shuffleLanes cX4_shuffleLanes 9 (Option.none : Option Jvm.ClassFile.FieldType) 2 51 0 0 [.ref r, .int v] σ q_ov (F_X4_shuffleLanes r v σ) := by
  refine q_enter (own := RX4) (F := F_X4) (G := G_X4) (by decide +kernel) rfl Fok_X4 Gok_X4 (Nat.le_of_ble_eq_true rfl) (fun p l e s m args below meth c A hfl C hr hT => ?_)
  generalize hF : F_X4_shuffleLanes r v σ = rr
  unfold F_X4_shuffleLanes at hF
  refine q_go C tk_X4_shuffleLanes [(0, 1)] [] (pc1 := 1) (σ1 := σ) (lv1 := [(0, .ref r), (1, .int v)]) (st1 := [.ref r]) rfl trivial ?_
  refine q_callV C hfl mw_X4_countEntered mi_X4_countEntered me_X4_countEntered lk_X4_71 (k_X4_countEntered r σ h_r hP.1) (rest := []) rfl h_r rfl (by decide) (by decide) rfl (q_dc (z := (1, .invokevirtual 71, 3, 0, 0)) tk_X4_shuffleLanes 1 rfl) (Nat.le_of_ble_eq_true rfl) ⟨Nat.le_of_ble_eq_true rfl, Nat.le_of_ble_eq_true rfl⟩ ⟨Nat.le_of_ble_eq_true rfl, Nat.le_of_ble_eq_true rfl⟩ ?_
  refine q_nrm 4 [.int (F_X4_countEntered r σ)] 0 0 rfl rfl rfl rfl ?_
  generalize e2 : (F_X4_countEntered r σ) = x1
  replace hF := q_let e2 hF
  refine q_go C tk_X4_shuffleLanes [(2, 13)] [] (pc1 := 24) (σ1 := σ) (lv1 := [(7, .int 0), (6, .int 6), (5, .ref (r + 1)), (4, .int v), (3, .int x1), (2, .int x1), (0, .ref r), (1, .int v)]) (st1 := []) rfl ⟨h_r, (q_kd_ta h_r), trivial⟩ ?_
  refine q_lvpick [6, 7, 5, 4, 3, 2, 1, 0] (lv' := [(0, .ref r), (1, .int v), (2, .int x1), (3, .int x1), (4, .int v), (5, .ref (r + 1)), (6, .int 6), (7, .int 0)]) rfl ?_
  exact kl_X4_shuffleLanes_24 r v h_r hfl C hr hT 10 x1 x1 v 0 σ rr (hP.2 x1 e2) hF
def FL_X4_begin_15 (r : Nat) : Nat → Int32 → q_M → q_M
  | 0, v3, τ => τ
  | nn + 1, v3, τ => (if v3 < 6 then (if (τ ((r + 1) + 1 + 3 * (v3).toNatClampNeg) 3) = 1 then (FL_X4_begin_15 r nn (v3 + 1) (q_up τ ((r + 1) + 1 + 3 * (v3).toNatClampNeg) 3 2)) else (FL_X4_begin_15 r nn (v3 + 1) τ)) else τ)
def PL_X4_begin_15 (r : Nat) : Nat → Int32 → q_M → Prop
  | 0, v3, τ => False
  | nn + 1, v3, τ => ((v3 < 6 → (vp_in v3 6 ∧ (((τ ((r + 1) + 1 + 3 * (v3).toNatClampNeg) 3) = 1 → (PL_X4_begin_15 r nn (v3 + 1) (q_up τ ((r + 1) + 1 + 3 * (v3).toNatClampNeg) 3 2))) ∧ (¬ (τ ((r + 1) + 1 + 3 * (v3).toNatClampNeg) 3) = 1 → (PL_X4_begin_15 r nn (v3 + 1) τ))))) ∧ (¬ v3 < 6 → True))
set_option maxRecDepth 100000 in
theorem kl_X4_begin_15 {α β : Nat → Nat} {D : va_G} {κ : Nat → ClassId} (r : Nat) (h_r : q_kd r = 6) {p : Program} {l : Launch} {e : Env} {s : State} {m : MethodId} {args : Array Value} {below : List Frame} {meth : Method} {c : Code} {A : Nat → Prop} (hfl : l.flags = flags0) (C : q_Cx α β D κ p s m args meth c cX4_begin RX4 F_X4 G_X4 5 A) (hr : meth.sig.returnType = (Option.none : Option Jvm.ClassFile.FieldType)) (hT : ∀ x ∈ c.exceptionTable.toList, False) : ∀ (nn : Nat) (v3 : Int32) (τ : q_M) (rr : q_M), PL_X4_begin_15 r nn v3 τ → FL_X4_begin_15 r nn v3 τ = rr → q_St α β D κ p l e ({ frames := 0, cells := 0, slots := 0, locals := 0 } : Room) s m args below meth c 5 A (vx_MQ below (q_Qc α β D κ A q_ov rr) (q_XC α β D κ A q_ov rr) args s 0 0 A) 0 0 τ [(0, .ref r), (1, .ref (r + 1)), (2, .int 6), (3, .int v3)] 15 [] := by
  intro nn
  induction nn with
  | zero => intro v3 τ rr hP; exact hP.elim
  | succ nn ih =>
    intro v3 τ rr hP hF
    unfold FL_X4_begin_15 at hF
    refine q_go C tk_X4_begin [(11, 2)] [] (pc1 := 17) (σ1 := τ) (lv1 := [(0, .ref r), (1, .ref (r + 1)), (2, .int 6), (3, .int v3)]) (st1 := [.int 6, .int v3]) rfl trivial ?_
    by_cases c1 : v3 < 6
    · rw [if_pos c1] at hF
      refine q_go C tk_X4_begin [(13, 8)] [false] (pc1 := 33) (σ1 := τ) (lv1 := [(4, .ref ((r + 1) + 1 + 3 * (v3).toNatClampNeg)), (0, .ref r), (1, .ref (r + 1)), (2, .int 6), (3, .int v3)]) (st1 := [q_e 1, q_e (τ ((r + 1) + 1 + 3 * (v3).toNatClampNeg) 3)]) rfl ⟨c1, (q_kd_ta h_r), (hP.1 c1).1, (q_kd_te (q_kd_ta h_r) (hP.1 c1).1), trivial⟩ ?_
      by_cases c2 : (τ ((r + 1) + 1 + 3 * (v3).toNatClampNeg) 3) = 1
      · rw [if_pos c2] at hF
        refine q_go C tk_X4_begin [(21, 6)] [false] (pc1 := 15) (σ1 := (q_up τ ((r + 1) + 1 + 3 * (v3).toNatClampNeg) 3 2)) (lv1 := [(3, .int (v3 + 1)), (4, .ref ((r + 1) + 1 + 3 * (v3).toNatClampNeg)), (0, .ref r), (1, .ref (r + 1)), (2, .int 6)]) (st1 := []) rfl ⟨(congrArg Int32.toUInt32 c2), (q_kd_te (q_kd_ta h_r) (hP.1 c1).1), trivial⟩ ?_
        refine q_lvpick [2, 3, 4, 0] (lv' := [(0, .ref r), (1, .ref (r + 1)), (2, .int 6), (3, .int (v3 + 1))]) rfl ?_
        exact ih (v3 + 1) (q_up τ ((r + 1) + 1 + 3 * (v3).toNatClampNeg) 3 2) rr ((hP.1 c1).2.1 c2) hF
      · rw [if_neg c2] at hF
        refine q_go C tk_X4_begin [(21, 1), (25, 2)] [true] (pc1 := 15) (σ1 := τ) (lv1 := [(3, .int (v3 + 1)), (4, .ref ((r + 1) + 1 + 3 * (v3).toNatClampNeg)), (0, .ref r), (1, .ref (r + 1)), (2, .int 6)]) (st1 := []) rfl ⟨(fun q => c2 (q_u32 q)), trivial⟩ ?_
        refine q_lvpick [2, 3, 4, 0] (lv' := [(0, .ref r), (1, .ref (r + 1)), (2, .int 6), (3, .int (v3 + 1))]) rfl ?_
        exact ih (v3 + 1) τ rr ((hP.1 c1).2.2 c2) hF
    · rw [if_neg c1] at hF
      refine q_go C tk_X4_begin [(13, 1)] [true] (pc1 := 50) (σ1 := τ) (lv1 := [(0, .ref r), (1, .ref (r + 1)), (2, .int 6), (3, .int v3)]) (st1 := []) rfl ⟨c1, trivial⟩ ?_
      exact q_vret C hr (q_dc (z := (50, .return_, 1, 0, 0)) tk_X4_begin 27 rfl) hF rfl (Nat.le_of_ble_eq_true rfl) (Nat.le_of_ble_eq_true rfl)
def F_X4_begin (r : Nat) (σ : q_M) : q_M := (FL_X4_begin_15 r 10 0 (q_up σ r 1 1))
def P_X4_begin (r : Nat) (σ : q_M) : Prop := (PL_X4_begin_15 r 10 0 (q_up σ r 1 1))
set_option maxRecDepth 100000 in
theorem k_X4_begin {α β : Nat → Nat} {D : va_G} {κ : Nat → ClassId} (r : Nat) (σ : q_M) (h_r : q_kd r = 6) (hP : P_X4_begin r σ) : q_C α β D κ yX4_begin cX4_begin 5 (Option.none : Option Jvm.ClassFile.FieldType) 0 0 0 0 [.ref r] σ q_ov (F_X4_begin r σ) := by
  refine q_enter (own := RX4) (F := F_X4) (G := G_X4) (by decide +kernel) rfl Fok_X4 Gok_X4 (Nat.le_of_ble_eq_true rfl) (fun p l e s m args below meth c A hfl C hr hT => ?_)
  generalize hF : F_X4_begin r σ = rr
  unfold F_X4_begin at hF
  refine q_go C tk_X4_begin [(0, 11)] [] (pc1 := 15) (σ1 := (q_up σ r 1 1)) (lv1 := [(3, .int 0), (2, .int 6), (1, .ref (r + 1)), (0, .ref r)]) (st1 := []) rfl ⟨h_r, (by decide), h_r, (q_kd_ta h_r), trivial⟩ ?_
  refine q_lvpick [3, 2, 1, 0] (lv' := [(0, .ref r), (1, .ref (r + 1)), (2, .int 6), (3, .int 0)]) rfl ?_
  exact kl_X4_begin_15 r h_r hfl C hr hT 10 0 (q_up σ r 1 1) rr hP hF
def FL_X4_letSecondsPass_33 (r : Nat) (v : Int32) (v3 : Int32) : Nat → Int32 → Int32 → q_M → (Int32 × q_M)
  | 0, v2, v6, τ => (0, τ)
  | nn + 1, v2, v6, τ => (if v6 < 6 then (if (τ ((r + 1) + 1 + 3 * (v6).toNatClampNeg) 3) = 2 then (q_L (F_X6_moveOneSecond ((r + 1) + 1 + 3 * (v6).toNatClampNeg) (τ r 3) (τ r 2) τ).2 (fun σ7 : q_M => (if (F_X6_moveOneSecond ((r + 1) + 1 + 3 * (v6).toNatClampNeg) (τ r 3) (τ r 2) τ).1 = 0 then (FL_X4_letSecondsPass_33 r v v3 nn v2 (v6 + 1) σ7) else (FL_X4_letSecondsPass_33 r v v3 nn (v2 + 1) (v6 + 1) σ7)))) else (FL_X4_letSecondsPass_33 r v v3 nn v2 (v6 + 1) τ)) else (v2, τ))
def PL_X4_letSecondsPass_33 (r : Nat) (v : Int32) (v3 : Int32) : Nat → Int32 → Int32 → q_M → Prop
  | 0, v2, v6, τ => False
  | nn + 1, v2, v6, τ => ((v6 < 6 → (vp_in v6 6 ∧ (((τ ((r + 1) + 1 + 3 * (v6).toNatClampNeg) 3) = 2 → ((P_X6_moveOneSecond ((r + 1) + 1 + 3 * (v6).toNatClampNeg) (τ r 3) (τ r 2) τ) ∧ (∀ σ7 : q_M, (F_X6_moveOneSecond ((r + 1) + 1 + 3 * (v6).toNatClampNeg) (τ r 3) (τ r 2) τ).2 = σ7 → (((F_X6_moveOneSecond ((r + 1) + 1 + 3 * (v6).toNatClampNeg) (τ r 3) (τ r 2) τ).1 = 0 → (PL_X4_letSecondsPass_33 r v v3 nn v2 (v6 + 1) σ7)) ∧ (¬ (F_X6_moveOneSecond ((r + 1) + 1 + 3 * (v6).toNatClampNeg) (τ r 3) (τ r 2) τ).1 = 0 → (PL_X4_letSecondsPass_33 r v v3 nn (v2 + 1) (v6 + 1) σ7)))))) ∧ (¬ (τ ((r + 1) + 1 + 3 * (v6).toNatClampNeg) 3) = 2 → (PL_X4_letSecondsPass_33 r v v3 nn v2 (v6 + 1) τ))))) ∧ (¬ v6 < 6 → True))
set_option maxRecDepth 100000 in
theorem kl_X4_letSecondsPass_33 {α β : Nat → Nat} {D : va_G} {κ : Nat → ClassId} (r : Nat) (v : Int32) (v3 : Int32) (h_r : q_kd r = 6) {p : Program} {l : Launch} {e : Env} {s : State} {m : MethodId} {args : Array Value} {below : List Frame} {meth : Method} {c : Code} {A : Nat → Prop} (hfl : l.flags = flags0) (C : q_Cx α β D κ p s m args meth c cX4_letSecondsPass RX4 F_X4 G_X4 8 A) (hr : meth.sig.returnType = (Option.some Jvm.ClassFile.FieldType.int)) (hT : ∀ x ∈ c.exceptionTable.toList, False) {o : q_O} {σ9 : q_M} : ∀ (nn : Nat) (v2 : Int32) (v6 : Int32) (τ : q_M), PL_X4_letSecondsPass_33 r v v3 nn v2 v6 τ → (∀ (x1 : Int32) (τ1 : q_M), FL_X4_letSecondsPass_33 r v v3 nn v2 v6 τ = (x1, τ1) → q_St α β D κ p l e ({ frames := 7, cells := 0, slots := 0, locals := 126 } : Room) s m args below meth c 8 A (vx_MQ below (q_Qc α β D κ A o σ9) (q_XC α β D κ A o σ9) args s 0 0 A) 0 0 τ1 [(0, .ref r), (1, .int v), (3, .int v3), (4, .ref (r + 1)), (5, .int 6), (2, .int x1)] 83 []) → q_St α β D κ p l e ({ frames := 7, cells := 0, slots := 0, locals := 126 } : Room) s m args below meth c 8 A (vx_MQ below (q_Qc α β D κ A o σ9) (q_XC α β D κ A o σ9) args s 0 0 A) 0 0 τ [(0, .ref r), (1, .int v), (2, .int v2), (3, .int v3), (4, .ref (r + 1)), (5, .int 6), (6, .int v6)] 33 [] := by
  intro nn
  induction nn with
  | zero => intro v2 v6 τ hP; exact hP.elim
  | succ nn ih =>
    intro v2 v6 τ hP hK
    generalize hF : FL_X4_letSecondsPass_33 r v v3 (nn + 1) v2 v6 τ = rr at hK
    unfold FL_X4_letSecondsPass_33 at hF
    refine q_go C tk_X4_letSecondsPass [(21, 2)] [] (pc1 := 37) (σ1 := τ) (lv1 := [(0, .ref r), (1, .int v), (2, .int v2), (3, .int v3), (4, .ref (r + 1)), (5, .int 6), (6, .int v6)]) (st1 := [.int 6, .int v6]) rfl trivial ?_
    by_cases c5 : v6 < 6
    · rw [if_pos c5] at hF
      refine q_go C tk_X4_letSecondsPass [(23, 8)] [false] (pc1 := 55) (σ1 := τ) (lv1 := [(7, .ref ((r + 1) + 1 + 3 * (v6).toNatClampNeg)), (0, .ref r), (1, .int v), (2, .int v2), (3, .int v3), (4, .ref (r + 1)), (5, .int 6), (6, .int v6)]) (st1 := [q_e 2, q_e (τ ((r + 1) + 1 + 3 * (v6).toNatClampNeg) 3)]) rfl ⟨c5, (q_kd_ta h_r), (hP.1 c5).1, (q_kd_te (q_kd_ta h_r) (hP.1 c5).1), trivial⟩ ?_
      by_cases c6 : (τ ((r + 1) + 1 + 3 * (v6).toNatClampNeg) 3) = 2
      · rw [if_pos c6] at hF
        refine q_go C tk_X4_letSecondsPass [(31, 6)] [false] (pc1 := 68) (σ1 := τ) (lv1 := [(7, .ref ((r + 1) + 1 + 3 * (v6).toNatClampNeg)), (0, .ref r), (1, .int v), (2, .int v2), (3, .int v3), (4, .ref (r + 1)), (5, .int 6), (6, .int v6)]) (st1 := [.int (τ r 2), .int (τ r 3), .ref ((r + 1) + 1 + 3 * (v6).toNatClampNeg)]) rfl ⟨(congrArg Int32.toUInt32 c6), h_r, h_r, trivial⟩ ?_
        refine q_callV C hfl mw_X6_moveOneSecond mi_X6_moveOneSecond me_X6_moveOneSecond lk_X4_120 (k_X6_moveOneSecond ((r + 1) + 1 + 3 * (v6).toNatClampNeg) (τ r 3) (τ r 2) τ (q_kd_te (q_kd_ta h_r) (hP.1 c5).1) ((hP.1 c5).2.1 c6).1) (rest := []) rfl (q_kd_te (q_kd_ta h_r) (hP.1 c5).1) rfl (by decide) (by decide) rfl (q_dc (z := (68, .invokevirtual 120, 3, 0, 0)) tk_X4_letSecondsPass 37 rfl) (Nat.le_of_ble_eq_true rfl) ⟨Nat.le_of_ble_eq_true rfl, Nat.le_of_ble_eq_true rfl⟩ ⟨Nat.le_of_ble_eq_true rfl, Nat.le_of_ble_eq_true rfl⟩ ?_
        refine q_nrm 71 [.int (F_X6_moveOneSecond ((r + 1) + 1 + 3 * (v6).toNatClampNeg) (τ r 3) (τ r 2) τ).1] 0 0 rfl rfl rfl rfl ?_
        generalize e8 : (F_X6_moveOneSecond ((r + 1) + 1 + 3 * (v6).toNatClampNeg) (τ r 3) (τ r 2) τ).2 = σ7
        replace hF := q_let e8 hF
        by_cases c9 : (F_X6_moveOneSecond ((r + 1) + 1 + 3 * (v6).toNatClampNeg) (τ r 3) (τ r 2) τ).1 = 0
        · rw [if_pos c9] at hF
          refine q_go C tk_X4_letSecondsPass [(38, 1), (40, 2)] [true] (pc1 := 33) (σ1 := σ7) (lv1 := [(6, .int (v6 + 1)), (7, .ref ((r + 1) + 1 + 3 * (v6).toNatClampNeg)), (0, .ref r), (1, .int v), (2, .int v2), (3, .int v3), (4, .ref (r + 1)), (5, .int 6)]) (st1 := []) rfl ⟨c9, trivial⟩ ?_
          refine q_lvpick [2, 3, 4, 5, 6, 7, 0] (lv' := [(0, .ref r), (1, .int v), (2, .int v2), (3, .int v3), (4, .ref (r + 1)), (5, .int 6), (6, .int (v6 + 1))]) rfl ?_
          exact ih v2 (v6 + 1) σ7 ((((hP.1 c5).2.1 c6).2 σ7 e8).1 c9) (by rw [hF]; exact hK)
        · rw [if_neg c9] at hF
          refine q_go C tk_X4_letSecondsPass [(38, 4)] [false] (pc1 := 33) (σ1 := σ7) (lv1 := [(6, .int (v6 + 1)), (2, .int (v2 + 1)), (7, .ref ((r + 1) + 1 + 3 * (v6).toNatClampNeg)), (0, .ref r), (1, .int v), (3, .int v3), (4, .ref (r + 1)), (5, .int 6)]) (st1 := []) rfl ⟨c9, trivial⟩ ?_
          refine q_lvpick [3, 4, 1, 5, 6, 7, 0] (lv' := [(0, .ref r), (1, .int v), (2, .int (v2 + 1)), (3, .int v3), (4, .ref (r + 1)), (5, .int 6), (6, .int (v6 + 1))]) rfl ?_
          exact ih (v2 + 1) (v6 + 1) σ7 ((((hP.1 c5).2.1 c6).2 σ7 e8).2 c9) (by rw [hF]; exact hK)
      · rw [if_neg c6] at hF
        refine q_go C tk_X4_letSecondsPass [(31, 1), (40, 2)] [true] (pc1 := 33) (σ1 := τ) (lv1 := [(6, .int (v6 + 1)), (7, .ref ((r + 1) + 1 + 3 * (v6).toNatClampNeg)), (0, .ref r), (1, .int v), (2, .int v2), (3, .int v3), (4, .ref (r + 1)), (5, .int 6)]) (st1 := []) rfl ⟨(fun q => c6 (q_u32 q)), trivial⟩ ?_
        refine q_lvpick [2, 3, 4, 5, 6, 7, 0] (lv' := [(0, .ref r), (1, .int v), (2, .int v2), (3, .int v3), (4, .ref (r + 1)), (5, .int 6), (6, .int (v6 + 1))]) rfl ?_
        exact ih v2 (v6 + 1) τ ((hP.1 c5).2.2 c6) (by rw [hF]; exact hK)
    · rw [if_neg c5] at hF
      refine q_go C tk_X4_letSecondsPass [(23, 1)] [true] (pc1 := 83) (σ1 := τ) (lv1 := [(0, .ref r), (1, .int v), (2, .int v2), (3, .int v3), (4, .ref (r + 1)), (5, .int 6), (6, .int v6)]) (st1 := []) rfl ⟨c5, trivial⟩ ?_
      refine q_lvpick [0, 1, 3, 4, 5, 2] (lv' := [(0, .ref r), (1, .int v), (3, .int v3), (4, .ref (r + 1)), (5, .int 6), (2, .int v2)]) rfl ?_
      exact hK _ _ hF.symm
def FL_X4_letSecondsPass_4 (r : Nat) (v : Int32) : Nat → Int32 → Int32 → q_M → (Int32) × q_M
  | 0, v2, v3, τ => (0, τ)
  | nn + 1, v2, v3, τ => (if v3 < v then (q_L2 (FL_X4_letSecondsPass_33 r v v3 8 v2 0 (q_up τ r 2 ((τ r 2) + 1))) (fun (y3 : Int32) (σ2 : q_M) => (FL_X4_letSecondsPass_4 r v nn y3 (v3 + 1) σ2))) else (v2, τ))
def PL_X4_letSecondsPass_4 (r : Nat) (v : Int32) : Nat → Int32 → Int32 → q_M → Prop
  | 0, v2, v3, τ => False
  | nn + 1, v2, v3, τ => ((v3 < v → ((PL_X4_letSecondsPass_33 r v v3 8 v2 0 (q_up τ r 2 ((τ r 2) + 1))) ∧ (∀ (y3 : Int32) (σ2 : q_M), (FL_X4_letSecondsPass_33 r v v3 8 v2 0 (q_up τ r 2 ((τ r 2) + 1))) = (y3, σ2) → (PL_X4_letSecondsPass_4 r v nn y3 (v3 + 1) σ2)))) ∧ (¬ v3 < v → True))
set_option maxRecDepth 100000 in
theorem kl_X4_letSecondsPass_4 {α β : Nat → Nat} {D : va_G} {κ : Nat → ClassId} (r : Nat) (v : Int32) (h_r : q_kd r = 6) {p : Program} {l : Launch} {e : Env} {s : State} {m : MethodId} {args : Array Value} {below : List Frame} {meth : Method} {c : Code} {A : Nat → Prop} (hfl : l.flags = flags0) (C : q_Cx α β D κ p s m args meth c cX4_letSecondsPass RX4 F_X4 G_X4 8 A) (hr : meth.sig.returnType = (Option.some Jvm.ClassFile.FieldType.int)) (hT : ∀ x ∈ c.exceptionTable.toList, False) : ∀ (nn : Nat) (v2 : Int32) (v3 : Int32) (τ : q_M) (rr : (Int32) × q_M), PL_X4_letSecondsPass_4 r v nn v2 v3 τ → FL_X4_letSecondsPass_4 r v nn v2 v3 τ = rr → q_St α β D κ p l e ({ frames := 7, cells := 0, slots := 0, locals := 126 } : Room) s m args below meth c 8 A (vx_MQ below (q_Qc α β D κ A (q_oi rr.1) rr.2) (q_XC α β D κ A (q_oi rr.1) rr.2) args s 0 0 A) 0 0 τ [(0, .ref r), (1, .int v), (2, .int v2), (3, .int v3)] 4 [] := by
  intro nn
  induction nn with
  | zero => intro v2 v3 τ rr hP; exact hP.elim
  | succ nn ih =>
    intro v2 v3 τ rr hP hF
    unfold FL_X4_letSecondsPass_4 at hF
    refine q_go C tk_X4_letSecondsPass [(4, 2)] [] (pc1 := 6) (σ1 := τ) (lv1 := [(0, .ref r), (1, .int v), (2, .int v2), (3, .int v3)]) (st1 := [.int v, .int v3]) rfl trivial ?_
    by_cases c1 : v3 < v
    · rw [if_pos c1] at hF
      refine q_go C tk_X4_letSecondsPass [(6, 15)] [false] (pc1 := 33) (σ1 := (q_up τ r 2 ((τ r 2) + 1))) (lv1 := [(6, .int 0), (5, .int 6), (4, .ref (r + 1)), (0, .ref r), (1, .int v), (2, .int v2), (3, .int v3)]) (st1 := []) rfl ⟨c1, h_r, h_r, h_r, (q_kd_ta h_r), trivial⟩ ?_
      refine q_lvpick [3, 4, 5, 6, 2, 1, 0] (lv' := [(0, .ref r), (1, .int v), (2, .int v2), (3, .int v3), (4, .ref (r + 1)), (5, .int 6), (6, .int 0)]) rfl ?_
      refine kl_X4_letSecondsPass_33 r v v3 h_r hfl C hr hT 8 v2 0 (q_up τ r 2 ((τ r 2) + 1)) (hP.1 c1).1 (fun y3 σ2 e4 => ?_)
      replace hF := q_let2 e4 hF
      refine q_go C tk_X4_letSecondsPass [(42, 2)] [] (pc1 := 4) (σ1 := σ2) (lv1 := [(3, .int (v3 + 1)), (0, .ref r), (1, .int v), (4, .ref (r + 1)), (5, .int 6), (2, .int y3)]) (st1 := []) rfl trivial ?_
      refine q_lvpick [1, 2, 5, 0] (lv' := [(0, .ref r), (1, .int v), (2, .int y3), (3, .int (v3 + 1))]) rfl ?_
      exact ih y3 (v3 + 1) σ2 rr ((hP.1 c1).2 y3 σ2 e4) hF
    · rw [if_neg c1] at hF
      refine q_go C tk_X4_letSecondsPass [(6, 1), (44, 1)] [true] (pc1 := 90) (σ1 := τ) (lv1 := [(0, .ref r), (1, .int v), (2, .int v2), (3, .int v3)]) (st1 := [.int v2]) rfl ⟨c1, trivial⟩ ?_
      exact q_iret C hr (q_dc (z := (90, .ireturn, 1, 0, 0)) tk_X4_letSecondsPass 45 rfl) (congrArg Prod.snd hF) (congrArg (fun z => q_oi z.1) hF.symm) (Nat.le_of_ble_eq_true rfl) (Nat.le_of_ble_eq_true rfl)
def F_X4_letSecondsPass (r : Nat) (v : Int32) (σ : q_M) : (Int32) × q_M := (FL_X4_letSecondsPass_4 r v 201 0 0 σ)
def P_X4_letSecondsPass (r : Nat) (v : Int32) (σ : q_M) : Prop := (PL_X4_letSecondsPass_4 r v 201 0 0 σ)
set_option maxRecDepth 100000 in
theorem k_X4_letSecondsPass {α β : Nat → Nat} {D : va_G} {κ : Nat → ClassId} (r : Nat) (v : Int32) (σ : q_M) (h_r : q_kd r = 6) (hP : P_X4_letSecondsPass r v σ) : q_C α β D κ yX4_letSecondsPass cX4_letSecondsPass 8 (Option.some Jvm.ClassFile.FieldType.int) 7 126 0 0 [.ref r, .int v] σ (q_oi (F_X4_letSecondsPass r v σ).1) (F_X4_letSecondsPass r v σ).2 := by
  refine q_enter (own := RX4) (F := F_X4) (G := G_X4) (by decide +kernel) rfl Fok_X4 Gok_X4 (Nat.le_of_ble_eq_true rfl) (fun p l e s m args below meth c A hfl C hr hT => ?_)
  generalize hF : F_X4_letSecondsPass r v σ = rr
  unfold F_X4_letSecondsPass at hF
  refine q_go C tk_X4_letSecondsPass [(0, 4)] [] (pc1 := 4) (σ1 := σ) (lv1 := [(3, .int 0), (2, .int 0), (0, .ref r), (1, .int v)]) (st1 := []) rfl trivial ?_
  refine q_lvpick [2, 3, 1, 0] (lv' := [(0, .ref r), (1, .int v), (2, .int 0), (3, .int 0)]) rfl ?_
  exact kl_X4_letSecondsPass_4 r v h_r hfl C hr hT 201 0 0 σ rr hP hF
def F_X4_handOver (r : Nat) (t : Nat) (σ : q_M) : (Int32) × q_M := (if ((F_X6_legEnd t (σ r 3) σ) + 100) < (σ t 5) then (q_L (q_up σ t 12 1) (fun σ2 : q_M => (q_L (F_X6_endLeg t (σ r 2) σ2).2 (fun σ4 : q_M => (q_L (F_X6_endLeg t (σ r 2) σ2).1 (fun x6 : Int32 => (x6, (q_up (q_up σ4 t 6 ((σ4 t 6) + 1)) t 7 0)))))))) else (q_L (F_X6_endLeg t (σ r 2) σ).2 (fun σ8 : q_M => (q_L (F_X6_endLeg t (σ r 2) σ).1 (fun x10 : Int32 => (x10, (q_up (q_up σ8 t 6 ((σ8 t 6) + 1)) t 7 0)))))))
def P_X4_handOver (r : Nat) (t : Nat) (σ : q_M) : Prop := ((((F_X6_legEnd t (σ r 3) σ) + 100) < (σ t 5) → (∀ σ2 : q_M, (q_up σ t 12 1) = σ2 → ((P_X6_endLeg t (σ r 2) σ2) ∧ True))) ∧ (¬ ((F_X6_legEnd t (σ r 3) σ) + 100) < (σ t 5) → ((P_X6_endLeg t (σ r 2) σ) ∧ True)))
set_option maxRecDepth 100000 in
theorem k_X4_handOver {α β : Nat → Nat} {D : va_G} {κ : Nat → ClassId} (r : Nat) (t : Nat) (σ : q_M) (h_r : q_kd r = 6) (h_t : q_kd t = 7) (hP : P_X4_handOver r t σ) : q_C α β D κ yX4_handOver cX4_handOver 3 (Option.some Jvm.ClassFile.FieldType.int) 2 44 0 0 [.ref r, .ref t] σ (q_oi (F_X4_handOver r t σ).1) (F_X4_handOver r t σ).2 := by
  refine q_enter (own := RX4) (F := F_X4) (G := G_X4) (by decide +kernel) rfl Fok_X4 Gok_X4 (Nat.le_of_ble_eq_true rfl) (fun p l e s m args below meth c A hfl C hr hT => ?_)
  generalize hF : F_X4_handOver r t σ = rr
  unfold F_X4_handOver at hF
  refine q_go C tk_X4_handOver [(0, 5)] [] (pc1 := 9) (σ1 := σ) (lv1 := [(0, .ref r), (1, .ref t)]) (st1 := [.int (σ r 3), .ref t, .int (σ t 5)]) rfl ⟨h_t, h_r, trivial⟩ ?_
  refine q_callV C hfl mw_X6_legEnd mi_X6_legEnd me_X6_legEnd lk_X4_126 (k_X6_legEnd t (σ r 3) σ h_t) (rest := [.int (σ t 5)]) rfl h_t rfl (by decide) (by decide) rfl (q_dc (z := (9, .invokevirtual 126, 3, 0, 0)) tk_X4_handOver 5 rfl) (Nat.le_of_ble_eq_true rfl) ⟨Nat.le_of_ble_eq_true rfl, Nat.le_of_ble_eq_true rfl⟩ ⟨Nat.le_of_ble_eq_true rfl, Nat.le_of_ble_eq_true rfl⟩ ?_
  refine q_nrm 12 [.int (F_X6_legEnd t (σ r 3) σ), .int (σ t 5)] 0 0 rfl rfl rfl rfl ?_
  refine q_go C tk_X4_handOver [(6, 2)] [] (pc1 := 15) (σ1 := σ) (lv1 := [(0, .ref r), (1, .ref t)]) (st1 := [.int ((F_X6_legEnd t (σ r 3) σ) + 100), .int (σ t 5)]) rfl trivial ?_
  by_cases c1 : ((F_X6_legEnd t (σ r 3) σ) + 100) < (σ t 5)
  · rw [if_pos c1] at hF
    refine q_go C tk_X4_handOver [(8, 7)] [false] (pc1 := 28) (σ1 := (q_up σ t 12 1)) (lv1 := [(0, .ref r), (1, .ref t)]) (st1 := [.int (σ r 2), .ref t]) rfl ⟨c1, h_t, (by decide), h_r, trivial⟩ ?_
    generalize e3 : (q_up σ t 12 1) = σ2
    replace hF := q_let e3 hF
    refine q_callV C hfl mw_X6_endLeg mi_X6_endLeg me_X6_endLeg lk_X4_133 (k_X6_endLeg t (σ r 2) σ2 h_t ((hP.1 c1) σ2 e3).1) (rest := []) rfl h_t rfl (by decide) (by decide) rfl (q_dc (z := (28, .invokevirtual 133, 3, 0, 0)) tk_X4_handOver 15 rfl) (Nat.le_of_ble_eq_true rfl) ⟨Nat.le_of_ble_eq_true rfl, Nat.le_of_ble_eq_true rfl⟩ ⟨Nat.le_of_ble_eq_true rfl, Nat.le_of_ble_eq_true rfl⟩ ?_
    refine q_nrm 31 [.int (F_X6_endLeg t (σ r 2) σ2).1] 0 0 rfl rfl rfl rfl ?_
    generalize e5 : (F_X6_endLeg t (σ r 2) σ2).2 = σ4
    replace hF := q_let e5 hF
    generalize e7 : (F_X6_endLeg t (σ r 2) σ2).1 = x6
    replace hF := q_let e7 hF
    refine q_go C tk_X4_handOver [(16, 11)] [] (pc1 := 48) (σ1 := (q_up (q_up σ4 t 6 ((σ4 t 6) + 1)) t 7 0)) (lv1 := [(2, .int x6), (0, .ref r), (1, .ref t)]) (st1 := [.int x6]) rfl ⟨h_t, h_t, h_t, trivial⟩ ?_
    exact q_iret C hr (q_dc (z := (48, .ireturn, 1, 0, 0)) tk_X4_handOver 27 rfl) (congrArg Prod.snd hF) (congrArg (fun z => q_oi z.1) hF.symm) (Nat.le_of_ble_eq_true rfl) (Nat.le_of_ble_eq_true rfl)
  · rw [if_neg c1] at hF
    refine q_go C tk_X4_handOver [(8, 1), (12, 3)] [true] (pc1 := 28) (σ1 := σ) (lv1 := [(0, .ref r), (1, .ref t)]) (st1 := [.int (σ r 2), .ref t]) rfl ⟨c1, h_r, trivial⟩ ?_
    refine q_callV C hfl mw_X6_endLeg mi_X6_endLeg me_X6_endLeg lk_X4_133 (k_X6_endLeg t (σ r 2) σ h_t (hP.2 c1).1) (rest := []) rfl h_t rfl (by decide) (by decide) rfl (q_dc (z := (28, .invokevirtual 133, 3, 0, 0)) tk_X4_handOver 15 rfl) (Nat.le_of_ble_eq_true rfl) ⟨Nat.le_of_ble_eq_true rfl, Nat.le_of_ble_eq_true rfl⟩ ⟨Nat.le_of_ble_eq_true rfl, Nat.le_of_ble_eq_true rfl⟩ ?_
    refine q_nrm 31 [.int (F_X6_endLeg t (σ r 2) σ).1] 0 0 rfl rfl rfl rfl ?_
    generalize e9 : (F_X6_endLeg t (σ r 2) σ).2 = σ8
    replace hF := q_let e9 hF
    generalize e11 : (F_X6_endLeg t (σ r 2) σ).1 = x10
    replace hF := q_let e11 hF
    refine q_go C tk_X4_handOver [(16, 11)] [] (pc1 := 48) (σ1 := (q_up (q_up σ8 t 6 ((σ8 t 6) + 1)) t 7 0)) (lv1 := [(2, .int x10), (0, .ref r), (1, .ref t)]) (st1 := [.int x10]) rfl ⟨h_t, h_t, h_t, trivial⟩ ?_
    exact q_iret C hr (q_dc (z := (48, .ireturn, 1, 0, 0)) tk_X4_handOver 27 rfl) (congrArg Prod.snd hF) (congrArg (fun z => q_oi z.1) hF.symm) (Nat.le_of_ble_eq_true rfl) (Nat.le_of_ble_eq_true rfl)
def F_X4_dropQuill (r : Nat) (t : Nat) (v : Int32) (σ : q_M) : (Int32) × q_M := (if (F_X6_inZone t (σ r 3) σ) = 0 then (((q_up σ t 8 ((σ t 8) + v)) t 8), (q_up σ t 8 ((σ t 8) + v))) else (((q_up (q_up σ t 13 1) t 8 ((σ t 8) + v)) t 8), (q_up (q_up σ t 13 1) t 8 ((σ t 8) + v))))
set_option maxRecDepth 100000 in
theorem k_X4_dropQuill {α β : Nat → Nat} {D : va_G} {κ : Nat → ClassId} (r : Nat) (t : Nat) (v : Int32) (σ : q_M) (h_r : q_kd r = 6) (h_t : q_kd t = 7) : q_C α β D κ yX4_dropQuill cX4_dropQuill 3 (Option.some Jvm.ClassFile.FieldType.int) 2 42 0 0 [.ref r, .ref t, .int v] σ (q_oi (F_X4_dropQuill r t v σ).1) (F_X4_dropQuill r t v σ).2 := by
  refine q_enter (own := RX4) (F := F_X4) (G := G_X4) (by decide +kernel) rfl Fok_X4 Gok_X4 (Nat.le_of_ble_eq_true rfl) (fun p l e s m args below meth c A hfl C hr hT => ?_)
  generalize hF : F_X4_dropQuill r t v σ = rr
  unfold F_X4_dropQuill at hF
  refine q_go C tk_X4_dropQuill [(0, 3)] [] (pc1 := 5) (σ1 := σ) (lv1 := [(0, .ref r), (1, .ref t), (2, .int v)]) (st1 := [.int (σ r 3), .ref t]) rfl ⟨h_r, trivial⟩ ?_
  refine q_callV C hfl mw_X6_inZone mi_X6_inZone me_X6_inZone lk_X4_142 (k_X6_inZone t (σ r 3) σ h_t) (rest := []) rfl h_t rfl (by decide) (by decide) rfl (q_dc (z := (5, .invokevirtual 142, 3, 0, 0)) tk_X4_dropQuill 3 rfl) (Nat.le_of_ble_eq_true rfl) ⟨Nat.le_of_ble_eq_true rfl, Nat.le_of_ble_eq_true rfl⟩ ⟨Nat.le_of_ble_eq_true rfl, Nat.le_of_ble_eq_true rfl⟩ ?_
  refine q_nrm 8 [.int (F_X6_inZone t (σ r 3) σ)] 0 0 rfl rfl rfl rfl ?_
  by_cases c1 : (F_X6_inZone t (σ r 3) σ) = 0
  · rw [if_pos c1] at hF
    refine q_go C tk_X4_dropQuill [(4, 1), (8, 8)] [true] (pc1 := 30) (σ1 := (q_up σ t 8 ((σ t 8) + v))) (lv1 := [(0, .ref r), (1, .ref t), (2, .int v)]) (st1 := [.int ((q_up σ t 8 ((σ t 8) + v)) t 8)]) rfl ⟨c1, h_t, h_t, h_t, trivial⟩ ?_
    exact q_iret C hr (q_dc (z := (30, .ireturn, 1, 0, 0)) tk_X4_dropQuill 16 rfl) (congrArg Prod.snd hF) (congrArg (fun z => q_oi z.1) hF.symm) (Nat.le_of_ble_eq_true rfl) (Nat.le_of_ble_eq_true rfl)
  · rw [if_neg c1] at hF
    refine q_go C tk_X4_dropQuill [(4, 12)] [false] (pc1 := 30) (σ1 := (q_up (q_up σ t 13 1) t 8 ((σ t 8) + v))) (lv1 := [(0, .ref r), (1, .ref t), (2, .int v)]) (st1 := [.int ((q_up (q_up σ t 13 1) t 8 ((σ t 8) + v)) t 8)]) rfl ⟨c1, h_t, (by decide), h_t, h_t, h_t, trivial⟩ ?_
    exact q_iret C hr (q_dc (z := (30, .ireturn, 1, 0, 0)) tk_X4_dropQuill 16 rfl) (congrArg Prod.snd hF) (congrArg (fun z => q_oi z.1) hF.symm) (Nat.le_of_ble_eq_true rfl) (Nat.le_of_ble_eq_true rfl)
def F_X4_judge (r : Nat) (b : Nat) (a : Nat) (k : Int32) (σ : q_M) : (Int32) × q_M := (if (F_X6_committed a k σ) = 0 then (0, (q_up σ b 9 ((σ b 9) + 5))) else (q_L (F_X6_removeFoul a k σ) (fun σ2 : q_M => (1, (q_up σ2 a 9 ((σ2 a 9) + 10))))))
def P_X4_judge (r : Nat) (b : Nat) (a : Nat) (k : Int32) (σ : q_M) : Prop := ((P_X6_committed a k σ) ∧ True)
set_option maxRecDepth 100000 in
theorem k_X4_judge {α β : Nat → Nat} {D : va_G} {κ : Nat → ClassId} (r : Nat) (b : Nat) (a : Nat) (k : Int32) (σ : q_M) (h_r : q_kd r = 6) (h_b : q_kd b = 7) (h_a : q_kd a = 7) (hP : P_X4_judge r b a k σ) : q_C α β D κ yX4_judge cX4_judge 4 (Option.some Jvm.ClassFile.FieldType.boolean) 1 21 0 0 [.ref r, .ref b, .ref a, .int k] σ (q_oi (F_X4_judge r b a k σ).1) (F_X4_judge r b a k σ).2 := by
  refine q_enter (own := RX4) (F := F_X4) (G := G_X4) (by decide +kernel) rfl Fok_X4 Gok_X4 (Nat.le_of_ble_eq_true rfl) (fun p l e s m args below meth c A hfl C hr hT => ?_)
  generalize hF : F_X4_judge r b a k σ = rr
  unfold F_X4_judge at hF
  refine q_go C tk_X4_judge [(0, 2)] [] (pc1 := 2) (σ1 := σ) (lv1 := [(0, .ref r), (1, .ref b), (2, .ref a), (3, .int k)]) (st1 := [.int k, .ref a]) rfl trivial ?_
  refine q_callV C hfl mw_X6_committed mi_X6_committed me_X6_committed lk_X4_151 (k_X6_committed a k σ h_a hP.1) (rest := []) rfl h_a rfl (by decide) (by decide) rfl (q_dc (z := (2, .invokevirtual 151, 3, 0, 0)) tk_X4_judge 2 rfl) (Nat.le_of_ble_eq_true rfl) ⟨Nat.le_of_ble_eq_true rfl, Nat.le_of_ble_eq_true rfl⟩ ⟨Nat.le_of_ble_eq_true rfl, Nat.le_of_ble_eq_true rfl⟩ ?_
  refine q_nrm 5 [.int (F_X6_committed a k σ)] 0 0 rfl rfl rfl rfl ?_
  by_cases c1 : (F_X6_committed a k σ) = 0
  · rw [if_pos c1] at hF
    refine q_go C tk_X4_judge [(3, 1), (15, 7)] [true] (pc1 := 37) (σ1 := (q_up σ b 9 ((σ b 9) + 5))) (lv1 := [(0, .ref r), (1, .ref b), (2, .ref a), (3, .int k)]) (st1 := [.int 0]) rfl ⟨c1, h_b, h_b, trivial⟩ ?_
    exact q_zret C hr (q_dc (z := (37, .ireturn, 1, 0, 0)) tk_X4_judge 22 rfl) (by decide +kernel) (congrArg Prod.snd hF) (congrArg (fun z => q_oi z.1) hF.symm) (Nat.le_of_ble_eq_true rfl) (Nat.le_of_ble_eq_true rfl)
  · rw [if_neg c1] at hF
    refine q_go C tk_X4_judge [(3, 3)] [false] (pc1 := 10) (σ1 := σ) (lv1 := [(0, .ref r), (1, .ref b), (2, .ref a), (3, .int k)]) (st1 := [.int k, .ref a]) rfl ⟨c1, trivial⟩ ?_
    refine q_callV C hfl mw_X6_removeFoul mi_X6_removeFoul me_X6_removeFoul lk_X4_154 (k_X6_removeFoul a k σ h_a) (rest := []) rfl h_a rfl (by decide) (by decide) rfl (q_dc (z := (10, .invokevirtual 154, 3, 0, 0)) tk_X4_judge 6 rfl) (Nat.le_of_ble_eq_true rfl) ⟨Nat.le_of_ble_eq_true rfl, Nat.le_of_ble_eq_true rfl⟩ ⟨Nat.le_of_ble_eq_true rfl, Nat.le_of_ble_eq_true rfl⟩ ?_
    refine q_nrm 13 [] 0 0 rfl rfl rfl rfl ?_
    generalize e3 : (F_X6_removeFoul a k σ) = σ2
    replace hF := q_let e3 hF
    refine q_go C tk_X4_judge [(7, 7)] [] (pc1 := 25) (σ1 := (q_up σ2 a 9 ((σ2 a 9) + 10))) (lv1 := [(0, .ref r), (1, .ref b), (2, .ref a), (3, .int k)]) (st1 := [.int 1]) rfl ⟨h_a, h_a, trivial⟩ ?_
    exact q_zret C hr (q_dc (z := (25, .ireturn, 1, 0, 0)) tk_X4_judge 14 rfl) (by decide +kernel) (congrArg Prod.snd hF) (congrArg (fun z => q_oi z.1) hF.symm) (Nat.le_of_ble_eq_true rfl) (Nat.le_of_ble_eq_true rfl)
theorem z_X4_judge {r : Nat} {b : Nat} {a : Nat} {k : Int32} {σ : q_M} : (F_X4_judge r b a k σ).1 = 0 ∨ (F_X4_judge r b a k σ).1 = 1 := by
  unfold F_X4_judge
  try simp only [q_L]
  repeat' split
  all_goals first | exact Or.inl rfl | exact Or.inr rfl | exact rfl
