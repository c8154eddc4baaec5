/-! The law's helpers. -/
abbrev nx_addTeam : List String := ["java/lang/IllegalStateException"]
abbrev nc_addTeam : List (String × Int32) := [("java/lang/IllegalStateException", -900001)]
def W_addTeam (σ : q_M) : Int32 × q_M := match (F_X8_addTeam σ) with | (.inl v, τ) => (v, τ) | (.inr E, τ) => (q_code nc_addTeam E, τ)
def tb_L_addTeam : List q_E := [(0, .aload_n 0, 1, 0, 0), (1, .invokevirtual 9, 3, 0, 0), (4, .ireturn, 1, 0, 0), (5, .astore_n 1, 1, 0, 0), (6, .ldc 17, 2, 0, 0), (8, .ireturn, 1, 0, 0)]
theorem tk_L_addTeam : q_tb cL_addTeam 2 tb_L_addTeam = true := by decide +kernel
abbrev hh_L_addTeam : List (Nat × Nat × Nat × Nat) := [(0, 4, 5, 15)]
def Q_addTeam (σ : q_M) : Prop := P_X8_addTeam σ ∧ (∀ E, (F_X8_addTeam σ).1 = .inr E → E ∈ nx_addTeam)
set_option maxRecDepth 100000 in
theorem kw_addTeam {α β : Nat → Nat} {D : va_G} {κ : Nat → ClassId} (σ : q_M) (hQ : Q_addTeam σ) : q_CW α β D κ yL_addTeam cL_addTeam 2 (some .int) hh_L_addTeam 8 130 1 6 [.ref 220] σ (some (.int (W_addTeam σ).1)) (W_addTeam σ).2 := by
  have hP := hQ.1
  have hE := hQ.2
  have hk := k_X8_addTeam (α := α) (β := β) (D := D) (κ := κ) σ hP
  rcases hx : (F_X8_addTeam σ) with ⟨v | E, τ⟩
  · have hw : W_addTeam σ = (v, τ) := by unfold W_addTeam; rw [hx]
    rw [hw]
    rw [hx] at hk
    refine q_enterW (own := RL) (F := fun _ => none) (G := fun _ => none) (by decide +kernel) rfl Fok_L Gok_L (Nat.le_of_ble_eq_true rfl) (fun p l e s m args below meth c A hfl C hr hT => ?_)
    refine q_go C tk_L_addTeam [(0, 1)] [] (pc1 := 1) (σ1 := σ) (lv1 := [(0, .ref 220)]) (st1 := [.ref 220]) rfl trivial ?_
    refine q_callV (v := some (.int v)) C hfl mw_X8_addTeam mi_X8_addTeam me_X8_addTeam lk_L_9 hk (rest := []) rfl rfl rfl (by decide) (by decide) rfl (q_dc (z := (1, .invokevirtual 9, 3, 0, 0)) tk_L_addTeam 1 rfl) (Nat.le_of_ble_eq_true rfl) ⟨(Nat.le_of_ble_eq_true rfl), (Nat.le_of_ble_eq_true rfl)⟩ ⟨(Nat.le_of_ble_eq_true rfl), (Nat.le_of_ble_eq_true rfl)⟩ ?_
    refine q_nrm 4 [.int v] 1 6 rfl rfl rfl rfl ?_
    exact q_iret C hr (q_dc (z := (4, .ireturn, 1, 0, 0)) tk_L_addTeam 2 rfl) rfl rfl (Nat.le_of_ble_eq_true rfl) (Nat.le_of_ble_eq_true rfl)
  · have hw : W_addTeam σ = (q_code nc_addTeam E, τ) := by unfold W_addTeam; rw [hx]
    have hE9 := hE E (by rw [hx])
    rw [hw]
    rw [hx] at hk
    by_cases e0 : E = "java/lang/IllegalStateException"
    · subst e0
      have hq : q_code nc_addTeam "java/lang/IllegalStateException" = (-900001) := by decide +kernel
      rw [hq]
      refine q_enterW (own := RL) (F := fun _ => none) (G := fun _ => none) (by decide +kernel) rfl Fok_L Gok_L (Nat.le_of_ble_eq_true rfl) (fun p l e s m args below meth c A hfl C hr hT => ?_)
      refine q_go C tk_L_addTeam [(0, 1)] [] (pc1 := 1) (σ1 := σ) (lv1 := [(0, .ref 220)]) (st1 := [.ref 220]) rfl trivial ?_
      refine q_callVx C hfl mw_X8_addTeam mi_X8_addTeam me_X8_addTeam lk_L_9 hk (rest := []) rfl rfl rfl (by decide) (by decide) rfl (q_dc (z := (1, .invokevirtual 9, 3, 0, 0)) tk_L_addTeam 1 rfl) (Nat.le_of_ble_eq_true rfl) ⟨(Nat.le_of_ble_eq_true rfl), (Nat.le_of_ble_eq_true rfl)⟩ ⟨(Nat.le_of_ble_eq_true rfl), (Nat.le_of_ble_eq_true rfl)⟩ ?_
      refine q_catch C [] ⟨0, 4, 5, 15⟩ [] (hT.trans rfl) (by decide +kernel) (fun z hz => by cases hz) (by decide) (by decide) cl_L_15 (by decide +kernel) (i := 1) (len := 1) (q_dc (z := (5, .astore_n 1, 1, 0, 0)) tk_L_addTeam 3 rfl) (Or.inl ⟨1, rfl, rfl, rfl⟩) (by decide) ?_
      refine q_ldc C ck_L_17 (q_dc (z := (6, .ldc 17, 2, 0, 0)) tk_L_addTeam 4 rfl) ?_
      exact q_iret C hr (q_dc (z := (8, .ireturn, 1, 0, 0)) tk_L_addTeam 5 rfl) rfl rfl (Nat.le_of_ble_eq_true rfl) (Nat.le_of_ble_eq_true rfl)
    simp only [nx_addTeam, List.mem_cons, List.not_mem_nil, or_false] at hE9
    exact absurd hE9 e0
set_option maxRecDepth 100000 in
theorem cw_addTeam : Cond.codeWith yL_addTeam cL_addTeam 2 (some .int) hh_L_addTeam ∈ q_W := q_t5 66 rfl rfl
set_option maxRecDepth 100000 in
theorem sw_addTeam : Cond.static yL_addTeam ∈ q_W := q_t5 65 rfl rfl
abbrev nx_setSpeed : List String := ["java/lang/IndexOutOfBoundsException", "java/lang/IllegalArgumentException", "java/lang/IllegalStateException"]
abbrev nc_setSpeed : List (String × Int32) := [("java/lang/IndexOutOfBoundsException", -900001), ("java/lang/IllegalArgumentException", -900002), ("java/lang/IllegalStateException", -900003)]
def W_setSpeed (g0 : Int32) (g1 : Int32) (g2 : Int32) (σ : q_M) : Int32 × q_M := match (F_X8_setSpeed g0 g1 g2 σ) with | (.inl v, τ) => (v, τ) | (.inr E, τ) => (q_code nc_setSpeed E, τ)
def tb_L_setSpeed : List q_E := [(0, .aload_n 0, 1, 0, 0), (1, .iload_n 1, 1, 0, 0), (2, .iload_n 2, 1, 0, 0), (3, .iload_n 3, 1, 0, 0), (4, .invokevirtual 18, 3, 0, 0), (7, .ireturn, 1, 0, 0), (8, .astore 4, 2, 0, 0), (10, .ldc 17, 2, 0, 0), (12, .ireturn, 1, 0, 0), (13, .astore 4, 2, 0, 0), (15, .ldc 26, 2, 0, 0), (17, .ireturn, 1, 0, 0), (18, .astore 4, 2, 0, 0), (20, .ldc 27, 2, 0, 0), (22, .ireturn, 1, 0, 0)]
theorem tk_L_setSpeed : q_tb cL_setSpeed 5 tb_L_setSpeed = true := by decide +kernel
abbrev hh_L_setSpeed : List (Nat × Nat × Nat × Nat) := [(0, 7, 8, 22), (0, 7, 13, 24), (0, 7, 18, 15)]
def Q_setSpeed (g0 : Int32) (g1 : Int32) (g2 : Int32) (σ : q_M) : Prop := P_X8_setSpeed g0 g1 g2 σ ∧ (∀ E, (F_X8_setSpeed g0 g1 g2 σ).1 = .inr E → E ∈ nx_setSpeed)
set_option maxRecDepth 100000 in
theorem kw_setSpeed {α β : Nat → Nat} {D : va_G} {κ : Nat → ClassId} (g0 : Int32) (g1 : Int32) (g2 : Int32) (σ : q_M) (hQ : Q_setSpeed g0 g1 g2 σ) : q_CW α β D κ yL_setSpeed cL_setSpeed 5 (some .int) hh_L_setSpeed 8 135 2 12 [.ref 220, .int g0, .int g1, .int g2] σ (some (.int (W_setSpeed g0 g1 g2 σ).1)) (W_setSpeed g0 g1 g2 σ).2 := by
  have hP := hQ.1
  have hE := hQ.2
  have hk := k_X8_setSpeed (α := α) (β := β) (D := D) (κ := κ) g0 g1 g2 σ hP
  rcases hx : (F_X8_setSpeed g0 g1 g2 σ) with ⟨v | E, τ⟩
  · have hw : W_setSpeed g0 g1 g2 σ = (v, τ) := by unfold W_setSpeed; rw [hx]
    rw [hw]
    rw [hx] at hk
    refine q_enterW (own := RL) (F := fun _ => none) (G := fun _ => none) (by decide +kernel) rfl Fok_L Gok_L (Nat.le_of_ble_eq_true rfl) (fun p l e s m args below meth c A hfl C hr hT => ?_)
    refine q_go C tk_L_setSpeed [(0, 4)] [] (pc1 := 4) (σ1 := σ) (lv1 := [(0, .ref 220), (1, .int g0), (2, .int g1), (3, .int g2)]) (st1 := [.int g2, .int g1, .int g0, .ref 220]) rfl trivial ?_
    refine q_callV (v := some (.int v)) C hfl mw_X8_setSpeed mi_X8_setSpeed me_X8_setSpeed lk_L_18 hk (rest := []) rfl rfl rfl (by decide) (by decide) rfl (q_dc (z := (4, .invokevirtual 18, 3, 0, 0)) tk_L_setSpeed 4 rfl) (Nat.le_of_ble_eq_true rfl) ⟨(Nat.le_of_ble_eq_true rfl), (Nat.le_of_ble_eq_true rfl)⟩ ⟨(Nat.le_of_ble_eq_true rfl), (Nat.le_of_ble_eq_true rfl)⟩ ?_
    refine q_nrm 7 [.int v] 2 12 rfl rfl rfl rfl ?_
    exact q_iret C hr (q_dc (z := (7, .ireturn, 1, 0, 0)) tk_L_setSpeed 5 rfl) rfl rfl (Nat.le_of_ble_eq_true rfl) (Nat.le_of_ble_eq_true rfl)
  · have hw : W_setSpeed g0 g1 g2 σ = (q_code nc_setSpeed E, τ) := by unfold W_setSpeed; rw [hx]
    have hE9 := hE E (by rw [hx])
    rw [hw]
    rw [hx] at hk
    by_cases e0 : E = "java/lang/IndexOutOfBoundsException"
    · subst e0
      have hq : q_code nc_setSpeed "java/lang/IndexOutOfBoundsException" = (-900001) := by decide +kernel
      rw [hq]
      refine q_enterW (own := RL) (F := fun _ => none) (G := fun _ => none) (by decide +kernel) rfl Fok_L Gok_L (Nat.le_of_ble_eq_true rfl) (fun p l e s m args below meth c A hfl C hr hT => ?_)
      refine q_go C tk_L_setSpeed [(0, 4)] [] (pc1 := 4) (σ1 := σ) (lv1 := [(0, .ref 220), (1, .int g0), (2, .int g1), (3, .int g2)]) (st1 := [.int g2, .int g1, .int g0, .ref 220]) rfl trivial ?_
      refine q_callVx C hfl mw_X8_setSpeed mi_X8_setSpeed me_X8_setSpeed lk_L_18 hk (rest := []) rfl rfl rfl (by decide) (by decide) rfl (q_dc (z := (4, .invokevirtual 18, 3, 0, 0)) tk_L_setSpeed 4 rfl) (Nat.le_of_ble_eq_true rfl) ⟨(Nat.le_of_ble_eq_true rfl), (Nat.le_of_ble_eq_true rfl)⟩ ⟨(Nat.le_of_ble_eq_true rfl), (Nat.le_of_ble_eq_true rfl)⟩ ?_
      refine q_catch C [] ⟨0, 7, 8, 22⟩ [⟨0, 7, 13, 24⟩, ⟨0, 7, 18, 15⟩] (hT.trans rfl) (by decide +kernel) (fun z hz => by cases hz) (by decide) (by decide) cl_L_22 (by decide +kernel) (i := 4) (len := 2) (q_dc (z := (8, .astore 4, 2, 0, 0)) tk_L_setSpeed 6 rfl) (Or.inr ⟨rfl, rfl⟩) (by decide) ?_
      refine q_ldc C ck_L_17 (q_dc (z := (10, .ldc 17, 2, 0, 0)) tk_L_setSpeed 7 rfl) ?_
      exact q_iret C hr (q_dc (z := (12, .ireturn, 1, 0, 0)) tk_L_setSpeed 8 rfl) rfl rfl (Nat.le_of_ble_eq_true rfl) (Nat.le_of_ble_eq_true rfl)
    by_cases e1 : E = "java/lang/IllegalArgumentException"
    · subst e1
      have hq : q_code nc_setSpeed "java/lang/IllegalArgumentException" = (-900002) := by decide +kernel
      rw [hq]
      refine q_enterW (own := RL) (F := fun _ => none) (G := fun _ => none) (by decide +kernel) rfl Fok_L Gok_L (Nat.le_of_ble_eq_true rfl) (fun p l e s m args below meth c A hfl C hr hT => ?_)
      refine q_go C tk_L_setSpeed [(0, 4)] [] (pc1 := 4) (σ1 := σ) (lv1 := [(0, .ref 220), (1, .int g0), (2, .int g1), (3, .int g2)]) (st1 := [.int g2, .int g1, .int g0, .ref 220]) rfl trivial ?_
      refine q_callVx C hfl mw_X8_setSpeed mi_X8_setSpeed me_X8_setSpeed lk_L_18 hk (rest := []) rfl rfl rfl (by decide) (by decide) rfl (q_dc (z := (4, .invokevirtual 18, 3, 0, 0)) tk_L_setSpeed 4 rfl) (Nat.le_of_ble_eq_true rfl) ⟨(Nat.le_of_ble_eq_true rfl), (Nat.le_of_ble_eq_true rfl)⟩ ⟨(Nat.le_of_ble_eq_true rfl), (Nat.le_of_ble_eq_true rfl)⟩ ?_
      refine q_catch C [⟨0, 7, 8, 22⟩] ⟨0, 7, 13, 24⟩ [⟨0, 7, 18, 15⟩] (hT.trans rfl) (by decide +kernel) (fun z hz => by simp only [List.mem_cons, List.not_mem_nil, or_false] at hz; rcases hz with rfl <;> first | exact ⟨by decide, _, (by decide +kernel : "java/lang/IndexOutOfBoundsException" ∈ q_XS), (by decide +kernel), cl_L_22⟩) (by decide) (by decide) cl_L_24 (by decide +kernel) (i := 4) (len := 2) (q_dc (z := (13, .astore 4, 2, 0, 0)) tk_L_setSpeed 9 rfl) (Or.inr ⟨rfl, rfl⟩) (by decide) ?_
      refine q_ldc C ck_L_26 (q_dc (z := (15, .ldc 26, 2, 0, 0)) tk_L_setSpeed 10 rfl) ?_
      exact q_iret C hr (q_dc (z := (17, .ireturn, 1, 0, 0)) tk_L_setSpeed 11 rfl) rfl rfl (Nat.le_of_ble_eq_true rfl) (Nat.le_of_ble_eq_true rfl)
    by_cases e2 : E = "java/lang/IllegalStateException"
    · subst e2
      have hq : q_code nc_setSpeed "java/lang/IllegalStateException" = (-900003) := by decide +kernel
      rw [hq]
      refine q_enterW (own := RL) (F := fun _ => none) (G := fun _ => none) (by decide +kernel) rfl Fok_L Gok_L (Nat.le_of_ble_eq_true rfl) (fun p l e s m args below meth c A hfl C hr hT => ?_)
      refine q_go C tk_L_setSpeed [(0, 4)] [] (pc1 := 4) (σ1 := σ) (lv1 := [(0, .ref 220), (1, .int g0), (2, .int g1), (3, .int g2)]) (st1 := [.int g2, .int g1, .int g0, .ref 220]) rfl trivial ?_
      refine q_callVx C hfl mw_X8_setSpeed mi_X8_setSpeed me_X8_setSpeed lk_L_18 hk (rest := []) rfl rfl rfl (by decide) (by decide) rfl (q_dc (z := (4, .invokevirtual 18, 3, 0, 0)) tk_L_setSpeed 4 rfl) (Nat.le_of_ble_eq_true rfl) ⟨(Nat.le_of_ble_eq_true rfl), (Nat.le_of_ble_eq_true rfl)⟩ ⟨(Nat.le_of_ble_eq_true rfl), (Nat.le_of_ble_eq_true rfl)⟩ ?_
      refine q_catch C [⟨0, 7, 8, 22⟩, ⟨0, 7, 13, 24⟩] ⟨0, 7, 18, 15⟩ [] (hT.trans rfl) (by decide +kernel) (fun z hz => by simp only [List.mem_cons, List.not_mem_nil, or_false] at hz; rcases hz with rfl | rfl <;> first | exact ⟨by decide, _, (by decide +kernel : "java/lang/IndexOutOfBoundsException" ∈ q_XS), (by decide +kernel), cl_L_22⟩ | exact ⟨by decide, _, (by decide +kernel : "java/lang/IllegalArgumentException" ∈ q_XS), (by decide +kernel), cl_L_24⟩) (by decide) (by decide) cl_L_15 (by decide +kernel) (i := 4) (len := 2) (q_dc (z := (18, .astore 4, 2, 0, 0)) tk_L_setSpeed 12 rfl) (Or.inr ⟨rfl, rfl⟩) (by decide) ?_
      refine q_ldc C ck_L_27 (q_dc (z := (20, .ldc 27, 2, 0, 0)) tk_L_setSpeed 13 rfl) ?_
      exact q_iret C hr (q_dc (z := (22, .ireturn, 1, 0, 0)) tk_L_setSpeed 14 rfl) rfl rfl (Nat.le_of_ble_eq_true rfl) (Nat.le_of_ble_eq_true rfl)
    simp only [nx_setSpeed, List.mem_cons, List.not_mem_nil, or_false] at hE9
    rcases hE9 with h | h | h
    · exact absurd h e0
    · exact absurd h e1
    · exact absurd h e2
set_option maxRecDepth 100000 in
theorem cw_setSpeed : Cond.codeWith yL_setSpeed cL_setSpeed 5 (some .int) hh_L_setSpeed ∈ q_W := q_t5 81 rfl rfl
set_option maxRecDepth 100000 in
theorem sw_setSpeed : Cond.static yL_setSpeed ∈ q_W := q_t5 80 rfl rfl
abbrev nx_setLength : List String := ["java/lang/IllegalArgumentException", "java/lang/IllegalStateException"]
abbrev nc_setLength : List (String × Int32) := [("java/lang/IllegalArgumentException", -900001), ("java/lang/IllegalStateException", -900002)]
def W_setLength (g0 : Int32) (σ : q_M) : Int32 × q_M := match (F_X8_setLength g0 σ) with | (.inl v, τ) => (v, τ) | (.inr E, τ) => (q_code nc_setLength E, τ)
def tb_L_setLength : List q_E := [(0, .aload_n 0, 1, 0, 0), (1, .iload_n 1, 1, 0, 0), (2, .invokevirtual 28, 3, 0, 0), (5, .ireturn, 1, 0, 0), (6, .astore_n 2, 1, 0, 0), (7, .ldc 17, 2, 0, 0), (9, .ireturn, 1, 0, 0), (10, .astore_n 2, 1, 0, 0), (11, .ldc 26, 2, 0, 0), (13, .ireturn, 1, 0, 0)]
theorem tk_L_setLength : q_tb cL_setLength 3 tb_L_setLength = true := by decide +kernel
abbrev hh_L_setLength : List (Nat × Nat × Nat × Nat) := [(0, 5, 6, 24), (0, 5, 10, 15)]
def Q_setLength (g0 : Int32) (σ : q_M) : Prop := P_X8_setLength g0 σ ∧ (∀ E, (F_X8_setLength g0 σ).1 = .inr E → E ∈ nx_setLength)
set_option maxRecDepth 100000 in
theorem kw_setLength {α β : Nat → Nat} {D : va_G} {κ : Nat → ClassId} (g0 : Int32) (σ : q_M) (hQ : Q_setLength g0 σ) : q_CW α β D κ yL_setLength cL_setLength 3 (some .int) hh_L_setLength 8 132 1 6 [.ref 220, .int g0] σ (some (.int (W_setLength g0 σ).1)) (W_setLength g0 σ).2 := by
  have hP := hQ.1
  have hE := hQ.2
  have hk := k_X8_setLength (α := α) (β := β) (D := D) (κ := κ) g0 σ hP
  rcases hx : (F_X8_setLength g0 σ) with ⟨v | E, τ⟩
  · have hw : W_setLength g0 σ = (v, τ) := by unfold W_setLength; rw [hx]
    rw [hw]
    rw [hx] at hk
    refine q_enterW (own := RL) (F := fun _ => none) (G := fun _ => none) (by decide +kernel) rfl Fok_L Gok_L (Nat.le_of_ble_eq_true rfl) (fun p l e s m args below meth c A hfl C hr hT => ?_)
    refine q_go C tk_L_setLength [(0, 2)] [] (pc1 := 2) (σ1 := σ) (lv1 := [(0, .ref 220), (1, .int g0)]) (st1 := [.int g0, .ref 220]) rfl trivial ?_
    refine q_callV (v := some (.int v)) C hfl mw_X8_setLength mi_X8_setLength me_X8_setLength lk_L_28 hk (rest := []) rfl rfl rfl (by decide) (by decide) rfl (q_dc (z := (2, .invokevirtual 28, 3, 0, 0)) tk_L_setLength 2 rfl) (Nat.le_of_ble_eq_true rfl) ⟨(Nat.le_of_ble_eq_true rfl), (Nat.le_of_ble_eq_true rfl)⟩ ⟨(Nat.le_of_ble_eq_true rfl), (Nat.le_of_ble_eq_true rfl)⟩ ?_
    refine q_nrm 5 [.int v] 1 6 rfl rfl rfl rfl ?_
    exact q_iret C hr (q_dc (z := (5, .ireturn, 1, 0, 0)) tk_L_setLength 3 rfl) rfl rfl (Nat.le_of_ble_eq_true rfl) (Nat.le_of_ble_eq_true rfl)
  · have hw : W_setLength g0 σ = (q_code nc_setLength E, τ) := by unfold W_setLength; rw [hx]
    have hE9 := hE E (by rw [hx])
    rw [hw]
    rw [hx] at hk
    by_cases e0 : E = "java/lang/IllegalArgumentException"
    · subst e0
      have hq : q_code nc_setLength "java/lang/IllegalArgumentException" = (-900001) := by decide +kernel
      rw [hq]
      refine q_enterW (own := RL) (F := fun _ => none) (G := fun _ => none) (by decide +kernel) rfl Fok_L Gok_L (Nat.le_of_ble_eq_true rfl) (fun p l e s m args below meth c A hfl C hr hT => ?_)
      refine q_go C tk_L_setLength [(0, 2)] [] (pc1 := 2) (σ1 := σ) (lv1 := [(0, .ref 220), (1, .int g0)]) (st1 := [.int g0, .ref 220]) rfl trivial ?_
      refine q_callVx C hfl mw_X8_setLength mi_X8_setLength me_X8_setLength lk_L_28 hk (rest := []) rfl rfl rfl (by decide) (by decide) rfl (q_dc (z := (2, .invokevirtual 28, 3, 0, 0)) tk_L_setLength 2 rfl) (Nat.le_of_ble_eq_true rfl) ⟨(Nat.le_of_ble_eq_true rfl), (Nat.le_of_ble_eq_true rfl)⟩ ⟨(Nat.le_of_ble_eq_true rfl), (Nat.le_of_ble_eq_true rfl)⟩ ?_
      refine q_catch C [] ⟨0, 5, 6, 24⟩ [⟨0, 5, 10, 15⟩] (hT.trans rfl) (by decide +kernel) (fun z hz => by cases hz) (by decide) (by decide) cl_L_24 (by decide +kernel) (i := 2) (len := 1) (q_dc (z := (6, .astore_n 2, 1, 0, 0)) tk_L_setLength 4 rfl) (Or.inl ⟨2, rfl, rfl, rfl⟩) (by decide) ?_
      refine q_ldc C ck_L_17 (q_dc (z := (7, .ldc 17, 2, 0, 0)) tk_L_setLength 5 rfl) ?_
      exact q_iret C hr (q_dc (z := (9, .ireturn, 1, 0, 0)) tk_L_setLength 6 rfl) rfl rfl (Nat.le_of_ble_eq_true rfl) (Nat.le_of_ble_eq_true rfl)
    by_cases e1 : E = "java/lang/IllegalStateException"
    · subst e1
      have hq : q_code nc_setLength "java/lang/IllegalStateException" = (-900002) := by decide +kernel
      rw [hq]
      refine q_enterW (own := RL) (F := fun _ => none) (G := fun _ => none) (by decide +kernel) rfl Fok_L Gok_L (Nat.le_of_ble_eq_true rfl) (fun p l e s m args below meth c A hfl C hr hT => ?_)
      refine q_go C tk_L_setLength [(0, 2)] [] (pc1 := 2) (σ1 := σ) (lv1 := [(0, .ref 220), (1, .int g0)]) (st1 := [.int g0, .ref 220]) rfl trivial ?_
      refine q_callVx C hfl mw_X8_setLength mi_X8_setLength me_X8_setLength lk_L_28 hk (rest := []) rfl rfl rfl (by decide) (by decide) rfl (q_dc (z := (2, .invokevirtual 28, 3, 0, 0)) tk_L_setLength 2 rfl) (Nat.le_of_ble_eq_true rfl) ⟨(Nat.le_of_ble_eq_true rfl), (Nat.le_of_ble_eq_true rfl)⟩ ⟨(Nat.le_of_ble_eq_true rfl), (Nat.le_of_ble_eq_true rfl)⟩ ?_
      refine q_catch C [⟨0, 5, 6, 24⟩] ⟨0, 5, 10, 15⟩ [] (hT.trans rfl) (by decide +kernel) (fun z hz => by simp only [List.mem_cons, List.not_mem_nil, or_false] at hz; rcases hz with rfl <;> first | exact ⟨by decide, _, (by decide +kernel : "java/lang/IllegalArgumentException" ∈ q_XS), (by decide +kernel), cl_L_24⟩) (by decide) (by decide) cl_L_15 (by decide +kernel) (i := 2) (len := 1) (q_dc (z := (10, .astore_n 2, 1, 0, 0)) tk_L_setLength 7 rfl) (Or.inl ⟨2, rfl, rfl, rfl⟩) (by decide) ?_
      refine q_ldc C ck_L_26 (q_dc (z := (11, .ldc 26, 2, 0, 0)) tk_L_setLength 8 rfl) ?_
      exact q_iret C hr (q_dc (z := (13, .ireturn, 1, 0, 0)) tk_L_setLength 9 rfl) rfl rfl (Nat.le_of_ble_eq_true rfl) (Nat.le_of_ble_eq_true rfl)
    simp only [nx_setLength, List.mem_cons, List.not_mem_nil, or_false] at hE9
    rcases hE9 with h | h
    · exact absurd h e0
    · exact absurd h e1
set_option maxRecDepth 100000 in
theorem cw_setLength : Cond.codeWith yL_setLength cL_setLength 3 (some .int) hh_L_setLength ∈ q_W := q_t5 97 rfl rfl
set_option maxRecDepth 100000 in
theorem sw_setLength : Cond.static yL_setLength ∈ q_W := q_t5 96 rfl rfl
abbrev nx_drawLanes : List String := ["java/lang/IllegalArgumentException", "java/lang/IllegalStateException"]
abbrev nc_drawLanes : List (String × Int32) := [("java/lang/IllegalArgumentException", -900001), ("java/lang/IllegalStateException", -900002)]
def W_drawLanes (g0 : Int32) (σ : q_M) : Int32 × q_M := match (F_X8_drawLanes g0 σ) with | (.inl v, τ) => (v, τ) | (.inr E, τ) => (q_code nc_drawLanes E, τ)
def tb_L_drawLanes : List q_E := [(0, .aload_n 0, 1, 0, 0), (1, .iload_n 1, 1, 0, 0), (2, .invokevirtual 32, 3, 0, 0), (5, .ireturn, 1, 0, 0), (6, .astore_n 2, 1, 0, 0), (7, .ldc 17, 2, 0, 0), (9, .ireturn, 1, 0, 0), (10, .astore_n 2, 1, 0, 0), (11, .ldc 26, 2, 0, 0), (13, .ireturn, 1, 0, 0)]
theorem tk_L_drawLanes : q_tb cL_drawLanes 3 tb_L_drawLanes = true := by decide +kernel
abbrev hh_L_drawLanes : List (Nat × Nat × Nat × Nat) := [(0, 5, 6, 24), (0, 5, 10, 15)]
def Q_drawLanes (g0 : Int32) (σ : q_M) : Prop := P_X8_drawLanes g0 σ ∧ (∀ E, (F_X8_drawLanes g0 σ).1 = .inr E → E ∈ nx_drawLanes)
set_option maxRecDepth 100000 in
theorem kw_drawLanes {α β : Nat → Nat} {D : va_G} {κ : Nat → ClassId} (g0 : Int32) (σ : q_M) (hQ : Q_drawLanes g0 σ) : q_CW α β D κ yL_drawLanes cL_drawLanes 3 (some .int) hh_L_drawLanes 8 133 2 12 [.ref 220, .int g0] σ (some (.int (W_drawLanes g0 σ).1)) (W_drawLanes g0 σ).2 := by
  have hP := hQ.1
  have hE := hQ.2
  have hk := k_X8_drawLanes (α := α) (β := β) (D := D) (κ := κ) g0 σ hP
  rcases hx : (F_X8_drawLanes g0 σ) with ⟨v | E, τ⟩
  · have hw : W_drawLanes g0 σ = (v, τ) := by unfold W_drawLanes; rw [hx]
    rw [hw]
    rw [hx] at hk
    refine q_enterW (own := RL) (F := fun _ => none) (G := fun _ => none) (by decide +kernel) rfl Fok_L Gok_L (Nat.le_of_ble_eq_true rfl) (fun p l e s m args below meth c A hfl C hr hT => ?_)
    refine q_go C tk_L_drawLanes [(0, 2)] [] (pc1 := 2) (σ1 := σ) (lv1 := [(0, .ref 220), (1, .int g0)]) (st1 := [.int g0, .ref 220]) rfl trivial ?_
    refine q_callV (v := some (.int v)) C hfl mw_X8_drawLanes mi_X8_drawLanes me_X8_drawLanes lk_L_32 hk (rest := []) rfl rfl rfl (by decide) (by decide) rfl (q_dc (z := (2, .invokevirtual 32, 3, 0, 0)) tk_L_drawLanes 2 rfl) (Nat.le_of_ble_eq_true rfl) ⟨(Nat.le_of_ble_eq_true rfl), (Nat.le_of_ble_eq_true rfl)⟩ ⟨(Nat.le_of_ble_eq_true rfl), (Nat.le_of_ble_eq_true rfl)⟩ ?_
    refine q_nrm 5 [.int v] 2 12 rfl rfl rfl rfl ?_
    exact q_iret C hr (q_dc (z := (5, .ireturn, 1, 0, 0)) tk_L_drawLanes 3 rfl) rfl rfl (Nat.le_of_ble_eq_true rfl) (Nat.le_of_ble_eq_true rfl)
  · have hw : W_drawLanes g0 σ = (q_code nc_drawLanes E, τ) := by unfold W_drawLanes; rw [hx]
    have hE9 := hE E (by rw [hx])
    rw [hw]
    rw [hx] at hk
    by_cases e0 : E = "java/lang/IllegalArgumentException"
    · subst e0
      have hq : q_code nc_drawLanes "java/lang/IllegalArgumentException" = (-900001) := by decide +kernel
      rw [hq]
      refine q_enterW (own := RL) (F := fun _ => none) (G := fun _ => none) (by decide +kernel) rfl Fok_L Gok_L (Nat.le_of_ble_eq_true rfl) (fun p l e s m args below meth c A hfl C hr hT => ?_)
      refine q_go C tk_L_drawLanes [(0, 2)] [] (pc1 := 2) (σ1 := σ) (lv1 := [(0, .ref 220), (1, .int g0)]) (st1 := [.int g0, .ref 220]) rfl trivial ?_
      refine q_callVx C hfl mw_X8_drawLanes mi_X8_drawLanes me_X8_drawLanes lk_L_32 hk (rest := []) rfl rfl rfl (by decide) (by decide) rfl (q_dc (z := (2, .invokevirtual 32, 3, 0, 0)) tk_L_drawLanes 2 rfl) (Nat.le_of_ble_eq_true rfl) ⟨(Nat.le_of_ble_eq_true rfl), (Nat.le_of_ble_eq_true rfl)⟩ ⟨(Nat.le_of_ble_eq_true rfl), (Nat.le_of_ble_eq_true rfl)⟩ ?_
      refine q_catch C [] ⟨0, 5, 6, 24⟩ [⟨0, 5, 10, 15⟩] (hT.trans rfl) (by decide +kernel) (fun z hz => by cases hz) (by decide) (by decide) cl_L_24 (by decide +kernel) (i := 2) (len := 1) (q_dc (z := (6, .astore_n 2, 1, 0, 0)) tk_L_drawLanes 4 rfl) (Or.inl ⟨2, rfl, rfl, rfl⟩) (by decide) ?_
      refine q_ldc C ck_L_17 (q_dc (z := (7, .ldc 17, 2, 0, 0)) tk_L_drawLanes 5 rfl) ?_
      exact q_iret C hr (q_dc (z := (9, .ireturn, 1, 0, 0)) tk_L_drawLanes 6 rfl) rfl rfl (Nat.le_of_ble_eq_true rfl) (Nat.le_of_ble_eq_true rfl)
    by_cases e1 : E = "java/lang/IllegalStateException"
    · subst e1
      have hq : q_code nc_drawLanes "java/lang/IllegalStateException" = (-900002) := by decide +kernel
      rw [hq]
      refine q_enterW (own := RL) (F := fun _ => none) (G := fun _ => none) (by decide +kernel) rfl Fok_L Gok_L (Nat.le_of_ble_eq_true rfl) (fun p l e s m args below meth c A hfl C hr hT => ?_)
      refine q_go C tk_L_drawLanes [(0, 2)] [] (pc1 := 2) (σ1 := σ) (lv1 := [(0, .ref 220), (1, .int g0)]) (st1 := [.int g0, .ref 220]) rfl trivial ?_
      refine q_callVx C hfl mw_X8_drawLanes mi_X8_drawLanes me_X8_drawLanes lk_L_32 hk (rest := []) rfl rfl rfl (by decide) (by decide) rfl (q_dc (z := (2, .invokevirtual 32, 3, 0, 0)) tk_L_drawLanes 2 rfl) (Nat.le_of_ble_eq_true rfl) ⟨(Nat.le_of_ble_eq_true rfl), (Nat.le_of_ble_eq_true rfl)⟩ ⟨(Nat.le_of_ble_eq_true rfl), (Nat.le_of_ble_eq_true rfl)⟩ ?_
      refine q_catch C [⟨0, 5, 6, 24⟩] ⟨0, 5, 10, 15⟩ [] (hT.trans rfl) (by decide +kernel) (fun z hz => by simp only [List.mem_cons, List.not_mem_nil, or_false] at hz; rcases hz with rfl <;> first | exact ⟨by decide, _, (by decide +kernel : "java/lang/IllegalArgumentException" ∈ q_XS), (by decide +kernel), cl_L_24⟩) (by decide) (by decide) cl_L_15 (by decide +kernel) (i := 2) (len := 1) (q_dc (z := (10, .astore_n 2, 1, 0, 0)) tk_L_drawLanes 7 rfl) (Or.inl ⟨2, rfl, rfl, rfl⟩) (by decide) ?_
      refine q_ldc C ck_L_26 (q_dc (z := (11, .ldc 26, 2, 0, 0)) tk_L_drawLanes 8 rfl) ?_
      exact q_iret C hr (q_dc (z := (13, .ireturn, 1, 0, 0)) tk_L_drawLanes 9 rfl) rfl rfl (Nat.le_of_ble_eq_true rfl) (Nat.le_of_ble_eq_true rfl)
    simp only [nx_drawLanes, List.mem_cons, List.not_mem_nil, or_false] at hE9
    rcases hE9 with h | h
    · exact absurd h e0
    · exact absurd h e1
set_option maxRecDepth 100000 in
theorem cw_drawLanes : Cond.codeWith yL_drawLanes cL_drawLanes 3 (some .int) hh_L_drawLanes ∈ q_W := q_t5 108 rfl rfl
set_option maxRecDepth 100000 in
theorem sw_drawLanes : Cond.static yL_drawLanes ∈ q_W := q_t5 107 rfl rfl
abbrev nx_start : List String := ["java/lang/IllegalStateException"]
abbrev nc_start : List (String × Int32) := [("java/lang/IllegalStateException", -900001)]
def W_start (σ : q_M) : Int32 × q_M := match (F_X8_start σ) with | (.inl v, τ) => (v, τ) | (.inr E, τ) => (q_code nc_start E, τ)
def tb_L_start : List q_E := [(0, .aload_n 0, 1, 0, 0), (1, .invokevirtual 35, 3, 0, 0), (4, .ireturn, 1, 0, 0), (5, .astore_n 1, 1, 0, 0), (6, .ldc 17, 2, 0, 0), (8, .ireturn, 1, 0, 0)]
theorem tk_L_start : q_tb cL_start 2 tb_L_start = true := by decide +kernel
abbrev hh_L_start : List (Nat × Nat × Nat × Nat) := [(0, 4, 5, 15)]
def Q_start (σ : q_M) : Prop := P_X8_start σ ∧ (∀ E, (F_X8_start σ).1 = .inr E → E ∈ nx_start)
set_option maxRecDepth 100000 in
theorem kw_start {α β : Nat → Nat} {D : va_G} {κ : Nat → ClassId} (σ : q_M) (hQ : Q_start σ) : q_CW α β D κ yL_start cL_start 2 (some .int) hh_L_start 8 130 1 6 [.ref 220] σ (some (.int (W_start σ).1)) (W_start σ).2 := by
  have hP := hQ.1
  have hE := hQ.2
  have hk := k_X8_start (α := α) (β := β) (D := D) (κ := κ) σ hP
  rcases hx : (F_X8_start σ) with ⟨v | E, τ⟩
  · have hw : W_start σ = (v, τ) := by unfold W_start; rw [hx]
    rw [hw]
    rw [hx] at hk
    refine q_enterW (own := RL) (F := fun _ => none) (G := fun _ => none) (by decide +kernel) rfl Fok_L Gok_L (Nat.le_of_ble_eq_true rfl) (fun p l e s m args below meth c A hfl C hr hT => ?_)
    refine q_go C tk_L_start [(0, 1)] [] (pc1 := 1) (σ1 := σ) (lv1 := [(0, .ref 220)]) (st1 := [.ref 220]) rfl trivial ?_
    refine q_callV (v := some (.int v)) C hfl mw_X8_start mi_X8_start me_X8_start lk_L_35 hk (rest := []) rfl rfl rfl (by decide) (by decide) rfl (q_dc (z := (1, .invokevirtual 35, 3, 0, 0)) tk_L_start 1 rfl) (Nat.le_of_ble_eq_true rfl) ⟨(Nat.le_of_ble_eq_true rfl), (Nat.le_of_ble_eq_true rfl)⟩ ⟨(Nat.le_of_ble_eq_true rfl), (Nat.le_of_ble_eq_true rfl)⟩ ?_
    refine q_nrm 4 [.int v] 1 6 rfl rfl rfl rfl ?_
    exact q_iret C hr (q_dc (z := (4, .ireturn, 1, 0, 0)) tk_L_start 2 rfl) rfl rfl (Nat.le_of_ble_eq_true rfl) (Nat.le_of_ble_eq_true rfl)
  · have hw : W_start σ = (q_code nc_start E, τ) := by unfold W_start; rw [hx]
    have hE9 := hE E (by rw [hx])
    rw [hw]
    rw [hx] at hk
    by_cases e0 : E = "java/lang/IllegalStateException"
    · subst e0
      have hq : q_code nc_start "java/lang/IllegalStateException" = (-900001) := by decide +kernel
      rw [hq]
      refine q_enterW (own := RL) (F := fun _ => none) (G := fun _ => none) (by decide +kernel) rfl Fok_L Gok_L (Nat.le_of_ble_eq_true rfl) (fun p l e s m args below meth c A hfl C hr hT => ?_)
      refine q_go C tk_L_start [(0, 1)] [] (pc1 := 1) (σ1 := σ) (lv1 := [(0, .ref 220)]) (st1 := [.ref 220]) rfl trivial ?_
      refine q_callVx C hfl mw_X8_start mi_X8_start me_X8_start lk_L_35 hk (rest := []) rfl rfl rfl (by decide) (by decide) rfl (q_dc (z := (1, .invokevirtual 35, 3, 0, 0)) tk_L_start 1 rfl) (Nat.le_of_ble_eq_true rfl) ⟨(Nat.le_of_ble_eq_true rfl), (Nat.le_of_ble_eq_true rfl)⟩ ⟨(Nat.le_of_ble_eq_true rfl), (Nat.le_of_ble_eq_true rfl)⟩ ?_
      refine q_catch C [] ⟨0, 4, 5, 15⟩ [] (hT.trans rfl) (by decide +kernel) (fun z hz => by cases hz) (by decide) (by decide) cl_L_15 (by decide +kernel) (i := 1) (len := 1) (q_dc (z := (5, .astore_n 1, 1, 0, 0)) tk_L_start 3 rfl) (Or.inl ⟨1, rfl, rfl, rfl⟩) (by decide) ?_
      refine q_ldc C ck_L_17 (q_dc (z := (6, .ldc 17, 2, 0, 0)) tk_L_start 4 rfl) ?_
      exact q_iret C hr (q_dc (z := (8, .ireturn, 1, 0, 0)) tk_L_start 5 rfl) rfl rfl (Nat.le_of_ble_eq_true rfl) (Nat.le_of_ble_eq_true rfl)
    simp only [nx_start, List.mem_cons, List.not_mem_nil, or_false] at hE9
    exact absurd hE9 e0
set_option maxRecDepth 100000 in
theorem cw_start : Cond.codeWith yL_start cL_start 2 (some .int) hh_L_start ∈ q_W := q_t3 20 rfl rfl
set_option maxRecDepth 100000 in
theorem sw_start : Cond.static yL_start ∈ q_W := q_t3 19 rfl rfl
abbrev nx_run : List String := ["java/lang/IllegalArgumentException", "java/lang/IllegalStateException"]
abbrev nc_run : List (String × Int32) := [("java/lang/IllegalArgumentException", -900001), ("java/lang/IllegalStateException", -900002)]
def W_run (g0 : Int32) (σ : q_M) : Int32 × q_M := match (F_X8_run g0 σ) with | (.inl v, τ) => (v, τ) | (.inr E, τ) => (q_code nc_run E, τ)
def tb_L_run : List q_E := [(0, .aload_n 0, 1, 0, 0), (1, .iload_n 1, 1, 0, 0), (2, .invokevirtual 38, 3, 0, 0), (5, .ireturn, 1, 0, 0), (6, .astore_n 2, 1, 0, 0), (7, .ldc 17, 2, 0, 0), (9, .ireturn, 1, 0, 0), (10, .astore_n 2, 1, 0, 0), (11, .ldc 26, 2, 0, 0), (13, .ireturn, 1, 0, 0)]
theorem tk_L_run : q_tb cL_run 3 tb_L_run = true := by decide +kernel
abbrev hh_L_run : List (Nat × Nat × Nat × Nat) := [(0, 5, 6, 24), (0, 5, 10, 15)]
def Q_run (g0 : Int32) (σ : q_M) : Prop := P_X8_run g0 σ ∧ (∀ E, (F_X8_run g0 σ).1 = .inr E → E ∈ nx_run)
set_option maxRecDepth 100000 in
theorem kw_run {α β : Nat → Nat} {D : va_G} {κ : Nat → ClassId} (g0 : Int32) (σ : q_M) (hQ : Q_run g0 σ) : q_CW α β D κ yL_run cL_run 3 (some .int) hh_L_run 9 174 1 6 [.ref 220, .int g0] σ (some (.int (W_run g0 σ).1)) (W_run g0 σ).2 := by
  have hP := hQ.1
  have hE := hQ.2
  have hk := k_X8_run (α := α) (β := β) (D := D) (κ := κ) g0 σ hP
  rcases hx : (F_X8_run g0 σ) with ⟨v | E, τ⟩
  · have hw : W_run g0 σ = (v, τ) := by unfold W_run; rw [hx]
    rw [hw]
    rw [hx] at hk
    refine q_enterW (own := RL) (F := fun _ => none) (G := fun _ => none) (by decide +kernel) rfl Fok_L Gok_L (Nat.le_of_ble_eq_true rfl) (fun p l e s m args below meth c A hfl C hr hT => ?_)
    refine q_go C tk_L_run [(0, 2)] [] (pc1 := 2) (σ1 := σ) (lv1 := [(0, .ref 220), (1, .int g0)]) (st1 := [.int g0, .ref 220]) rfl trivial ?_
    refine q_callV (v := some (.int v)) C hfl mw_X8_run mi_X8_run me_X8_run lk_L_38 hk (rest := []) rfl rfl rfl (by decide) (by decide) rfl (q_dc (z := (2, .invokevirtual 38, 3, 0, 0)) tk_L_run 2 rfl) (Nat.le_of_ble_eq_true rfl) ⟨(Nat.le_of_ble_eq_true rfl), (Nat.le_of_ble_eq_true rfl)⟩ ⟨(Nat.le_of_ble_eq_true rfl), (Nat.le_of_ble_eq_true rfl)⟩ ?_
    refine q_nrm 5 [.int v] 1 6 rfl rfl rfl rfl ?_
    exact q_iret C hr (q_dc (z := (5, .ireturn, 1, 0, 0)) tk_L_run 3 rfl) rfl rfl (Nat.le_of_ble_eq_true rfl) (Nat.le_of_ble_eq_true rfl)
  · have hw : W_run g0 σ = (q_code nc_run E, τ) := by unfold W_run; rw [hx]
    have hE9 := hE E (by rw [hx])
    rw [hw]
    rw [hx] at hk
    by_cases e0 : E = "java/lang/IllegalArgumentException"
    · subst e0
      have hq : q_code nc_run "java/lang/IllegalArgumentException" = (-900001) := by decide +kernel
      rw [hq]
      refine q_enterW (own := RL) (F := fun _ => none) (G := fun _ => none) (by decide +kernel) rfl Fok_L Gok_L (Nat.le_of_ble_eq_true rfl) (fun p l e s m args below meth c A hfl C hr hT => ?_)
      refine q_go C tk_L_run [(0, 2)] [] (pc1 := 2) (σ1 := σ) (lv1 := [(0, .ref 220), (1, .int g0)]) (st1 := [.int g0, .ref 220]) rfl trivial ?_
      refine q_callVx C hfl mw_X8_run mi_X8_run me_X8_run lk_L_38 hk (rest := []) rfl rfl rfl (by decide) (by decide) rfl (q_dc (z := (2, .invokevirtual 38, 3, 0, 0)) tk_L_run 2 rfl) (Nat.le_of_ble_eq_true rfl) ⟨(Nat.le_of_ble_eq_true rfl), (Nat.le_of_ble_eq_true rfl)⟩ ⟨(Nat.le_of_ble_eq_true rfl), (Nat.le_of_ble_eq_true rfl)⟩ ?_
      refine q_catch C [] ⟨0, 5, 6, 24⟩ [⟨0, 5, 10, 15⟩] (hT.trans rfl) (by decide +kernel) (fun z hz => by cases hz) (by decide) (by decide) cl_L_24 (by decide +kernel) (i := 2) (len := 1) (q_dc (z := (6, .astore_n 2, 1, 0, 0)) tk_L_run 4 rfl) (Or.inl ⟨2, rfl, rfl, rfl⟩) (by decide) ?_
      refine q_ldc C ck_L_17 (q_dc (z := (7, .ldc 17, 2, 0, 0)) tk_L_run 5 rfl) ?_
      exact q_iret C hr (q_dc (z := (9, .ireturn, 1, 0, 0)) tk_L_run 6 rfl) rfl rfl (Nat.le_of_ble_eq_true rfl) (Nat.le_of_ble_eq_true rfl)
    by_cases e1 : E = "java/lang/IllegalStateException"
    · subst e1
      have hq : q_code nc_run "java/lang/IllegalStateException" = (-900002) := by decide +kernel
      rw [hq]
      refine q_enterW (own := RL) (F := fun _ => none) (G := fun _ => none) (by decide +kernel) rfl Fok_L Gok_L (Nat.le_of_ble_eq_true rfl) (fun p l e s m args below meth c A hfl C hr hT => ?_)
      refine q_go C tk_L_run [(0, 2)] [] (pc1 := 2) (σ1 := σ) (lv1 := [(0, .ref 220), (1, .int g0)]) (st1 := [.int g0, .ref 220]) rfl trivial ?_
      refine q_callVx C hfl mw_X8_run mi_X8_run me_X8_run lk_L_38 hk (rest := []) rfl rfl rfl (by decide) (by decide) rfl (q_dc (z := (2, .invokevirtual 38, 3, 0, 0)) tk_L_run 2 rfl) (Nat.le_of_ble_eq_true rfl) ⟨(Nat.le_of_ble_eq_true rfl), (Nat.le_of_ble_eq_true rfl)⟩ ⟨(Nat.le_of_ble_eq_true rfl), (Nat.le_of_ble_eq_true rfl)⟩ ?_
      refine q_catch C [⟨0, 5, 6, 24⟩] ⟨0, 5, 10, 15⟩ [] (hT.trans rfl) (by decide +kernel) (fun z hz => by simp only [List.mem_cons, List.not_mem_nil, or_false] at hz; rcases hz with rfl <;> first | exact ⟨by decide, _, (by decide +kernel : "java/lang/IllegalArgumentException" ∈ q_XS), (by decide +kernel), cl_L_24⟩) (by decide) (by decide) cl_L_15 (by decide +kernel) (i := 2) (len := 1) (q_dc (z := (10, .astore_n 2, 1, 0, 0)) tk_L_run 7 rfl) (Or.inl ⟨2, rfl, rfl, rfl⟩) (by decide) ?_
      refine q_ldc C ck_L_26 (q_dc (z := (11, .ldc 26, 2, 0, 0)) tk_L_run 8 rfl) ?_
      exact q_iret C hr (q_dc (z := (13, .ireturn, 1, 0, 0)) tk_L_run 9 rfl) rfl rfl (Nat.le_of_ble_eq_true rfl) (Nat.le_of_ble_eq_true rfl)
    simp only [nx_run, List.mem_cons, List.not_mem_nil, or_false] at hE9
    rcases hE9 with h | h
    · exact absurd h e0
    · exact absurd h e1
set_option maxRecDepth 100000 in
theorem cw_run : Cond.codeWith yL_run cL_run 3 (some .int) hh_L_run ∈ q_W := q_t3 106 rfl rfl
set_option maxRecDepth 100000 in
theorem sw_run : Cond.static yL_run ∈ q_W := q_t3 105 rfl rfl
abbrev nx_pass : List String := ["java/lang/IndexOutOfBoundsException", "java/lang/IllegalStateException", "java/lang/UnsupportedOperationException"]
abbrev nc_pass : List (String × Int32) := [("java/lang/IndexOutOfBoundsException", -900001), ("java/lang/IllegalStateException", -900002), ("java/lang/UnsupportedOperationException", -900003)]
def W_pass (g0 : Int32) (σ : q_M) : Int32 × q_M := match (F_X8_pass g0 σ) with | (.inl v, τ) => (v, τ) | (.inr E, τ) => (q_code nc_pass E, τ)
def tb_L_pass : List q_E := [(0, .aload_n 0, 1, 0, 0), (1, .iload_n 1, 1, 0, 0), (2, .invokevirtual 41, 3, 0, 0), (5, .ireturn, 1, 0, 0), (6, .astore_n 2, 1, 0, 0), (7, .ldc 17, 2, 0, 0), (9, .ireturn, 1, 0, 0), (10, .astore_n 2, 1, 0, 0), (11, .ldc 26, 2, 0, 0), (13, .ireturn, 1, 0, 0), (14, .astore_n 2, 1, 0, 0), (15, .ldc 27, 2, 0, 0), (17, .ireturn, 1, 0, 0)]
theorem tk_L_pass : q_tb cL_pass 3 tb_L_pass = true := by decide +kernel
abbrev hh_L_pass : List (Nat × Nat × Nat × Nat) := [(0, 5, 6, 22), (0, 5, 10, 15), (0, 5, 14, 44)]
def Q_pass (g0 : Int32) (σ : q_M) : Prop := P_X8_pass g0 σ ∧ (∀ E, (F_X8_pass g0 σ).1 = .inr E → E ∈ nx_pass)
set_option maxRecDepth 100000 in
theorem kw_pass {α β : Nat → Nat} {D : va_G} {κ : Nat → ClassId} (g0 : Int32) (σ : q_M) (hQ : Q_pass g0 σ) : q_CW α β D κ yL_pass cL_pass 3 (some .int) hh_L_pass 8 133 2 12 [.ref 220, .int g0] σ (some (.int (W_pass g0 σ).1)) (W_pass g0 σ).2 := by
  have hP := hQ.1
  have hE := hQ.2
  have hk := k_X8_pass (α := α) (β := β) (D := D) (κ := κ) g0 σ hP
  rcases hx : (F_X8_pass g0 σ) with ⟨v | E, τ⟩
  · have hw : W_pass g0 σ = (v, τ) := by unfold W_pass; rw [hx]
    rw [hw]
    rw [hx] at hk
    refine q_enterW (own := RL) (F := fun _ => none) (G := fun _ => none) (by decide +kernel) rfl Fok_L Gok_L (Nat.le_of_ble_eq_true rfl) (fun p l e s m args below meth c A hfl C hr hT => ?_)
    refine q_go C tk_L_pass [(0, 2)] [] (pc1 := 2) (σ1 := σ) (lv1 := [(0, .ref 220), (1, .int g0)]) (st1 := [.int g0, .ref 220]) rfl trivial ?_
    refine q_callV (v := some (.int v)) C hfl mw_X8_pass mi_X8_pass me_X8_pass lk_L_41 hk (rest := []) rfl rfl rfl (by decide) (by decide) rfl (q_dc (z := (2, .invokevirtual 41, 3, 0, 0)) tk_L_pass 2 rfl) (Nat.le_of_ble_eq_true rfl) ⟨(Nat.le_of_ble_eq_true rfl), (Nat.le_of_ble_eq_true rfl)⟩ ⟨(Nat.le_of_ble_eq_true rfl), (Nat.le_of_ble_eq_true rfl)⟩ ?_
    refine q_nrm 5 [.int v] 2 12 rfl rfl rfl rfl ?_
    exact q_iret C hr (q_dc (z := (5, .ireturn, 1, 0, 0)) tk_L_pass 3 rfl) rfl rfl (Nat.le_of_ble_eq_true rfl) (Nat.le_of_ble_eq_true rfl)
  · have hw : W_pass g0 σ = (q_code nc_pass E, τ) := by unfold W_pass; rw [hx]
    have hE9 := hE E (by rw [hx])
    rw [hw]
    rw [hx] at hk
    by_cases e0 : E = "java/lang/IndexOutOfBoundsException"
    · subst e0
      have hq : q_code nc_pass "java/lang/IndexOutOfBoundsException" = (-900001) := by decide +kernel
      rw [hq]
      refine q_enterW (own := RL) (F := fun _ => none) (G := fun _ => none) (by decide +kernel) rfl Fok_L Gok_L (Nat.le_of_ble_eq_true rfl) (fun p l e s m args below meth c A hfl C hr hT => ?_)
      refine q_go C tk_L_pass [(0, 2)] [] (pc1 := 2) (σ1 := σ) (lv1 := [(0, .ref 220), (1, .int g0)]) (st1 := [.int g0, .ref 220]) rfl trivial ?_
      refine q_callVx C hfl mw_X8_pass mi_X8_pass me_X8_pass lk_L_41 hk (rest := []) rfl rfl rfl (by decide) (by decide) rfl (q_dc (z := (2, .invokevirtual 41, 3, 0, 0)) tk_L_pass 2 rfl) (Nat.le_of_ble_eq_true rfl) ⟨(Nat.le_of_ble_eq_true rfl), (Nat.le_of_ble_eq_true rfl)⟩ ⟨(Nat.le_of_ble_eq_true rfl), (Nat.le_of_ble_eq_true rfl)⟩ ?_
      refine q_catch C [] ⟨0, 5, 6, 22⟩ [⟨0, 5, 10, 15⟩, ⟨0, 5, 14, 44⟩] (hT.trans rfl) (by decide +kernel) (fun z hz => by cases hz) (by decide) (by decide) cl_L_22 (by decide +kernel) (i := 2) (len := 1) (q_dc (z := (6, .astore_n 2, 1, 0, 0)) tk_L_pass 4 rfl) (Or.inl ⟨2, rfl, rfl, rfl⟩) (by decide) ?_
      refine q_ldc C ck_L_17 (q_dc (z := (7, .ldc 17, 2, 0, 0)) tk_L_pass 5 rfl) ?_
      exact q_iret C hr (q_dc (z := (9, .ireturn, 1, 0, 0)) tk_L_pass 6 rfl) rfl rfl (Nat.le_of_ble_eq_true rfl) (Nat.le_of_ble_eq_true rfl)
    by_cases e1 : E = "java/lang/IllegalStateException"
    · subst e1
      have hq : q_code nc_pass "java/lang/IllegalStateException" = (-900002) := by decide +kernel
      rw [hq]
      refine q_enterW (own := RL) (F := fun _ => none) (G := fun _ => none) (by decide +kernel) rfl Fok_L Gok_L (Nat.le_of_ble_eq_true rfl) (fun p l e s m args below meth c A hfl C hr hT => ?_)
      refine q_go C tk_L_pass [(0, 2)] [] (pc1 := 2) (σ1 := σ) (lv1 := [(0, .ref 220), (1, .int g0)]) (st1 := [.int g0, .ref 220]) rfl trivial ?_
      refine q_callVx C hfl mw_X8_pass mi_X8_pass me_X8_pass lk_L_41 hk (rest := []) rfl rfl rfl (by decide) (by decide) rfl (q_dc (z := (2, .invokevirtual 41, 3, 0, 0)) tk_L_pass 2 rfl) (Nat.le_of_ble_eq_true rfl) ⟨(Nat.le_of_ble_eq_true rfl), (Nat.le_of_ble_eq_true rfl)⟩ ⟨(Nat.le_of_ble_eq_true rfl), (Nat.le_of_ble_eq_true rfl)⟩ ?_
      refine q_catch C [⟨0, 5, 6, 22⟩] ⟨0, 5, 10, 15⟩ [⟨0, 5, 14, 44⟩] (hT.trans rfl) (by decide +kernel) (fun z hz => by simp only [List.mem_cons, List.not_mem_nil, or_false] at hz; rcases hz with rfl <;> first | exact ⟨by decide, _, (by decide +kernel : "java/lang/IndexOutOfBoundsException" ∈ q_XS), (by decide +kernel), cl_L_22⟩) (by decide) (by decide) cl_L_15 (by decide +kernel) (i := 2) (len := 1) (q_dc (z := (10, .astore_n 2, 1, 0, 0)) tk_L_pass 7 rfl) (Or.inl ⟨2, rfl, rfl, rfl⟩) (by decide) ?_
      refine q_ldc C ck_L_26 (q_dc (z := (11, .ldc 26, 2, 0, 0)) tk_L_pass 8 rfl) ?_
      exact q_iret C hr (q_dc (z := (13, .ireturn, 1, 0, 0)) tk_L_pass 9 rfl) rfl rfl (Nat.le_of_ble_eq_true rfl) (Nat.le_of_ble_eq_true rfl)
    by_cases e2 : E = "java/lang/UnsupportedOperationException"
    · subst e2
      have hq : q_code nc_pass "java/lang/UnsupportedOperationException" = (-900003) := by decide +kernel
      rw [hq]
      refine q_enterW (own := RL) (F := fun _ => none) (G := fun _ => none) (by decide +kernel) rfl Fok_L Gok_L (Nat.le_of_ble_eq_true rfl) (fun p l e s m args below meth c A hfl C hr hT => ?_)
      refine q_go C tk_L_pass [(0, 2)] [] (pc1 := 2) (σ1 := σ) (lv1 := [(0, .ref 220), (1, .int g0)]) (st1 := [.int g0, .ref 220]) rfl trivial ?_
      refine q_callVx C hfl mw_X8_pass mi_X8_pass me_X8_pass lk_L_41 hk (rest := []) rfl rfl rfl (by decide) (by decide) rfl (q_dc (z := (2, .invokevirtual 41, 3, 0, 0)) tk_L_pass 2 rfl) (Nat.le_of_ble_eq_true rfl) ⟨(Nat.le_of_ble_eq_true rfl), (Nat.le_of_ble_eq_true rfl)⟩ ⟨(Nat.le_of_ble_eq_true rfl), (Nat.le_of_ble_eq_true rfl)⟩ ?_
      refine q_catch C [⟨0, 5, 6, 22⟩, ⟨0, 5, 10, 15⟩] ⟨0, 5, 14, 44⟩ [] (hT.trans rfl) (by decide +kernel) (fun z hz => by simp only [List.mem_cons, List.not_mem_nil, or_false] at hz; rcases hz with rfl | rfl <;> first | exact ⟨by decide, _, (by decide +kernel : "java/lang/IndexOutOfBoundsException" ∈ q_XS), (by decide +kernel), cl_L_22⟩ | exact ⟨by decide, _, (by decide +kernel : "java/lang/IllegalStateException" ∈ q_XS), (by decide +kernel), cl_L_15⟩) (by decide) (by decide) cl_L_44 (by decide +kernel) (i := 2) (len := 1) (q_dc (z := (14, .astore_n 2, 1, 0, 0)) tk_L_pass 10 rfl) (Or.inl ⟨2, rfl, rfl, rfl⟩) (by decide) ?_
      refine q_ldc C ck_L_27 (q_dc (z := (15, .ldc 27, 2, 0, 0)) tk_L_pass 11 rfl) ?_
      exact q_iret C hr (q_dc (z := (17, .ireturn, 1, 0, 0)) tk_L_pass 12 rfl) rfl rfl (Nat.le_of_ble_eq_true rfl) (Nat.le_of_ble_eq_true rfl)
    simp only [nx_pass, List.mem_cons, List.not_mem_nil, or_false] at hE9
    rcases hE9 with h | h | h
    · exact absurd h e0
    · exact absurd h e1
    · exact absurd h e2
set_option maxRecDepth 100000 in
theorem cw_pass : Cond.codeWith yL_pass cL_pass 3 (some .int) hh_L_pass ∈ q_W := q_t3 151 rfl rfl
set_option maxRecDepth 100000 in
theorem sw_pass : Cond.static yL_pass ∈ q_W := q_t3 150 rfl rfl
abbrev nx_drop : List String := ["java/lang/IndexOutOfBoundsException", "java/lang/IllegalArgumentException", "java/lang/IllegalStateException"]
abbrev nc_drop : List (String × Int32) := [("java/lang/IndexOutOfBoundsException", -900001), ("java/lang/IllegalArgumentException", -900002), ("java/lang/IllegalStateException", -900003)]
def W_drop (g0 : Int32) (g1 : Int32) (σ : q_M) : Int32 × q_M := match (F_X8_drop g0 g1 σ) with | (.inl v, τ) => (v, τ) | (.inr E, τ) => (q_code nc_drop E, τ)
def tb_L_drop : List q_E := [(0, .aload_n 0, 1, 0, 0), (1, .iload_n 1, 1, 0, 0), (2, .iload_n 2, 1, 0, 0), (3, .invokevirtual 46, 3, 0, 0), (6, .ireturn, 1, 0, 0), (7, .astore_n 3, 1, 0, 0), (8, .ldc 17, 2, 0, 0), (10, .ireturn, 1, 0, 0), (11, .astore_n 3, 1, 0, 0), (12, .ldc 26, 2, 0, 0), (14, .ireturn, 1, 0, 0), (15, .astore_n 3, 1, 0, 0), (16, .ldc 27, 2, 0, 0), (18, .ireturn, 1, 0, 0)]
theorem tk_L_drop : q_tb cL_drop 4 tb_L_drop = true := by decide +kernel
abbrev hh_L_drop : List (Nat × Nat × Nat × Nat) := [(0, 6, 7, 22), (0, 6, 11, 24), (0, 6, 15, 15)]
def Q_drop (g0 : Int32) (g1 : Int32) (σ : q_M) : Prop := P_X8_drop g0 g1 σ ∧ (∀ E, (F_X8_drop g0 g1 σ).1 = .inr E → E ∈ nx_drop)
set_option maxRecDepth 100000 in
theorem kw_drop {α β : Nat → Nat} {D : va_G} {κ : Nat → ClassId} (g0 : Int32) (g1 : Int32) (σ : q_M) (hQ : Q_drop g0 g1 σ) : q_CW α β D κ yL_drop cL_drop 4 (some .int) hh_L_drop 8 134 2 12 [.ref 220, .int g0, .int g1] σ (some (.int (W_drop g0 g1 σ).1)) (W_drop g0 g1 σ).2 := by
  have hP := hQ.1
  have hE := hQ.2
  have hk := k_X8_drop (α := α) (β := β) (D := D) (κ := κ) g0 g1 σ hP
  rcases hx : (F_X8_drop g0 g1 σ) with ⟨v | E, τ⟩
  · have hw : W_drop g0 g1 σ = (v, τ) := by unfold W_drop; rw [hx]
    rw [hw]
    rw [hx] at hk
    refine q_enterW (own := RL) (F := fun _ => none) (G := fun _ => none) (by decide +kernel) rfl Fok_L Gok_L (Nat.le_of_ble_eq_true rfl) (fun p l e s m args below meth c A hfl C hr hT => ?_)
    refine q_go C tk_L_drop [(0, 3)] [] (pc1 := 3) (σ1 := σ) (lv1 := [(0, .ref 220), (1, .int g0), (2, .int g1)]) (st1 := [.int g1, .int g0, .ref 220]) rfl trivial ?_
    refine q_callV (v := some (.int v)) C hfl mw_X8_drop mi_X8_drop me_X8_drop lk_L_46 hk (rest := []) rfl rfl rfl (by decide) (by decide) rfl (q_dc (z := (3, .invokevirtual 46, 3, 0, 0)) tk_L_drop 3 rfl) (Nat.le_of_ble_eq_true rfl) ⟨(Nat.le_of_ble_eq_true rfl), (Nat.le_of_ble_eq_true rfl)⟩ ⟨(Nat.le_of_ble_eq_true rfl), (Nat.le_of_ble_eq_true rfl)⟩ ?_
    refine q_nrm 6 [.int v] 2 12 rfl rfl rfl rfl ?_
    exact q_iret C hr (q_dc (z := (6, .ireturn, 1, 0, 0)) tk_L_drop 4 rfl) rfl rfl (Nat.le_of_ble_eq_true rfl) (Nat.le_of_ble_eq_true rfl)
  · have hw : W_drop g0 g1 σ = (q_code nc_drop E, τ) := by unfold W_drop; rw [hx]
    have hE9 := hE E (by rw [hx])
    rw [hw]
    rw [hx] at hk
    by_cases e0 : E = "java/lang/IndexOutOfBoundsException"
    · subst e0
      have hq : q_code nc_drop "java/lang/IndexOutOfBoundsException" = (-900001) := by decide +kernel
      rw [hq]
      refine q_enterW (own := RL) (F := fun _ => none) (G := fun _ => none) (by decide +kernel) rfl Fok_L Gok_L (Nat.le_of_ble_eq_true rfl) (fun p l e s m args below meth c A hfl C hr hT => ?_)
      refine q_go C tk_L_drop [(0, 3)] [] (pc1 := 3) (σ1 := σ) (lv1 := [(0, .ref 220), (1, .int g0), (2, .int g1)]) (st1 := [.int g1, .int g0, .ref 220]) rfl trivial ?_
      refine q_callVx C hfl mw_X8_drop mi_X8_drop me_X8_drop lk_L_46 hk (rest := []) rfl rfl rfl (by decide) (by decide) rfl (q_dc (z := (3, .invokevirtual 46, 3, 0, 0)) tk_L_drop 3 rfl) (Nat.le_of_ble_eq_true rfl) ⟨(Nat.le_of_ble_eq_true rfl), (Nat.le_of_ble_eq_true rfl)⟩ ⟨(Nat.le_of_ble_eq_true rfl), (Nat.le_of_ble_eq_true rfl)⟩ ?_
      refine q_catch C [] ⟨0, 6, 7, 22⟩ [⟨0, 6, 11, 24⟩, ⟨0, 6, 15, 15⟩] (hT.trans rfl) (by decide +kernel) (fun z hz => by cases hz) (by decide) (by decide) cl_L_22 (by decide +kernel) (i := 3) (len := 1) (q_dc (z := (7, .astore_n 3, 1, 0, 0)) tk_L_drop 5 rfl) (Or.inl ⟨3, rfl, rfl, rfl⟩) (by decide) ?_
      refine q_ldc C ck_L_17 (q_dc (z := (8, .ldc 17, 2, 0, 0)) tk_L_drop 6 rfl) ?_
      exact q_iret C hr (q_dc (z := (10, .ireturn, 1, 0, 0)) tk_L_drop 7 rfl) rfl rfl (Nat.le_of_ble_eq_true rfl) (Nat.le_of_ble_eq_true rfl)
    by_cases e1 : E = "java/lang/IllegalArgumentException"
    · subst e1
      have hq : q_code nc_drop "java/lang/IllegalArgumentException" = (-900002) := by decide +kernel
      rw [hq]
      refine q_enterW (own := RL) (F := fun _ => none) (G := fun _ => none) (by decide +kernel) rfl Fok_L Gok_L (Nat.le_of_ble_eq_true rfl) (fun p l e s m args below meth c A hfl C hr hT => ?_)
      refine q_go C tk_L_drop [(0, 3)] [] (pc1 := 3) (σ1 := σ) (lv1 := [(0, .ref 220), (1, .int g0), (2, .int g1)]) (st1 := [.int g1, .int g0, .ref 220]) rfl trivial ?_
      refine q_callVx C hfl mw_X8_drop mi_X8_drop me_X8_drop lk_L_46 hk (rest := []) rfl rfl rfl (by decide) (by decide) rfl (q_dc (z := (3, .invokevirtual 46, 3, 0, 0)) tk_L_drop 3 rfl) (Nat.le_of_ble_eq_true rfl) ⟨(Nat.le_of_ble_eq_true rfl), (Nat.le_of_ble_eq_true rfl)⟩ ⟨(Nat.le_of_ble_eq_true rfl), (Nat.le_of_ble_eq_true rfl)⟩ ?_
      refine q_catch C [⟨0, 6, 7, 22⟩] ⟨0, 6, 11, 24⟩ [⟨0, 6, 15, 15⟩] (hT.trans rfl) (by decide +kernel) (fun z hz => by simp only [List.mem_cons, List.not_mem_nil, or_false] at hz; rcases hz with rfl <;> first | exact ⟨by decide, _, (by decide +kernel : "java/lang/IndexOutOfBoundsException" ∈ q_XS), (by decide +kernel), cl_L_22⟩) (by decide) (by decide) cl_L_24 (by decide +kernel) (i := 3) (len := 1) (q_dc (z := (11, .astore_n 3, 1, 0, 0)) tk_L_drop 8 rfl) (Or.inl ⟨3, rfl, rfl, rfl⟩) (by decide) ?_
      refine q_ldc C ck_L_26 (q_dc (z := (12, .ldc 26, 2, 0, 0)) tk_L_drop 9 rfl) ?_
      exact q_iret C hr (q_dc (z := (14, .ireturn, 1, 0, 0)) tk_L_drop 10 rfl) rfl rfl (Nat.le_of_ble_eq_true rfl) (Nat.le_of_ble_eq_true rfl)
    by_cases e2 : E = "java/lang/IllegalStateException"
    · subst e2
      have hq : q_code nc_drop "java/lang/IllegalStateException" = (-900003) := by decide +kernel
      rw [hq]
      refine q_enterW (own := RL) (F := fun _ => none) (G := fun _ => none) (by decide +kernel) rfl Fok_L Gok_L (Nat.le_of_ble_eq_true rfl) (fun p l e s m args below meth c A hfl C hr hT => ?_)
      refine q_go C tk_L_drop [(0, 3)] [] (pc1 := 3) (σ1 := σ) (lv1 := [(0, .ref 220), (1, .int g0), (2, .int g1)]) (st1 := [.int g1, .int g0, .ref 220]) rfl trivial ?_
      refine q_callVx C hfl mw_X8_drop mi_X8_drop me_X8_drop lk_L_46 hk (rest := []) rfl rfl rfl (by decide) (by decide) rfl (q_dc (z := (3, .invokevirtual 46, 3, 0, 0)) tk_L_drop 3 rfl) (Nat.le_of_ble_eq_true rfl) ⟨(Nat.le_of_ble_eq_true rfl), (Nat.le_of_ble_eq_true rfl)⟩ ⟨(Nat.le_of_ble_eq_true rfl), (Nat.le_of_ble_eq_true rfl)⟩ ?_
      refine q_catch C [⟨0, 6, 7, 22⟩, ⟨0, 6, 11, 24⟩] ⟨0, 6, 15, 15⟩ [] (hT.trans rfl) (by decide +kernel) (fun z hz => by simp only [List.mem_cons, List.not_mem_nil, or_false] at hz; rcases hz with rfl | rfl <;> first | exact ⟨by decide, _, (by decide +kernel : "java/lang/IndexOutOfBoundsException" ∈ q_XS), (by decide +kernel), cl_L_22⟩ | exact ⟨by decide, _, (by decide +kernel : "java/lang/IllegalArgumentException" ∈ q_XS), (by decide +kernel), cl_L_24⟩) (by decide) (by decide) cl_L_15 (by decide +kernel) (i := 3) (len := 1) (q_dc (z := (15, .astore_n 3, 1, 0, 0)) tk_L_drop 11 rfl) (Or.inl ⟨3, rfl, rfl, rfl⟩) (by decide) ?_
      refine q_ldc C ck_L_27 (q_dc (z := (16, .ldc 27, 2, 0, 0)) tk_L_drop 12 rfl) ?_
      exact q_iret C hr (q_dc (z := (18, .ireturn, 1, 0, 0)) tk_L_drop 13 rfl) rfl rfl (Nat.le_of_ble_eq_true rfl) (Nat.le_of_ble_eq_true rfl)
    simp only [nx_drop, List.mem_cons, List.not_mem_nil, or_false] at hE9
    rcases hE9 with h | h | h
    · exact absurd h e0
    · exact absurd h e1
    · exact absurd h e2
set_option maxRecDepth 100000 in
theorem cw_drop : Cond.codeWith yL_drop cL_drop 4 (some .int) hh_L_drop ∈ q_W := q_t3 178 rfl rfl
set_option maxRecDepth 100000 in
theorem sw_drop : Cond.static yL_drop ∈ q_W := q_t3 177 rfl rfl
abbrev nx_withdraw : List String := ["java/lang/IndexOutOfBoundsException", "java/lang/IllegalStateException"]
abbrev nc_withdraw : List (String × Int32) := [("java/lang/IndexOutOfBoundsException", -900001), ("java/lang/IllegalStateException", -900002)]
def W_withdraw (g0 : Int32) (σ : q_M) : Int32 × q_M := match (F_X8_withdraw g0 σ) with | (.inl v, τ) => (v, τ) | (.inr E, τ) => (q_code nc_withdraw E, τ)
def tb_L_withdraw : List q_E := [(0, .aload_n 0, 1, 0, 0), (1, .iload_n 1, 1, 0, 0), (2, .invokevirtual 50, 3, 0, 0), (5, .ireturn, 1, 0, 0), (6, .astore_n 2, 1, 0, 0), (7, .ldc 17, 2, 0, 0), (9, .ireturn, 1, 0, 0), (10, .astore_n 2, 1, 0, 0), (11, .ldc 26, 2, 0, 0), (13, .ireturn, 1, 0, 0)]
theorem tk_L_withdraw : q_tb cL_withdraw 3 tb_L_withdraw = true := by decide +kernel
abbrev hh_L_withdraw : List (Nat × Nat × Nat × Nat) := [(0, 5, 6, 22), (0, 5, 10, 15)]
def Q_withdraw (g0 : Int32) (σ : q_M) : Prop := P_X8_withdraw g0 σ ∧ (∀ E, (F_X8_withdraw g0 σ).1 = .inr E → E ∈ nx_withdraw)
set_option maxRecDepth 100000 in
theorem kw_withdraw {α β : Nat → Nat} {D : va_G} {κ : Nat → ClassId} (g0 : Int32) (σ : q_M) (hQ : Q_withdraw g0 σ) : q_CW α β D κ yL_withdraw cL_withdraw 3 (some .int) hh_L_withdraw 8 133 2 12 [.ref 220, .int g0] σ (some (.int (W_withdraw g0 σ).1)) (W_withdraw g0 σ).2 := by
  have hP := hQ.1
  have hE := hQ.2
  have hk := k_X8_withdraw (α := α) (β := β) (D := D) (κ := κ) g0 σ hP
  rcases hx : (F_X8_withdraw g0 σ) with ⟨v | E, τ⟩
  · have hw : W_withdraw g0 σ = (v, τ) := by unfold W_withdraw; rw [hx]
    rw [hw]
    rw [hx] at hk
    refine q_enterW (own := RL) (F := fun _ => none) (G := fun _ => none) (by decide +kernel) rfl Fok_L Gok_L (Nat.le_of_ble_eq_true rfl) (fun p l e s m args below meth c A hfl C hr hT => ?_)
    refine q_go C tk_L_withdraw [(0, 2)] [] (pc1 := 2) (σ1 := σ) (lv1 := [(0, .ref 220), (1, .int g0)]) (st1 := [.int g0, .ref 220]) rfl trivial ?_
    refine q_callV (v := some (.int v)) C hfl mw_X8_withdraw mi_X8_withdraw me_X8_withdraw lk_L_50 hk (rest := []) rfl rfl rfl (by decide) (by decide) rfl (q_dc (z := (2, .invokevirtual 50, 3, 0, 0)) tk_L_withdraw 2 rfl) (Nat.le_of_ble_eq_true rfl) ⟨(Nat.le_of_ble_eq_true rfl), (Nat.le_of_ble_eq_true rfl)⟩ ⟨(Nat.le_of_ble_eq_true rfl), (Nat.le_of_ble_eq_true rfl)⟩ ?_
    refine q_nrm 5 [.int v] 2 12 rfl rfl rfl rfl ?_
    exact q_iret C hr (q_dc (z := (5, .ireturn, 1, 0, 0)) tk_L_withdraw 3 rfl) rfl rfl (Nat.le_of_ble_eq_true rfl) (Nat.le_of_ble_eq_true rfl)
  · have hw : W_withdraw g0 σ = (q_code nc_withdraw E, τ) := by unfold W_withdraw; rw [hx]
    have hE9 := hE E (by rw [hx])
    rw [hw]
    rw [hx] at hk
    by_cases e0 : E = "java/lang/IndexOutOfBoundsException"
    · subst e0
      have hq : q_code nc_withdraw "java/lang/IndexOutOfBoundsException" = (-900001) := by decide +kernel
      rw [hq]
      refine q_enterW (own := RL) (F := fun _ => none) (G := fun _ => none) (by decide +kernel) rfl Fok_L Gok_L (Nat.le_of_ble_eq_true rfl) (fun p l e s m args below meth c A hfl C hr hT => ?_)
      refine q_go C tk_L_withdraw [(0, 2)] [] (pc1 := 2) (σ1 := σ) (lv1 := [(0, .ref 220), (1, .int g0)]) (st1 := [.int g0, .ref 220]) rfl trivial ?_
      refine q_callVx C hfl mw_X8_withdraw mi_X8_withdraw me_X8_withdraw lk_L_50 hk (rest := []) rfl rfl rfl (by decide) (by decide) rfl (q_dc (z := (2, .invokevirtual 50, 3, 0, 0)) tk_L_withdraw 2 rfl) (Nat.le_of_ble_eq_true rfl) ⟨(Nat.le_of_ble_eq_true rfl), (Nat.le_of_ble_eq_true rfl)⟩ ⟨(Nat.le_of_ble_eq_true rfl), (Nat.le_of_ble_eq_true rfl)⟩ ?_
      refine q_catch C [] ⟨0, 5, 6, 22⟩ [⟨0, 5, 10, 15⟩] (hT.trans rfl) (by decide +kernel) (fun z hz => by cases hz) (by decide) (by decide) cl_L_22 (by decide +kernel) (i := 2) (len := 1) (q_dc (z := (6, .astore_n 2, 1, 0, 0)) tk_L_withdraw 4 rfl) (Or.inl ⟨2, rfl, rfl, rfl⟩) (by decide) ?_
      refine q_ldc C ck_L_17 (q_dc (z := (7, .ldc 17, 2, 0, 0)) tk_L_withdraw 5 rfl) ?_
      exact q_iret C hr (q_dc (z := (9, .ireturn, 1, 0, 0)) tk_L_withdraw 6 rfl) rfl rfl (Nat.le_of_ble_eq_true rfl) (Nat.le_of_ble_eq_true rfl)
    by_cases e1 : E = "java/lang/IllegalStateException"
    · subst e1
      have hq : q_code nc_withdraw "java/lang/IllegalStateException" = (-900002) := by decide +kernel
      rw [hq]
      refine q_enterW (own := RL) (F := fun _ => none) (G := fun _ => none) (by decide +kernel) rfl Fok_L Gok_L (Nat.le_of_ble_eq_true rfl) (fun p l e s m args below meth c A hfl C hr hT => ?_)
      refine q_go C tk_L_withdraw [(0, 2)] [] (pc1 := 2) (σ1 := σ) (lv1 := [(0, .ref 220), (1, .int g0)]) (st1 := [.int g0, .ref 220]) rfl trivial ?_
      refine q_callVx C hfl mw_X8_withdraw mi_X8_withdraw me_X8_withdraw lk_L_50 hk (rest := []) rfl rfl rfl (by decide) (by decide) rfl (q_dc (z := (2, .invokevirtual 50, 3, 0, 0)) tk_L_withdraw 2 rfl) (Nat.le_of_ble_eq_true rfl) ⟨(Nat.le_of_ble_eq_true rfl), (Nat.le_of_ble_eq_true rfl)⟩ ⟨(Nat.le_of_ble_eq_true rfl), (Nat.le_of_ble_eq_true rfl)⟩ ?_
      refine q_catch C [⟨0, 5, 6, 22⟩] ⟨0, 5, 10, 15⟩ [] (hT.trans rfl) (by decide +kernel) (fun z hz => by simp only [List.mem_cons, List.not_mem_nil, or_false] at hz; rcases hz with rfl <;> first | exact ⟨by decide, _, (by decide +kernel : "java/lang/IndexOutOfBoundsException" ∈ q_XS), (by decide +kernel), cl_L_22⟩) (by decide) (by decide) cl_L_15 (by decide +kernel) (i := 2) (len := 1) (q_dc (z := (10, .astore_n 2, 1, 0, 0)) tk_L_withdraw 7 rfl) (Or.inl ⟨2, rfl, rfl, rfl⟩) (by decide) ?_
      refine q_ldc C ck_L_26 (q_dc (z := (11, .ldc 26, 2, 0, 0)) tk_L_withdraw 8 rfl) ?_
      exact q_iret C hr (q_dc (z := (13, .ireturn, 1, 0, 0)) tk_L_withdraw 9 rfl) rfl rfl (Nat.le_of_ble_eq_true rfl) (Nat.le_of_ble_eq_true rfl)
    simp only [nx_withdraw, List.mem_cons, List.not_mem_nil, or_false] at hE9
    rcases hE9 with h | h
    · exact absurd h e0
    · exact absurd h e1
set_option maxRecDepth 100000 in
theorem cw_withdraw : Cond.codeWith yL_withdraw cL_withdraw 3 (some .int) hh_L_withdraw ∈ q_W := q_t3 203 rfl rfl
set_option maxRecDepth 100000 in
theorem sw_withdraw : Cond.static yL_withdraw ∈ q_W := q_t3 202 rfl rfl
abbrev nx_teamInLane : List String := ["java/util/NoSuchElementException"]
abbrev nc_teamInLane : List (String × Int32) := [("java/util/NoSuchElementException", -900001)]
def W_teamInLane (g0 : Int32) (σ : q_M) : Int32 := match (F_X8_teamInLane g0 σ) with | .inl v => v | .inr E => q_code nc_teamInLane E
def tb_L_teamInLane : List q_E := [(0, .aload_n 0, 1, 0, 0), (1, .iload_n 1, 1, 0, 0), (2, .invokevirtual 53, 3, 0, 0), (5, .ireturn, 1, 0, 0), (6, .astore_n 2, 1, 0, 0), (7, .ldc 17, 2, 0, 0), (9, .ireturn, 1, 0, 0)]
theorem tk_L_teamInLane : q_tb cL_teamInLane 3 tb_L_teamInLane = true := by decide +kernel
abbrev hh_L_teamInLane : List (Nat × Nat × Nat × Nat) := [(0, 5, 6, 56)]
def Q_teamInLane (g0 : Int32) (σ : q_M) : Prop := P_X8_teamInLane g0 σ ∧ (∀ E, (F_X8_teamInLane g0 σ) = .inr E → E ∈ nx_teamInLane)
set_option maxRecDepth 100000 in
theorem kw_teamInLane {α β : Nat → Nat} {D : va_G} {κ : Nat → ClassId} (g0 : Int32) (σ : q_M) (hQ : Q_teamInLane g0 σ) : q_CW α β D κ yL_teamInLane cL_teamInLane 3 (some .int) hh_L_teamInLane 7 112 1 6 [.ref 220, .int g0] σ (some (.int (W_teamInLane g0 σ))) σ := by
  have hP := hQ.1
  have hE := hQ.2
  have hk := k_X8_teamInLane (α := α) (β := β) (D := D) (κ := κ) g0 σ hP
  rcases hx : (F_X8_teamInLane g0 σ) with v | E
  · have hw : W_teamInLane g0 σ = v := by unfold W_teamInLane; rw [hx]
    rw [hw]
    rw [hx] at hk
    refine q_enterW (own := RL) (F := fun _ => none) (G := fun _ => none) (by decide +kernel) rfl Fok_L Gok_L (Nat.le_of_ble_eq_true rfl) (fun p l e s m args below meth c A hfl C hr hT => ?_)
    refine q_go C tk_L_teamInLane [(0, 2)] [] (pc1 := 2) (σ1 := σ) (lv1 := [(0, .ref 220), (1, .int g0)]) (st1 := [.int g0, .ref 220]) rfl trivial ?_
    refine q_callV (v := some (.int v)) C hfl mw_X8_teamInLane mi_X8_teamInLane me_X8_teamInLane lk_L_53 hk (rest := []) rfl rfl rfl (by decide) (by decide) rfl (q_dc (z := (2, .invokevirtual 53, 3, 0, 0)) tk_L_teamInLane 2 rfl) (Nat.le_of_ble_eq_true rfl) ⟨(Nat.le_of_ble_eq_true rfl), (Nat.le_of_ble_eq_true rfl)⟩ ⟨(Nat.le_of_ble_eq_true rfl), (Nat.le_of_ble_eq_true rfl)⟩ ?_
    refine q_nrm 5 [.int v] 1 6 rfl rfl rfl rfl ?_
    exact q_iret C hr (q_dc (z := (5, .ireturn, 1, 0, 0)) tk_L_teamInLane 3 rfl) rfl rfl (Nat.le_of_ble_eq_true rfl) (Nat.le_of_ble_eq_true rfl)
  · have hw : W_teamInLane g0 σ = q_code nc_teamInLane E := by unfold W_teamInLane; rw [hx]
    have hE9 := hE E (by rw [hx])
    rw [hw]
    rw [hx] at hk
    by_cases e0 : E = "java/util/NoSuchElementException"
    · subst e0
      have hq : q_code nc_teamInLane "java/util/NoSuchElementException" = (-900001) := by decide +kernel
      rw [hq]
      refine q_enterW (own := RL) (F := fun _ => none) (G := fun _ => none) (by decide +kernel) rfl Fok_L Gok_L (Nat.le_of_ble_eq_true rfl) (fun p l e s m args below meth c A hfl C hr hT => ?_)
      refine q_go C tk_L_teamInLane [(0, 2)] [] (pc1 := 2) (σ1 := σ) (lv1 := [(0, .ref 220), (1, .int g0)]) (st1 := [.int g0, .ref 220]) rfl trivial ?_
      refine q_callVx C hfl mw_X8_teamInLane mi_X8_teamInLane me_X8_teamInLane lk_L_53 hk (rest := []) rfl rfl rfl (by decide) (by decide) rfl (q_dc (z := (2, .invokevirtual 53, 3, 0, 0)) tk_L_teamInLane 2 rfl) (Nat.le_of_ble_eq_true rfl) ⟨(Nat.le_of_ble_eq_true rfl), (Nat.le_of_ble_eq_true rfl)⟩ ⟨(Nat.le_of_ble_eq_true rfl), (Nat.le_of_ble_eq_true rfl)⟩ ?_
      refine q_catch C [] ⟨0, 5, 6, 56⟩ [] (hT.trans rfl) (by decide +kernel) (fun z hz => by cases hz) (by decide) (by decide) cl_L_56 (by decide +kernel) (i := 2) (len := 1) (q_dc (z := (6, .astore_n 2, 1, 0, 0)) tk_L_teamInLane 4 rfl) (Or.inl ⟨2, rfl, rfl, rfl⟩) (by decide) ?_
      refine q_ldc C ck_L_17 (q_dc (z := (7, .ldc 17, 2, 0, 0)) tk_L_teamInLane 5 rfl) ?_
      exact q_iret C hr (q_dc (z := (9, .ireturn, 1, 0, 0)) tk_L_teamInLane 6 rfl) rfl rfl (Nat.le_of_ble_eq_true rfl) (Nat.le_of_ble_eq_true rfl)
    simp only [nx_teamInLane, List.mem_cons, List.not_mem_nil, or_false] at hE9
    exact absurd hE9 e0
set_option maxRecDepth 100000 in
theorem cw_teamInLane : Cond.codeWith yL_teamInLane cL_teamInLane 3 (some .int) hh_L_teamInLane ∈ q_W := q_t6 120 rfl rfl
set_option maxRecDepth 100000 in
theorem sw_teamInLane : Cond.static yL_teamInLane ∈ q_W := q_t6 119 rfl rfl
abbrev nx_splitOf : List String := ["java/lang/IndexOutOfBoundsException", "java/util/NoSuchElementException"]
abbrev nc_splitOf : List (String × Int32) := [("java/lang/IndexOutOfBoundsException", -900001), ("java/util/NoSuchElementException", -900002)]
def W_splitOf (g0 : Int32) (g1 : Int32) (σ : q_M) : Int32 := match (F_X8_splitOf g0 g1 σ) with | .inl v => v | .inr E => q_code nc_splitOf E
def tb_L_splitOf : List q_E := [(0, .aload_n 0, 1, 0, 0), (1, .iload_n 1, 1, 0, 0), (2, .iload_n 2, 1, 0, 0), (3, .invokevirtual 58, 3, 0, 0), (6, .ireturn, 1, 0, 0), (7, .astore_n 3, 1, 0, 0), (8, .ldc 17, 2, 0, 0), (10, .ireturn, 1, 0, 0), (11, .astore_n 3, 1, 0, 0), (12, .ldc 26, 2, 0, 0), (14, .ireturn, 1, 0, 0)]
theorem tk_L_splitOf : q_tb cL_splitOf 4 tb_L_splitOf = true := by decide +kernel
abbrev hh_L_splitOf : List (Nat × Nat × Nat × Nat) := [(0, 6, 7, 22), (0, 6, 11, 56)]
def Q_splitOf (g0 : Int32) (g1 : Int32) (σ : q_M) : Prop := P_X8_splitOf g0 g1 σ ∧ (∀ E, (F_X8_splitOf g0 g1 σ) = .inr E → E ∈ nx_splitOf)
set_option maxRecDepth 100000 in
theorem kw_splitOf {α β : Nat → Nat} {D : va_G} {κ : Nat → ClassId} (g0 : Int32) (g1 : Int32) (σ : q_M) (hQ : Q_splitOf g0 g1 σ) : q_CW α β D κ yL_splitOf cL_splitOf 4 (some .int) hh_L_splitOf 9 158 3 18 [.ref 220, .int g0, .int g1] σ (some (.int (W_splitOf g0 g1 σ))) σ := by
  have hP := hQ.1
  have hE := hQ.2
  have hk := k_X8_splitOf (α := α) (β := β) (D := D) (κ := κ) g0 g1 σ hP
  rcases hx : (F_X8_splitOf g0 g1 σ) with v | E
  · have hw : W_splitOf g0 g1 σ = v := by unfold W_splitOf; rw [hx]
    rw [hw]
    rw [hx] at hk
    refine q_enterW (own := RL) (F := fun _ => none) (G := fun _ => none) (by decide +kernel) rfl Fok_L Gok_L (Nat.le_of_ble_eq_true rfl) (fun p l e s m args below meth c A hfl C hr hT => ?_)
    refine q_go C tk_L_splitOf [(0, 3)] [] (pc1 := 3) (σ1 := σ) (lv1 := [(0, .ref 220), (1, .int g0), (2, .int g1)]) (st1 := [.int g1, .int g0, .ref 220]) rfl trivial ?_
    refine q_callV (v := some (.int v)) C hfl mw_X8_splitOf mi_X8_splitOf me_X8_splitOf lk_L_58 hk (rest := []) rfl rfl rfl (by decide) (by decide) rfl (q_dc (z := (3, .invokevirtual 58, 3, 0, 0)) tk_L_splitOf 3 rfl) (Nat.le_of_ble_eq_true rfl) ⟨(Nat.le_of_ble_eq_true rfl), (Nat.le_of_ble_eq_true rfl)⟩ ⟨(Nat.le_of_ble_eq_true rfl), (Nat.le_of_ble_eq_true rfl)⟩ ?_
    refine q_nrm 6 [.int v] 3 18 rfl rfl rfl rfl ?_
    exact q_iret C hr (q_dc (z := (6, .ireturn, 1, 0, 0)) tk_L_splitOf 4 rfl) rfl rfl (Nat.le_of_ble_eq_true rfl) (Nat.le_of_ble_eq_true rfl)
  · have hw : W_splitOf g0 g1 σ = q_code nc_splitOf E := by unfold W_splitOf; rw [hx]
    have hE9 := hE E (by rw [hx])
    rw [hw]
    rw [hx] at hk
    by_cases e0 : E = "java/lang/IndexOutOfBoundsException"
    · subst e0
      have hq : q_code nc_splitOf "java/lang/IndexOutOfBoundsException" = (-900001) := by decide +kernel
      rw [hq]
      refine q_enterW (own := RL) (F := fun _ => none) (G := fun _ => none) (by decide +kernel) rfl Fok_L Gok_L (Nat.le_of_ble_eq_true rfl) (fun p l e s m args below meth c A hfl C hr hT => ?_)
      refine q_go C tk_L_splitOf [(0, 3)] [] (pc1 := 3) (σ1 := σ) (lv1 := [(0, .ref 220), (1, .int g0), (2, .int g1)]) (st1 := [.int g1, .int g0, .ref 220]) rfl trivial ?_
      refine q_callVx C hfl mw_X8_splitOf mi_X8_splitOf me_X8_splitOf lk_L_58 hk (rest := []) rfl rfl rfl (by decide) (by decide) rfl (q_dc (z := (3, .invokevirtual 58, 3, 0, 0)) tk_L_splitOf 3 rfl) (Nat.le_of_ble_eq_true rfl) ⟨(Nat.le_of_ble_eq_true rfl), (Nat.le_of_ble_eq_true rfl)⟩ ⟨(Nat.le_of_ble_eq_true rfl), (Nat.le_of_ble_eq_true rfl)⟩ ?_
      refine q_catch C [] ⟨0, 6, 7, 22⟩ [⟨0, 6, 11, 56⟩] (hT.trans rfl) (by decide +kernel) (fun z hz => by cases hz) (by decide) (by decide) cl_L_22 (by decide +kernel) (i := 3) (len := 1) (q_dc (z := (7, .astore_n 3, 1, 0, 0)) tk_L_splitOf 5 rfl) (Or.inl ⟨3, rfl, rfl, rfl⟩) (by decide) ?_
      refine q_ldc C ck_L_17 (q_dc (z := (8, .ldc 17, 2, 0, 0)) tk_L_splitOf 6 rfl) ?_
      exact q_iret C hr (q_dc (z := (10, .ireturn, 1, 0, 0)) tk_L_splitOf 7 rfl) rfl rfl (Nat.le_of_ble_eq_true rfl) (Nat.le_of_ble_eq_true rfl)
    by_cases e1 : E = "java/util/NoSuchElementException"
    · subst e1
      have hq : q_code nc_splitOf "java/util/NoSuchElementException" = (-900002) := by decide +kernel
      rw [hq]
      refine q_enterW (own := RL) (F := fun _ => none) (G := fun _ => none) (by decide +kernel) rfl Fok_L Gok_L (Nat.le_of_ble_eq_true rfl) (fun p l e s m args below meth c A hfl C hr hT => ?_)
      refine q_go C tk_L_splitOf [(0, 3)] [] (pc1 := 3) (σ1 := σ) (lv1 := [(0, .ref 220), (1, .int g0), (2, .int g1)]) (st1 := [.int g1, .int g0, .ref 220]) rfl trivial ?_
      refine q_callVx C hfl mw_X8_splitOf mi_X8_splitOf me_X8_splitOf lk_L_58 hk (rest := []) rfl rfl rfl (by decide) (by decide) rfl (q_dc (z := (3, .invokevirtual 58, 3, 0, 0)) tk_L_splitOf 3 rfl) (Nat.le_of_ble_eq_true rfl) ⟨(Nat.le_of_ble_eq_true rfl), (Nat.le_of_ble_eq_true rfl)⟩ ⟨(Nat.le_of_ble_eq_true rfl), (Nat.le_of_ble_eq_true rfl)⟩ ?_
      refine q_catch C [⟨0, 6, 7, 22⟩] ⟨0, 6, 11, 56⟩ [] (hT.trans rfl) (by decide +kernel) (fun z hz => by simp only [List.mem_cons, List.not_mem_nil, or_false] at hz; rcases hz with rfl <;> first | exact ⟨by decide, _, (by decide +kernel : "java/lang/IndexOutOfBoundsException" ∈ q_XS), (by decide +kernel), cl_L_22⟩) (by decide) (by decide) cl_L_56 (by decide +kernel) (i := 3) (len := 1) (q_dc (z := (11, .astore_n 3, 1, 0, 0)) tk_L_splitOf 8 rfl) (Or.inl ⟨3, rfl, rfl, rfl⟩) (by decide) ?_
      refine q_ldc C ck_L_26 (q_dc (z := (12, .ldc 26, 2, 0, 0)) tk_L_splitOf 9 rfl) ?_
      exact q_iret C hr (q_dc (z := (14, .ireturn, 1, 0, 0)) tk_L_splitOf 10 rfl) rfl rfl (Nat.le_of_ble_eq_true rfl) (Nat.le_of_ble_eq_true rfl)
    simp only [nx_splitOf, List.mem_cons, List.not_mem_nil, or_false] at hE9
    rcases hE9 with h | h
    · exact absurd h e0
    · exact absurd h e1
set_option maxRecDepth 100000 in
theorem cw_splitOf : Cond.codeWith yL_splitOf cL_splitOf 4 (some .int) hh_L_splitOf ∈ q_W := q_t3 215 rfl rfl
set_option maxRecDepth 100000 in
theorem sw_splitOf : Cond.static yL_splitOf ∈ q_W := q_t3 214 rfl rfl
abbrev nx_timeOf : List String := ["java/lang/IndexOutOfBoundsException", "java/util/NoSuchElementException"]
abbrev nc_timeOf : List (String × Int32) := [("java/lang/IndexOutOfBoundsException", -900001), ("java/util/NoSuchElementException", -900002)]
def W_timeOf (g0 : Int32) (σ : q_M) : Int32 := match (F_X8_timeOf g0 σ) with | .inl v => v | .inr E => q_code nc_timeOf E
def tb_L_timeOf : List q_E := [(0, .aload_n 0, 1, 0, 0), (1, .iload_n 1, 1, 0, 0), (2, .invokevirtual 61, 3, 0, 0), (5, .ireturn, 1, 0, 0), (6, .astore_n 2, 1, 0, 0), (7, .ldc 17, 2, 0, 0), (9, .ireturn, 1, 0, 0), (10, .astore_n 2, 1, 0, 0), (11, .ldc 26, 2, 0, 0), (13, .ireturn, 1, 0, 0)]
theorem tk_L_timeOf : q_tb cL_timeOf 3 tb_L_timeOf = true := by decide +kernel
abbrev hh_L_timeOf : List (Nat × Nat × Nat × Nat) := [(0, 5, 6, 22), (0, 5, 10, 56)]
def Q_timeOf (g0 : Int32) (σ : q_M) : Prop := (∀ E, (F_X8_timeOf g0 σ) = .inr E → E ∈ nx_timeOf)
set_option maxRecDepth 100000 in
theorem kw_timeOf {α β : Nat → Nat} {D : va_G} {κ : Nat → ClassId} (g0 : Int32) (σ : q_M) (hQ : Q_timeOf g0 σ) : q_CW α β D κ yL_timeOf cL_timeOf 3 (some .int) hh_L_timeOf 9 155 2 12 [.ref 220, .int g0] σ (some (.int (W_timeOf g0 σ))) σ := by
  skip
  have hE := hQ
  have hk := k_X8_timeOf (α := α) (β := β) (D := D) (κ := κ) g0 σ
  rcases hx : (F_X8_timeOf g0 σ) with v | E
  · have hw : W_timeOf g0 σ = v := by unfold W_timeOf; rw [hx]
    rw [hw]
    rw [hx] at hk
    refine q_enterW (own := RL) (F := fun _ => none) (G := fun _ => none) (by decide +kernel) rfl Fok_L Gok_L (Nat.le_of_ble_eq_true rfl) (fun p l e s m args below meth c A hfl C hr hT => ?_)
    refine q_go C tk_L_timeOf [(0, 2)] [] (pc1 := 2) (σ1 := σ) (lv1 := [(0, .ref 220), (1, .int g0)]) (st1 := [.int g0, .ref 220]) rfl trivial ?_
    refine q_callV (v := some (.int v)) C hfl mw_X8_timeOf mi_X8_timeOf me_X8_timeOf lk_L_61 hk (rest := []) rfl rfl rfl (by decide) (by decide) rfl (q_dc (z := (2, .invokevirtual 61, 3, 0, 0)) tk_L_timeOf 2 rfl) (Nat.le_of_ble_eq_true rfl) ⟨(Nat.le_of_ble_eq_true rfl), (Nat.le_of_ble_eq_true rfl)⟩ ⟨(Nat.le_of_ble_eq_true rfl), (Nat.le_of_ble_eq_true rfl)⟩ ?_
    refine q_nrm 5 [.int v] 2 12 rfl rfl rfl rfl ?_
    exact q_iret C hr (q_dc (z := (5, .ireturn, 1, 0, 0)) tk_L_timeOf 3 rfl) rfl rfl (Nat.le_of_ble_eq_true rfl) (Nat.le_of_ble_eq_true rfl)
  · have hw : W_timeOf g0 σ = q_code nc_timeOf E := by unfold W_timeOf; rw [hx]
    have hE9 := hE E (by rw [hx])
    rw [hw]
    rw [hx] at hk
    by_cases e0 : E = "java/lang/IndexOutOfBoundsException"
    · subst e0
      have hq : q_code nc_timeOf "java/lang/IndexOutOfBoundsException" = (-900001) := by decide +kernel
      rw [hq]
      refine q_enterW (own := RL) (F := fun _ => none) (G := fun _ => none) (by decide +kernel) rfl Fok_L Gok_L (Nat.le_of_ble_eq_true rfl) (fun p l e s m args below meth c A hfl C hr hT => ?_)
      refine q_go C tk_L_timeOf [(0, 2)] [] (pc1 := 2) (σ1 := σ) (lv1 := [(0, .ref 220), (1, .int g0)]) (st1 := [.int g0, .ref 220]) rfl trivial ?_
      refine q_callVx C hfl mw_X8_timeOf mi_X8_timeOf me_X8_timeOf lk_L_61 hk (rest := []) rfl rfl rfl (by decide) (by decide) rfl (q_dc (z := (2, .invokevirtual 61, 3, 0, 0)) tk_L_timeOf 2 rfl) (Nat.le_of_ble_eq_true rfl) ⟨(Nat.le_of_ble_eq_true rfl), (Nat.le_of_ble_eq_true rfl)⟩ ⟨(Nat.le_of_ble_eq_true rfl), (Nat.le_of_ble_eq_true rfl)⟩ ?_
      refine q_catch C [] ⟨0, 5, 6, 22⟩ [⟨0, 5, 10, 56⟩] (hT.trans rfl) (by decide +kernel) (fun z hz => by cases hz) (by decide) (by decide) cl_L_22 (by decide +kernel) (i := 2) (len := 1) (q_dc (z := (6, .astore_n 2, 1, 0, 0)) tk_L_timeOf 4 rfl) (Or.inl ⟨2, rfl, rfl, rfl⟩) (by decide) ?_
      refine q_ldc C ck_L_17 (q_dc (z := (7, .ldc 17, 2, 0, 0)) tk_L_timeOf 5 rfl) ?_
      exact q_iret C hr (q_dc (z := (9, .ireturn, 1, 0, 0)) tk_L_timeOf 6 rfl) rfl rfl (Nat.le_of_ble_eq_true rfl) (Nat.le_of_ble_eq_true rfl)
    by_cases e1 : E = "java/util/NoSuchElementException"
    · subst e1
      have hq : q_code nc_timeOf "java/util/NoSuchElementException" = (-900002) := by decide +kernel
      rw [hq]
      refine q_enterW (own := RL) (F := fun _ => none) (G := fun _ => none) (by decide +kernel) rfl Fok_L Gok_L (Nat.le_of_ble_eq_true rfl) (fun p l e s m args below meth c A hfl C hr hT => ?_)
      refine q_go C tk_L_timeOf [(0, 2)] [] (pc1 := 2) (σ1 := σ) (lv1 := [(0, .ref 220), (1, .int g0)]) (st1 := [.int g0, .ref 220]) rfl trivial ?_
      refine q_callVx C hfl mw_X8_timeOf mi_X8_timeOf me_X8_timeOf lk_L_61 hk (rest := []) rfl rfl rfl (by decide) (by decide) rfl (q_dc (z := (2, .invokevirtual 61, 3, 0, 0)) tk_L_timeOf 2 rfl) (Nat.le_of_ble_eq_true rfl) ⟨(Nat.le_of_ble_eq_true rfl), (Nat.le_of_ble_eq_true rfl)⟩ ⟨(Nat.le_of_ble_eq_true rfl), (Nat.le_of_ble_eq_true rfl)⟩ ?_
      refine q_catch C [⟨0, 5, 6, 22⟩] ⟨0, 5, 10, 56⟩ [] (hT.trans rfl) (by decide +kernel) (fun z hz => by simp only [List.mem_cons, List.not_mem_nil, or_false] at hz; rcases hz with rfl <;> first | exact ⟨by decide, _, (by decide +kernel : "java/lang/IndexOutOfBoundsException" ∈ q_XS), (by decide +kernel), cl_L_22⟩) (by decide) (by decide) cl_L_56 (by decide +kernel) (i := 2) (len := 1) (q_dc (z := (10, .astore_n 2, 1, 0, 0)) tk_L_timeOf 7 rfl) (Or.inl ⟨2, rfl, rfl, rfl⟩) (by decide) ?_
      refine q_ldc C ck_L_26 (q_dc (z := (11, .ldc 26, 2, 0, 0)) tk_L_timeOf 8 rfl) ?_
      exact q_iret C hr (q_dc (z := (13, .ireturn, 1, 0, 0)) tk_L_timeOf 9 rfl) rfl rfl (Nat.le_of_ble_eq_true rfl) (Nat.le_of_ble_eq_true rfl)
    simp only [nx_timeOf, List.mem_cons, List.not_mem_nil, or_false] at hE9
    rcases hE9 with h | h
    · exact absurd h e0
    · exact absurd h e1
set_option maxRecDepth 100000 in
theorem cw_timeOf : Cond.codeWith yL_timeOf cL_timeOf 3 (some .int) hh_L_timeOf ∈ q_W := q_t6 71 rfl rfl
set_option maxRecDepth 100000 in
theorem sw_timeOf : Cond.static yL_timeOf ∈ q_W := q_t6 70 rfl rfl
abbrev nx_resultOf : List String := ["java/lang/IndexOutOfBoundsException", "java/util/NoSuchElementException"]
abbrev nc_resultOf : List (String × Int32) := [("java/lang/IndexOutOfBoundsException", -900001), ("java/util/NoSuchElementException", -900002)]
def W_resultOf (g0 : Int32) (σ : q_M) : Int32 := match (F_X8_resultOf g0 σ) with | .inl v => v | .inr E => q_code nc_resultOf E
def tb_L_resultOf : List q_E := [(0, .aload_n 0, 1, 0, 0), (1, .iload_n 1, 1, 0, 0), (2, .invokevirtual 64, 3, 0, 0), (5, .ireturn, 1, 0, 0), (6, .astore_n 2, 1, 0, 0), (7, .ldc 17, 2, 0, 0), (9, .ireturn, 1, 0, 0), (10, .astore_n 2, 1, 0, 0), (11, .ldc 26, 2, 0, 0), (13, .ireturn, 1, 0, 0)]
theorem tk_L_resultOf : q_tb cL_resultOf 3 tb_L_resultOf = true := by decide +kernel
abbrev hh_L_resultOf : List (Nat × Nat × Nat × Nat) := [(0, 5, 6, 22), (0, 5, 10, 56)]
def Q_resultOf (g0 : Int32) (σ : q_M) : Prop := (∀ E, (F_X8_resultOf g0 σ) = .inr E → E ∈ nx_resultOf)
set_option maxRecDepth 100000 in
theorem kw_resultOf {α β : Nat → Nat} {D : va_G} {κ : Nat → ClassId} (g0 : Int32) (σ : q_M) (hQ : Q_resultOf g0 σ) : q_CW α β D κ yL_resultOf cL_resultOf 3 (some .int) hh_L_resultOf 9 155 2 12 [.ref 220, .int g0] σ (some (.int (W_resultOf g0 σ))) σ := by
  skip
  have hE := hQ
  have hk := k_X8_resultOf (α := α) (β := β) (D := D) (κ := κ) g0 σ
  rcases hx : (F_X8_resultOf g0 σ) with v | E
  · have hw : W_resultOf g0 σ = v := by unfold W_resultOf; rw [hx]
    rw [hw]
    rw [hx] at hk
    refine q_enterW (own := RL) (F := fun _ => none) (G := fun _ => none) (by decide +kernel) rfl Fok_L Gok_L (Nat.le_of_ble_eq_true rfl) (fun p l e s m args below meth c A hfl C hr hT => ?_)
    refine q_go C tk_L_resultOf [(0, 2)] [] (pc1 := 2) (σ1 := σ) (lv1 := [(0, .ref 220), (1, .int g0)]) (st1 := [.int g0, .ref 220]) rfl trivial ?_
    refine q_callV (v := some (.int v)) C hfl mw_X8_resultOf mi_X8_resultOf me_X8_resultOf lk_L_64 hk (rest := []) rfl rfl rfl (by decide) (by decide) rfl (q_dc (z := (2, .invokevirtual 64, 3, 0, 0)) tk_L_resultOf 2 rfl) (Nat.le_of_ble_eq_true rfl) ⟨(Nat.le_of_ble_eq_true rfl), (Nat.le_of_ble_eq_true rfl)⟩ ⟨(Nat.le_of_ble_eq_true rfl), (Nat.le_of_ble_eq_true rfl)⟩ ?_
    refine q_nrm 5 [.int v] 2 12 rfl rfl rfl rfl ?_
    exact q_iret C hr (q_dc (z := (5, .ireturn, 1, 0, 0)) tk_L_resultOf 3 rfl) rfl rfl (Nat.le_of_ble_eq_true rfl) (Nat.le_of_ble_eq_true rfl)
  · have hw : W_resultOf g0 σ = q_code nc_resultOf E := by unfold W_resultOf; rw [hx]
    have hE9 := hE E (by rw [hx])
    rw [hw]
    rw [hx] at hk
    by_cases e0 : E = "java/lang/IndexOutOfBoundsException"
    · subst e0
      have hq : q_code nc_resultOf "java/lang/IndexOutOfBoundsException" = (-900001) := by decide +kernel
      rw [hq]
      refine q_enterW (own := RL) (F := fun _ => none) (G := fun _ => none) (by decide +kernel) rfl Fok_L Gok_L (Nat.le_of_ble_eq_true rfl) (fun p l e s m args below meth c A hfl C hr hT => ?_)
      refine q_go C tk_L_resultOf [(0, 2)] [] (pc1 := 2) (σ1 := σ) (lv1 := [(0, .ref 220), (1, .int g0)]) (st1 := [.int g0, .ref 220]) rfl trivial ?_
      refine q_callVx C hfl mw_X8_resultOf mi_X8_resultOf me_X8_resultOf lk_L_64 hk (rest := []) rfl rfl rfl (by decide) (by decide) rfl (q_dc (z := (2, .invokevirtual 64, 3, 0, 0)) tk_L_resultOf 2 rfl) (Nat.le_of_ble_eq_true rfl) ⟨(Nat.le_of_ble_eq_true rfl), (Nat.le_of_ble_eq_true rfl)⟩ ⟨(Nat.le_of_ble_eq_true rfl), (Nat.le_of_ble_eq_true rfl)⟩ ?_
      refine q_catch C [] ⟨0, 5, 6, 22⟩ [⟨0, 5, 10, 56⟩] (hT.trans rfl) (by decide +kernel) (fun z hz => by cases hz) (by decide) (by decide) cl_L_22 (by decide +kernel) (i := 2) (len := 1) (q_dc (z := (6, .astore_n 2, 1, 0, 0)) tk_L_resultOf 4 rfl) (Or.inl ⟨2, rfl, rfl, rfl⟩) (by decide) ?_
      refine q_ldc C ck_L_17 (q_dc (z := (7, .ldc 17, 2, 0, 0)) tk_L_resultOf 5 rfl) ?_
      exact q_iret C hr (q_dc (z := (9, .ireturn, 1, 0, 0)) tk_L_resultOf 6 rfl) rfl rfl (Nat.le_of_ble_eq_true rfl) (Nat.le_of_ble_eq_true rfl)
    by_cases e1 : E = "java/util/NoSuchElementException"
    · subst e1
      have hq : q_code nc_resultOf "java/util/NoSuchElementException" = (-900002) := by decide +kernel
      rw [hq]
      refine q_enterW (own := RL) (F := fun _ => none) (G := fun _ => none) (by decide +kernel) rfl Fok_L Gok_L (Nat.le_of_ble_eq_true rfl) (fun p l e s m args below meth c A hfl C hr hT => ?_)
      refine q_go C tk_L_resultOf [(0, 2)] [] (pc1 := 2) (σ1 := σ) (lv1 := [(0, .ref 220), (1, .int g0)]) (st1 := [.int g0, .ref 220]) rfl trivial ?_
      refine q_callVx C hfl mw_X8_resultOf mi_X8_resultOf me_X8_resultOf lk_L_64 hk (rest := []) rfl rfl rfl (by decide) (by decide) rfl (q_dc (z := (2, .invokevirtual 64, 3, 0, 0)) tk_L_resultOf 2 rfl) (Nat.le_of_ble_eq_true rfl) ⟨(Nat.le_of_ble_eq_true rfl), (Nat.le_of_ble_eq_true rfl)⟩ ⟨(Nat.le_of_ble_eq_true rfl), (Nat.le_of_ble_eq_true rfl)⟩ ?_
      refine q_catch C [⟨0, 5, 6, 22⟩] ⟨0, 5, 10, 56⟩ [] (hT.trans rfl) (by decide +kernel) (fun z hz => by simp only [List.mem_cons, List.not_mem_nil, or_false] at hz; rcases hz with rfl <;> first | exact ⟨by decide, _, (by decide +kernel : "java/lang/IndexOutOfBoundsException" ∈ q_XS), (by decide +kernel), cl_L_22⟩) (by decide) (by decide) cl_L_56 (by decide +kernel) (i := 2) (len := 1) (q_dc (z := (10, .astore_n 2, 1, 0, 0)) tk_L_resultOf 7 rfl) (Or.inl ⟨2, rfl, rfl, rfl⟩) (by decide) ?_
      refine q_ldc C ck_L_26 (q_dc (z := (11, .ldc 26, 2, 0, 0)) tk_L_resultOf 8 rfl) ?_
      exact q_iret C hr (q_dc (z := (13, .ireturn, 1, 0, 0)) tk_L_resultOf 9 rfl) rfl rfl (Nat.le_of_ble_eq_true rfl) (Nat.le_of_ble_eq_true rfl)
    simp only [nx_resultOf, List.mem_cons, List.not_mem_nil, or_false] at hE9
    rcases hE9 with h | h
    · exact absurd h e0
    · exact absurd h e1
set_option maxRecDepth 100000 in
theorem cw_resultOf : Cond.codeWith yL_resultOf cL_resultOf 3 (some .int) hh_L_resultOf ∈ q_W := q_t6 99 rfl rfl
set_option maxRecDepth 100000 in
theorem sw_resultOf : Cond.static yL_resultOf ∈ q_W := q_t6 98 rfl rfl
abbrev nx_teamAtRank : List String := ["java/util/NoSuchElementException"]
abbrev nc_teamAtRank : List (String × Int32) := [("java/util/NoSuchElementException", -900001)]
def W_teamAtRank (g0 : Int32) (σ : q_M) : Int32 := match (F_X8_teamAtRank g0 σ) with | .inl v => v | .inr E => q_code nc_teamAtRank E
def tb_L_teamAtRank : List q_E := [(0, .aload_n 0, 1, 0, 0), (1, .iload_n 1, 1, 0, 0), (2, .invokevirtual 67, 3, 0, 0), (5, .ireturn, 1, 0, 0), (6, .astore_n 2, 1, 0, 0), (7, .ldc 17, 2, 0, 0), (9, .ireturn, 1, 0, 0)]
theorem tk_L_teamAtRank : q_tb cL_teamAtRank 3 tb_L_teamAtRank = true := by decide +kernel
abbrev hh_L_teamAtRank : List (Nat × Nat × Nat × Nat) := [(0, 5, 6, 56)]
def Q_teamAtRank (g0 : Int32) (σ : q_M) : Prop := P_X8_teamAtRank g0 σ ∧ (∀ E, (F_X8_teamAtRank g0 σ) = .inr E → E ∈ nx_teamAtRank)
set_option maxRecDepth 100000 in
theorem kw_teamAtRank {α β : Nat → Nat} {D : va_G} {κ : Nat → ClassId} (g0 : Int32) (σ : q_M) (hQ : Q_teamAtRank g0 σ) : q_CW α β D κ yL_teamAtRank cL_teamAtRank 3 (some .int) hh_L_teamAtRank 7 115 1 6 [.ref 220, .int g0] σ (some (.int (W_teamAtRank g0 σ))) σ := by
  have hP := hQ.1
  have hE := hQ.2
  have hk := k_X8_teamAtRank (α := α) (β := β) (D := D) (κ := κ) g0 σ hP
  rcases hx : (F_X8_teamAtRank g0 σ) with v | E
  · have hw : W_teamAtRank g0 σ = v := by unfold W_teamAtRank; rw [hx]
    rw [hw]
    rw [hx] at hk
    refine q_enterW (own := RL) (F := fun _ => none) (G := fun _ => none) (by decide +kernel) rfl Fok_L Gok_L (Nat.le_of_ble_eq_true rfl) (fun p l e s m args below meth c A hfl C hr hT => ?_)
    refine q_go C tk_L_teamAtRank [(0, 2)] [] (pc1 := 2) (σ1 := σ) (lv1 := [(0, .ref 220), (1, .int g0)]) (st1 := [.int g0, .ref 220]) rfl trivial ?_
    refine q_callV (v := some (.int v)) C hfl mw_X8_teamAtRank mi_X8_teamAtRank me_X8_teamAtRank lk_L_67 hk (rest := []) rfl rfl rfl (by decide) (by decide) rfl (q_dc (z := (2, .invokevirtual 67, 3, 0, 0)) tk_L_teamAtRank 2 rfl) (Nat.le_of_ble_eq_true rfl) ⟨(Nat.le_of_ble_eq_true rfl), (Nat.le_of_ble_eq_true rfl)⟩ ⟨(Nat.le_of_ble_eq_true rfl), (Nat.le_of_ble_eq_true rfl)⟩ ?_
    refine q_nrm 5 [.int v] 1 6 rfl rfl rfl rfl ?_
    exact q_iret C hr (q_dc (z := (5, .ireturn, 1, 0, 0)) tk_L_teamAtRank 3 rfl) rfl rfl (Nat.le_of_ble_eq_true rfl) (Nat.le_of_ble_eq_true rfl)
  · have hw : W_teamAtRank g0 σ = q_code nc_teamAtRank E := by unfold W_teamAtRank; rw [hx]
    have hE9 := hE E (by rw [hx])
    rw [hw]
    rw [hx] at hk
    by_cases e0 : E = "java/util/NoSuchElementException"
    · subst e0
      have hq : q_code nc_teamAtRank "java/util/NoSuchElementException" = (-900001) := by decide +kernel
      rw [hq]
      refine q_enterW (own := RL) (F := fun _ => none) (G := fun _ => none) (by decide +kernel) rfl Fok_L Gok_L (Nat.le_of_ble_eq_true rfl) (fun p l e s m args below meth c A hfl C hr hT => ?_)
      refine q_go C tk_L_teamAtRank [(0, 2)] [] (pc1 := 2) (σ1 := σ) (lv1 := [(0, .ref 220), (1, .int g0)]) (st1 := [.int g0, .ref 220]) rfl trivial ?_
      refine q_callVx C hfl mw_X8_teamAtRank mi_X8_teamAtRank me_X8_teamAtRank lk_L_67 hk (rest := []) rfl rfl rfl (by decide) (by decide) rfl (q_dc (z := (2, .invokevirtual 67, 3, 0, 0)) tk_L_teamAtRank 2 rfl) (Nat.le_of_ble_eq_true rfl) ⟨(Nat.le_of_ble_eq_true rfl), (Nat.le_of_ble_eq_true rfl)⟩ ⟨(Nat.le_of_ble_eq_true rfl), (Nat.le_of_ble_eq_true rfl)⟩ ?_
      refine q_catch C [] ⟨0, 5, 6, 56⟩ [] (hT.trans rfl) (by decide +kernel) (fun z hz => by cases hz) (by decide) (by decide) cl_L_56 (by decide +kernel) (i := 2) (len := 1) (q_dc (z := (6, .astore_n 2, 1, 0, 0)) tk_L_teamAtRank 4 rfl) (Or.inl ⟨2, rfl, rfl, rfl⟩) (by decide) ?_
      refine q_ldc C ck_L_17 (q_dc (z := (7, .ldc 17, 2, 0, 0)) tk_L_teamAtRank 5 rfl) ?_
      exact q_iret C hr (q_dc (z := (9, .ireturn, 1, 0, 0)) tk_L_teamAtRank 6 rfl) rfl rfl (Nat.le_of_ble_eq_true rfl) (Nat.le_of_ble_eq_true rfl)
    simp only [nx_teamAtRank, List.mem_cons, List.not_mem_nil, or_false] at hE9
    exact absurd hE9 e0
set_option maxRecDepth 100000 in
theorem cw_teamAtRank : Cond.codeWith yL_teamAtRank cL_teamAtRank 3 (some .int) hh_L_teamAtRank ∈ q_W := q_t4 11 rfl rfl
set_option maxRecDepth 100000 in
theorem sw_teamAtRank : Cond.static yL_teamAtRank ∈ q_W := q_t4 10 rfl rfl
abbrev nx_reach : List String := ["java/lang/IndexOutOfBoundsException", "java/lang/IllegalArgumentException"]
abbrev nc_reach : List (String × Int32) := [("java/lang/IndexOutOfBoundsException", -900001), ("java/lang/IllegalArgumentException", -900002)]
def W_reach (g0 : Int32) (g1 : Int32) (g2 : Int32) (σ : q_M) : Int32 := match (F_X8_reach g0 g1 g2 σ) with | .inl v => v | .inr E => q_code nc_reach E
def tb_L_reach : List q_E := [(0, .aload_n 0, 1, 0, 0), (1, .iload_n 1, 1, 0, 0), (2, .iload_n 2, 1, 0, 0), (3, .iload_n 3, 1, 0, 0), (4, .invokevirtual 70, 3, 0, 0), (7, .ireturn, 1, 0, 0), (8, .astore 4, 2, 0, 0), (10, .ldc 17, 2, 0, 0), (12, .ireturn, 1, 0, 0), (13, .astore 4, 2, 0, 0), (15, .ldc 26, 2, 0, 0), (17, .ireturn, 1, 0, 0)]
theorem tk_L_reach : q_tb cL_reach 5 tb_L_reach = true := by decide +kernel
abbrev hh_L_reach : List (Nat × Nat × Nat × Nat) := [(0, 7, 8, 22), (0, 7, 13, 24)]
def Q_reach (g0 : Int32) (g1 : Int32) (g2 : Int32) (σ : q_M) : Prop := P_X8_reach g0 g1 g2 σ ∧ (∀ E, (F_X8_reach g0 g1 g2 σ) = .inr E → E ∈ nx_reach)
set_option maxRecDepth 100000 in
theorem kw_reach {α β : Nat → Nat} {D : va_G} {κ : Nat → ClassId} (g0 : Int32) (g1 : Int32) (g2 : Int32) (σ : q_M) (hQ : Q_reach g0 g1 g2 σ) : q_CW α β D κ yL_reach cL_reach 5 (some .int) hh_L_reach 10 185 3 18 [.ref 220, .int g0, .int g1, .int g2] σ (some (.int (W_reach g0 g1 g2 σ))) σ := by
  have hP := hQ.1
  have hE := hQ.2
  have hk := k_X8_reach (α := α) (β := β) (D := D) (κ := κ) g0 g1 g2 σ hP
  rcases hx : (F_X8_reach g0 g1 g2 σ) with v | E
  · have hw : W_reach g0 g1 g2 σ = v := by unfold W_reach; rw [hx]
    rw [hw]
    rw [hx] at hk
    refine q_enterW (own := RL) (F := fun _ => none) (G := fun _ => none) (by decide +kernel) rfl Fok_L Gok_L (Nat.le_of_ble_eq_true rfl) (fun p l e s m args below meth c A hfl C hr hT => ?_)
    refine q_go C tk_L_reach [(0, 4)] [] (pc1 := 4) (σ1 := σ) (lv1 := [(0, .ref 220), (1, .int g0), (2, .int g1), (3, .int g2)]) (st1 := [.int g2, .int g1, .int g0, .ref 220]) rfl trivial ?_
    refine q_callV (v := some (.int v)) C hfl mw_X8_reach mi_X8_reach me_X8_reach lk_L_70 hk (rest := []) rfl rfl rfl (by decide) (by decide) rfl (q_dc (z := (4, .invokevirtual 70, 3, 0, 0)) tk_L_reach 4 rfl) (Nat.le_of_ble_eq_true rfl) ⟨(Nat.le_of_ble_eq_true rfl), (Nat.le_of_ble_eq_true rfl)⟩ ⟨(Nat.le_of_ble_eq_true rfl), (Nat.le_of_ble_eq_true rfl)⟩ ?_
    refine q_nrm 7 [.int v] 3 18 rfl rfl rfl rfl ?_
    exact q_iret C hr (q_dc (z := (7, .ireturn, 1, 0, 0)) tk_L_reach 5 rfl) rfl rfl (Nat.le_of_ble_eq_true rfl) (Nat.le_of_ble_eq_true rfl)
  · have hw : W_reach g0 g1 g2 σ = q_code nc_reach E := by unfold W_reach; rw [hx]
    have hE9 := hE E (by rw [hx])
    rw [hw]
    rw [hx] at hk
    by_cases e0 : E = "java/lang/IndexOutOfBoundsException"
    · subst e0
      have hq : q_code nc_reach "java/lang/IndexOutOfBoundsException" = (-900001) := by decide +kernel
      rw [hq]
      refine q_enterW (own := RL) (F := fun _ => none) (G := fun _ => none) (by decide +kernel) rfl Fok_L Gok_L (Nat.le_of_ble_eq_true rfl) (fun p l e s m args below meth c A hfl C hr hT => ?_)
      refine q_go C tk_L_reach [(0, 4)] [] (pc1 := 4) (σ1 := σ) (lv1 := [(0, .ref 220), (1, .int g0), (2, .int g1), (3, .int g2)]) (st1 := [.int g2, .int g1, .int g0, .ref 220]) rfl trivial ?_
      refine q_callVx C hfl mw_X8_reach mi_X8_reach me_X8_reach lk_L_70 hk (rest := []) rfl rfl rfl (by decide) (by decide) rfl (q_dc (z := (4, .invokevirtual 70, 3, 0, 0)) tk_L_reach 4 rfl) (Nat.le_of_ble_eq_true rfl) ⟨(Nat.le_of_ble_eq_true rfl), (Nat.le_of_ble_eq_true rfl)⟩ ⟨(Nat.le_of_ble_eq_true rfl), (Nat.le_of_ble_eq_true rfl)⟩ ?_
      refine q_catch C [] ⟨0, 7, 8, 22⟩ [⟨0, 7, 13, 24⟩] (hT.trans rfl) (by decide +kernel) (fun z hz => by cases hz) (by decide) (by decide) cl_L_22 (by decide +kernel) (i := 4) (len := 2) (q_dc (z := (8, .astore 4, 2, 0, 0)) tk_L_reach 6 rfl) (Or.inr ⟨rfl, rfl⟩) (by decide) ?_
      refine q_ldc C ck_L_17 (q_dc (z := (10, .ldc 17, 2, 0, 0)) tk_L_reach 7 rfl) ?_
      exact q_iret C hr (q_dc (z := (12, .ireturn, 1, 0, 0)) tk_L_reach 8 rfl) rfl rfl (Nat.le_of_ble_eq_true rfl) (Nat.le_of_ble_eq_true rfl)
    by_cases e1 : E = "java/lang/IllegalArgumentException"
    · subst e1
      have hq : q_code nc_reach "java/lang/IllegalArgumentException" = (-900002) := by decide +kernel
      rw [hq]
      refine q_enterW (own := RL) (F := fun _ => none) (G := fun _ => none) (by decide +kernel) rfl Fok_L Gok_L (Nat.le_of_ble_eq_true rfl) (fun p l e s m args below meth c A hfl C hr hT => ?_)
      refine q_go C tk_L_reach [(0, 4)] [] (pc1 := 4) (σ1 := σ) (lv1 := [(0, .ref 220), (1, .int g0), (2, .int g1), (3, .int g2)]) (st1 := [.int g2, .int g1, .int g0, .ref 220]) rfl trivial ?_
      refine q_callVx C hfl mw_X8_reach mi_X8_reach me_X8_reach lk_L_70 hk (rest := []) rfl rfl rfl (by decide) (by decide) rfl (q_dc (z := (4, .invokevirtual 70, 3, 0, 0)) tk_L_reach 4 rfl) (Nat.le_of_ble_eq_true rfl) ⟨(Nat.le_of_ble_eq_true rfl), (Nat.le_of_ble_eq_true rfl)⟩ ⟨(Nat.le_of_ble_eq_true rfl), (Nat.le_of_ble_eq_true rfl)⟩ ?_
      refine q_catch C [⟨0, 7, 8, 22⟩] ⟨0, 7, 13, 24⟩ [] (hT.trans rfl) (by decide +kernel) (fun z hz => by simp only [List.mem_cons, List.not_mem_nil, or_false] at hz; rcases hz with rfl <;> first | exact ⟨by decide, _, (by decide +kernel : "java/lang/IndexOutOfBoundsException" ∈ q_XS), (by decide +kernel), cl_L_22⟩) (by decide) (by decide) cl_L_24 (by decide +kernel) (i := 4) (len := 2) (q_dc (z := (13, .astore 4, 2, 0, 0)) tk_L_reach 9 rfl) (Or.inr ⟨rfl, rfl⟩) (by decide) ?_
      refine q_ldc C ck_L_26 (q_dc (z := (15, .ldc 26, 2, 0, 0)) tk_L_reach 10 rfl) ?_
      exact q_iret C hr (q_dc (z := (17, .ireturn, 1, 0, 0)) tk_L_reach 11 rfl) rfl rfl (Nat.le_of_ble_eq_true rfl) (Nat.le_of_ble_eq_true rfl)
    simp only [nx_reach, List.mem_cons, List.not_mem_nil, or_false] at hE9
    rcases hE9 with h | h
    · exact absurd h e0
    · exact absurd h e1
set_option maxRecDepth 100000 in
theorem cw_reach : Cond.codeWith yL_reach cL_reach 5 (some .int) hh_L_reach ∈ q_W := q_t4 32 rfl rfl
set_option maxRecDepth 100000 in
theorem sw_reach : Cond.static yL_reach ∈ q_W := q_t4 31 rfl rfl
abbrev nx_secondsToZone : List String := ["java/lang/IndexOutOfBoundsException", "java/lang/IllegalStateException", "java/lang/UnsupportedOperationException"]
abbrev nc_secondsToZone : List (String × Int32) := [("java/lang/IndexOutOfBoundsException", -900001), ("java/lang/IllegalStateException", -900002), ("java/lang/UnsupportedOperationException", -900003)]
def W_secondsToZone (g0 : Int32) (σ : q_M) : Int32 := match (F_X8_secondsToZone g0 σ) with | .inl v => v | .inr E => q_code nc_secondsToZone E
def tb_L_secondsToZone : List q_E := [(0, .aload_n 0, 1, 0, 0), (1, .iload_n 1, 1, 0, 0), (2, .invokevirtual 73, 3, 0, 0), (5, .ireturn, 1, 0, 0), (6, .astore_n 2, 1, 0, 0), (7, .ldc 17, 2, 0, 0), (9, .ireturn, 1, 0, 0), (10, .astore_n 2, 1, 0, 0), (11, .ldc 26, 2, 0, 0), (13, .ireturn, 1, 0, 0), (14, .astore_n 2, 1, 0, 0), (15, .ldc 27, 2, 0, 0), (17, .ireturn, 1, 0, 0)]
theorem tk_L_secondsToZone : q_tb cL_secondsToZone 3 tb_L_secondsToZone = true := by decide +kernel
abbrev hh_L_secondsToZone : List (Nat × Nat × Nat × Nat) := [(0, 5, 6, 22), (0, 5, 10, 15), (0, 5, 14, 44)]
def Q_secondsToZone (g0 : Int32) (σ : q_M) : Prop := P_X8_secondsToZone g0 σ ∧ (∀ E, (F_X8_secondsToZone g0 σ) = .inr E → E ∈ nx_secondsToZone)
set_option maxRecDepth 100000 in
theorem kw_secondsToZone {α β : Nat → Nat} {D : va_G} {κ : Nat → ClassId} (g0 : Int32) (σ : q_M) (hQ : Q_secondsToZone g0 σ) : q_CW α β D κ yL_secondsToZone cL_secondsToZone 3 (some .int) hh_L_secondsToZone 8 134 2 12 [.ref 220, .int g0] σ (some (.int (W_secondsToZone g0 σ))) σ := by
  have hP := hQ.1
  have hE := hQ.2
  have hk := k_X8_secondsToZone (α := α) (β := β) (D := D) (κ := κ) g0 σ hP
  rcases hx : (F_X8_secondsToZone g0 σ) with v | E
  · have hw : W_secondsToZone g0 σ = v := by unfold W_secondsToZone; rw [hx]
    rw [hw]
    rw [hx] at hk
    refine q_enterW (own := RL) (F := fun _ => none) (G := fun _ => none) (by decide +kernel) rfl Fok_L Gok_L (Nat.le_of_ble_eq_true rfl) (fun p l e s m args below meth c A hfl C hr hT => ?_)
    refine q_go C tk_L_secondsToZone [(0, 2)] [] (pc1 := 2) (σ1 := σ) (lv1 := [(0, .ref 220), (1, .int g0)]) (st1 := [.int g0, .ref 220]) rfl trivial ?_
    refine q_callV (v := some (.int v)) C hfl mw_X8_secondsToZone mi_X8_secondsToZone me_X8_secondsToZone lk_L_73 hk (rest := []) rfl rfl rfl (by decide) (by decide) rfl (q_dc (z := (2, .invokevirtual 73, 3, 0, 0)) tk_L_secondsToZone 2 rfl) (Nat.le_of_ble_eq_true rfl) ⟨(Nat.le_of_ble_eq_true rfl), (Nat.le_of_ble_eq_true rfl)⟩ ⟨(Nat.le_of_ble_eq_true rfl), (Nat.le_of_ble_eq_true rfl)⟩ ?_
    refine q_nrm 5 [.int v] 2 12 rfl rfl rfl rfl ?_
    exact q_iret C hr (q_dc (z := (5, .ireturn, 1, 0, 0)) tk_L_secondsToZone 3 rfl) rfl rfl (Nat.le_of_ble_eq_true rfl) (Nat.le_of_ble_eq_true rfl)
  · have hw : W_secondsToZone g0 σ = q_code nc_secondsToZone E := by unfold W_secondsToZone; rw [hx]
    have hE9 := hE E (by rw [hx])
    rw [hw]
    rw [hx] at hk
    by_cases e0 : E = "java/lang/IndexOutOfBoundsException"
    · subst e0
      have hq : q_code nc_secondsToZone "java/lang/IndexOutOfBoundsException" = (-900001) := by decide +kernel
      rw [hq]
      refine q_enterW (own := RL) (F := fun _ => none) (G := fun _ => none) (by decide +kernel) rfl Fok_L Gok_L (Nat.le_of_ble_eq_true rfl) (fun p l e s m args below meth c A hfl C hr hT => ?_)
      refine q_go C tk_L_secondsToZone [(0, 2)] [] (pc1 := 2) (σ1 := σ) (lv1 := [(0, .ref 220), (1, .int g0)]) (st1 := [.int g0, .ref 220]) rfl trivial ?_
      refine q_callVx C hfl mw_X8_secondsToZone mi_X8_secondsToZone me_X8_secondsToZone lk_L_73 hk (rest := []) rfl rfl rfl (by decide) (by decide) rfl (q_dc (z := (2, .invokevirtual 73, 3, 0, 0)) tk_L_secondsToZone 2 rfl) (Nat.le_of_ble_eq_true rfl) ⟨(Nat.le_of_ble_eq_true rfl), (Nat.le_of_ble_eq_true rfl)⟩ ⟨(Nat.le_of_ble_eq_true rfl), (Nat.le_of_ble_eq_true rfl)⟩ ?_
      refine q_catch C [] ⟨0, 5, 6, 22⟩ [⟨0, 5, 10, 15⟩, ⟨0, 5, 14, 44⟩] (hT.trans rfl) (by decide +kernel) (fun z hz => by cases hz) (by decide) (by decide) cl_L_22 (by decide +kernel) (i := 2) (len := 1) (q_dc (z := (6, .astore_n 2, 1, 0, 0)) tk_L_secondsToZone 4 rfl) (Or.inl ⟨2, rfl, rfl, rfl⟩) (by decide) ?_
      refine q_ldc C ck_L_17 (q_dc (z := (7, .ldc 17, 2, 0, 0)) tk_L_secondsToZone 5 rfl) ?_
      exact q_iret C hr (q_dc (z := (9, .ireturn, 1, 0, 0)) tk_L_secondsToZone 6 rfl) rfl rfl (Nat.le_of_ble_eq_true rfl) (Nat.le_of_ble_eq_true rfl)
    by_cases e1 : E = "java/lang/IllegalStateException"
    · subst e1
      have hq : q_code nc_secondsToZone "java/lang/IllegalStateException" = (-900002) := by decide +kernel
      rw [hq]
      refine q_enterW (own := RL) (F := fun _ => none) (G := fun _ => none) (by decide +kernel) rfl Fok_L Gok_L (Nat.le_of_ble_eq_true rfl) (fun p l e s m args below meth c A hfl C hr hT => ?_)
      refine q_go C tk_L_secondsToZone [(0, 2)] [] (pc1 := 2) (σ1 := σ) (lv1 := [(0, .ref 220), (1, .int g0)]) (st1 := [.int g0, .ref 220]) rfl trivial ?_
      refine q_callVx C hfl mw_X8_secondsToZone mi_X8_secondsToZone me_X8_secondsToZone lk_L_73 hk (rest := []) rfl rfl rfl (by decide) (by decide) rfl (q_dc (z := (2, .invokevirtual 73, 3, 0, 0)) tk_L_secondsToZone 2 rfl) (Nat.le_of_ble_eq_true rfl) ⟨(Nat.le_of_ble_eq_true rfl), (Nat.le_of_ble_eq_true rfl)⟩ ⟨(Nat.le_of_ble_eq_true rfl), (Nat.le_of_ble_eq_true rfl)⟩ ?_
      refine q_catch C [⟨0, 5, 6, 22⟩] ⟨0, 5, 10, 15⟩ [⟨0, 5, 14, 44⟩] (hT.trans rfl) (by decide +kernel) (fun z hz => by simp only [List.mem_cons, List.not_mem_nil, or_false] at hz; rcases hz with rfl <;> first | exact ⟨by decide, _, (by decide +kernel : "java/lang/IndexOutOfBoundsException" ∈ q_XS), (by decide +kernel), cl_L_22⟩) (by decide) (by decide) cl_L_15 (by decide +kernel) (i := 2) (len := 1) (q_dc (z := (10, .astore_n 2, 1, 0, 0)) tk_L_secondsToZone 7 rfl) (Or.inl ⟨2, rfl, rfl, rfl⟩) (by decide) ?_
      refine q_ldc C ck_L_26 (q_dc (z := (11, .ldc 26, 2, 0, 0)) tk_L_secondsToZone 8 rfl) ?_
      exact q_iret C hr (q_dc (z := (13, .ireturn, 1, 0, 0)) tk_L_secondsToZone 9 rfl) rfl rfl (Nat.le_of_ble_eq_true rfl) (Nat.le_of_ble_eq_true rfl)
    by_cases e2 : E = "java/lang/UnsupportedOperationException"
    · subst e2
      have hq : q_code nc_secondsToZone "java/lang/UnsupportedOperationException" = (-900003) := by decide +kernel
      rw [hq]
      refine q_enterW (own := RL) (F := fun _ => none) (G := fun _ => none) (by decide +kernel) rfl Fok_L Gok_L (Nat.le_of_ble_eq_true rfl) (fun p l e s m args below meth c A hfl C hr hT => ?_)
      refine q_go C tk_L_secondsToZone [(0, 2)] [] (pc1 := 2) (σ1 := σ) (lv1 := [(0, .ref 220), (1, .int g0)]) (st1 := [.int g0, .ref 220]) rfl trivial ?_
      refine q_callVx C hfl mw_X8_secondsToZone mi_X8_secondsToZone me_X8_secondsToZone lk_L_73 hk (rest := []) rfl rfl rfl (by decide) (by decide) rfl (q_dc (z := (2, .invokevirtual 73, 3, 0, 0)) tk_L_secondsToZone 2 rfl) (Nat.le_of_ble_eq_true rfl) ⟨(Nat.le_of_ble_eq_true rfl), (Nat.le_of_ble_eq_true rfl)⟩ ⟨(Nat.le_of_ble_eq_true rfl), (Nat.le_of_ble_eq_true rfl)⟩ ?_
      refine q_catch C [⟨0, 5, 6, 22⟩, ⟨0, 5, 10, 15⟩] ⟨0, 5, 14, 44⟩ [] (hT.trans rfl) (by decide +kernel) (fun z hz => by simp only [List.mem_cons, List.not_mem_nil, or_false] at hz; rcases hz with rfl | rfl <;> first | exact ⟨by decide, _, (by decide +kernel : "java/lang/IndexOutOfBoundsException" ∈ q_XS), (by decide +kernel), cl_L_22⟩ | exact ⟨by decide, _, (by decide +kernel : "java/lang/IllegalStateException" ∈ q_XS), (by decide +kernel), cl_L_15⟩) (by decide) (by decide) cl_L_44 (by decide +kernel) (i := 2) (len := 1) (q_dc (z := (14, .astore_n 2, 1, 0, 0)) tk_L_secondsToZone 10 rfl) (Or.inl ⟨2, rfl, rfl, rfl⟩) (by decide) ?_
      refine q_ldc C ck_L_27 (q_dc (z := (15, .ldc 27, 2, 0, 0)) tk_L_secondsToZone 11 rfl) ?_
      exact q_iret C hr (q_dc (z := (17, .ireturn, 1, 0, 0)) tk_L_secondsToZone 12 rfl) rfl rfl (Nat.le_of_ble_eq_true rfl) (Nat.le_of_ble_eq_true rfl)
    simp only [nx_secondsToZone, List.mem_cons, List.not_mem_nil, or_false] at hE9
    rcases hE9 with h | h | h
    · exact absurd h e0
    · exact absurd h e1
    · exact absurd h e2
set_option maxRecDepth 100000 in
theorem cw_secondsToZone : Cond.codeWith yL_secondsToZone cL_secondsToZone 3 (some .int) hh_L_secondsToZone ∈ q_W := q_t4 49 rfl rfl
set_option maxRecDepth 100000 in
theorem sw_secondsToZone : Cond.static yL_secondsToZone ∈ q_W := q_t4 48 rfl rfl
abbrev nx_execute : List String := ["java/lang/IllegalArgumentException", "java/lang/IllegalStateException"]
abbrev nc_execute : List (String × Int32) := [("java/lang/IllegalArgumentException", -900001), ("java/lang/IllegalStateException", -900002)]
def W_execute (σ : q_M) : Int32 × q_M := match (F_X8_execute σ) with | (.inl v, τ) => (v, τ) | (.inr E, τ) => (q_code nc_execute E, τ)
def tb_L_execute : List q_E := [(0, .aload_n 0, 1, 0, 0), (1, .invokevirtual 76, 3, 0, 0), (4, .ireturn, 1, 0, 0), (5, .astore_n 1, 1, 0, 0), (6, .ldc 17, 2, 0, 0), (8, .ireturn, 1, 0, 0), (9, .astore_n 1, 1, 0, 0), (10, .ldc 26, 2, 0, 0), (12, .ireturn, 1, 0, 0)]
theorem tk_L_execute : q_tb cL_execute 2 tb_L_execute = true := by decide +kernel
abbrev hh_L_execute : List (Nat × Nat × Nat × Nat) := [(0, 4, 5, 24), (0, 4, 9, 15)]
def Q_execute (σ : q_M) : Prop := P_X8_execute σ ∧ (∀ E, (F_X8_execute σ).1 = .inr E → E ∈ nx_execute)
set_option maxRecDepth 100000 in
theorem kw_execute {α β : Nat → Nat} {D : va_G} {κ : Nat → ClassId} (σ : q_M) (hQ : Q_execute σ) : q_CW α β D κ yL_execute cL_execute 2 (some .int) hh_L_execute 11 254 1 6 [.ref 220] σ (some (.int (W_execute σ).1)) (W_execute σ).2 := by
  have hP := hQ.1
  have hE := hQ.2
  have hk := k_X8_execute (α := α) (β := β) (D := D) (κ := κ) σ hP
  rcases hx : (F_X8_execute σ) with ⟨v | E, τ⟩
  · have hw : W_execute σ = (v, τ) := by unfold W_execute; rw [hx]
    rw [hw]
    rw [hx] at hk
    refine q_enterW (own := RL) (F := fun _ => none) (G := fun _ => none) (by decide +kernel) rfl Fok_L Gok_L (Nat.le_of_ble_eq_true rfl) (fun p l e s m args below meth c A hfl C hr hT => ?_)
    refine q_go C tk_L_execute [(0, 1)] [] (pc1 := 1) (σ1 := σ) (lv1 := [(0, .ref 220)]) (st1 := [.ref 220]) rfl trivial ?_
    refine q_callV (v := some (.int v)) C hfl mw_X8_execute mi_X8_execute me_X8_execute lk_L_76 hk (rest := []) rfl rfl rfl (by decide) (by decide) rfl (q_dc (z := (1, .invokevirtual 76, 3, 0, 0)) tk_L_execute 1 rfl) (Nat.le_of_ble_eq_true rfl) ⟨(Nat.le_of_ble_eq_true rfl), (Nat.le_of_ble_eq_true rfl)⟩ ⟨(Nat.le_of_ble_eq_true rfl), (Nat.le_of_ble_eq_true rfl)⟩ ?_
    refine q_nrm 4 [.int v] 1 6 rfl rfl rfl rfl ?_
    exact q_iret C hr (q_dc (z := (4, .ireturn, 1, 0, 0)) tk_L_execute 2 rfl) rfl rfl (Nat.le_of_ble_eq_true rfl) (Nat.le_of_ble_eq_true rfl)
  · have hw : W_execute σ = (q_code nc_execute E, τ) := by unfold W_execute; rw [hx]
    have hE9 := hE E (by rw [hx])
    rw [hw]
    rw [hx] at hk
    by_cases e0 : E = "java/lang/IllegalArgumentException"
    · subst e0
      have hq : q_code nc_execute "java/lang/IllegalArgumentException" = (-900001) := by decide +kernel
      rw [hq]
      refine q_enterW (own := RL) (F := fun _ => none) (G := fun _ => none) (by decide +kernel) rfl Fok_L Gok_L (Nat.le_of_ble_eq_true rfl) (fun p l e s m args below meth c A hfl C hr hT => ?_)
      refine q_go C tk_L_execute [(0, 1)] [] (pc1 := 1) (σ1 := σ) (lv1 := [(0, .ref 220)]) (st1 := [.ref 220]) rfl trivial ?_
      refine q_callVx C hfl mw_X8_execute mi_X8_execute me_X8_execute lk_L_76 hk (rest := []) rfl rfl rfl (by decide) (by decide) rfl (q_dc (z := (1, .invokevirtual 76, 3, 0, 0)) tk_L_execute 1 rfl) (Nat.le_of_ble_eq_true rfl) ⟨(Nat.le_of_ble_eq_true rfl), (Nat.le_of_ble_eq_true rfl)⟩ ⟨(Nat.le_of_ble_eq_true rfl), (Nat.le_of_ble_eq_true rfl)⟩ ?_
      refine q_catch C [] ⟨0, 4, 5, 24⟩ [⟨0, 4, 9, 15⟩] (hT.trans rfl) (by decide +kernel) (fun z hz => by cases hz) (by decide) (by decide) cl_L_24 (by decide +kernel) (i := 1) (len := 1) (q_dc (z := (5, .astore_n 1, 1, 0, 0)) tk_L_execute 3 rfl) (Or.inl ⟨1, rfl, rfl, rfl⟩) (by decide) ?_
      refine q_ldc C ck_L_17 (q_dc (z := (6, .ldc 17, 2, 0, 0)) tk_L_execute 4 rfl) ?_
      exact q_iret C hr (q_dc (z := (8, .ireturn, 1, 0, 0)) tk_L_execute 5 rfl) rfl rfl (Nat.le_of_ble_eq_true rfl) (Nat.le_of_ble_eq_true rfl)
    by_cases e1 : E = "java/lang/IllegalStateException"
    · subst e1
      have hq : q_code nc_execute "java/lang/IllegalStateException" = (-900002) := by decide +kernel
      rw [hq]
      refine q_enterW (own := RL) (F := fun _ => none) (G := fun _ => none) (by decide +kernel) rfl Fok_L Gok_L (Nat.le_of_ble_eq_true rfl) (fun p l e s m args below meth c A hfl C hr hT => ?_)
      refine q_go C tk_L_execute [(0, 1)] [] (pc1 := 1) (σ1 := σ) (lv1 := [(0, .ref 220)]) (st1 := [.ref 220]) rfl trivial ?_
      refine q_callVx C hfl mw_X8_execute mi_X8_execute me_X8_execute lk_L_76 hk (rest := []) rfl rfl rfl (by decide) (by decide) rfl (q_dc (z := (1, .invokevirtual 76, 3, 0, 0)) tk_L_execute 1 rfl) (Nat.le_of_ble_eq_true rfl) ⟨(Nat.le_of_ble_eq_true rfl), (Nat.le_of_ble_eq_true rfl)⟩ ⟨(Nat.le_of_ble_eq_true rfl), (Nat.le_of_ble_eq_true rfl)⟩ ?_
      refine q_catch C [⟨0, 4, 5, 24⟩] ⟨0, 4, 9, 15⟩ [] (hT.trans rfl) (by decide +kernel) (fun z hz => by simp only [List.mem_cons, List.not_mem_nil, or_false] at hz; rcases hz with rfl <;> first | exact ⟨by decide, _, (by decide +kernel : "java/lang/IllegalArgumentException" ∈ q_XS), (by decide +kernel), cl_L_24⟩) (by decide) (by decide) cl_L_15 (by decide +kernel) (i := 1) (len := 1) (q_dc (z := (9, .astore_n 1, 1, 0, 0)) tk_L_execute 6 rfl) (Or.inl ⟨1, rfl, rfl, rfl⟩) (by decide) ?_
      refine q_ldc C ck_L_26 (q_dc (z := (10, .ldc 26, 2, 0, 0)) tk_L_execute 7 rfl) ?_
      exact q_iret C hr (q_dc (z := (12, .ireturn, 1, 0, 0)) tk_L_execute 8 rfl) rfl rfl (Nat.le_of_ble_eq_true rfl) (Nat.le_of_ble_eq_true rfl)
    simp only [nx_execute, List.mem_cons, List.not_mem_nil, or_false] at hE9
    rcases hE9 with h | h
    · exact absurd h e0
    · exact absurd h e1
set_option maxRecDepth 100000 in
theorem cw_execute : Cond.codeWith yL_execute cL_execute 2 (some .int) hh_L_execute ∈ q_W := q_t5 187 rfl rfl
set_option maxRecDepth 100000 in
theorem sw_execute : Cond.static yL_execute ∈ q_W := q_t5 186 rfl rfl
abbrev nx_undo : List String := ["java/lang/IllegalStateException"]
abbrev nc_undo : List (String × Int32) := [("java/lang/IllegalStateException", -900001)]
def W_undo (σ : q_M) : Int32 × q_M := match (F_X8_undo σ) with | (.inl v, τ) => (v, τ) | (.inr E, τ) => (q_code nc_undo E, τ)
def tb_L_undo : List q_E := [(0, .aload_n 0, 1, 0, 0), (1, .invokevirtual 79, 3, 0, 0), (4, .ireturn, 1, 0, 0), (5, .astore_n 1, 1, 0, 0), (6, .ldc 17, 2, 0, 0), (8, .ireturn, 1, 0, 0)]
theorem tk_L_undo : q_tb cL_undo 2 tb_L_undo = true := by decide +kernel
abbrev hh_L_undo : List (Nat × Nat × Nat × Nat) := [(0, 4, 5, 15)]
def Q_undo (σ : q_M) : Prop := P_X8_undo σ ∧ (∀ E, (F_X8_undo σ).1 = .inr E → E ∈ nx_undo)
set_option maxRecDepth 100000 in
theorem kw_undo {α β : Nat → Nat} {D : va_G} {κ : Nat → ClassId} (σ : q_M) (hQ : Q_undo σ) : q_CW α β D κ yL_undo cL_undo 2 (some .int) hh_L_undo 7 127 1 6 [.ref 220] σ (some (.int (W_undo σ).1)) (W_undo σ).2 := by
  have hP := hQ.1
  have hE := hQ.2
  have hk := k_X8_undo (α := α) (β := β) (D := D) (κ := κ) σ hP
  rcases hx : (F_X8_undo σ) with ⟨v | E, τ⟩
  · have hw : W_undo σ = (v, τ) := by unfold W_undo; rw [hx]
    rw [hw]
    rw [hx] at hk
    refine q_enterW (own := RL) (F := fun _ => none) (G := fun _ => none) (by decide +kernel) rfl Fok_L Gok_L (Nat.le_of_ble_eq_true rfl) (fun p l e s m args below meth c A hfl C hr hT => ?_)
    refine q_go C tk_L_undo [(0, 1)] [] (pc1 := 1) (σ1 := σ) (lv1 := [(0, .ref 220)]) (st1 := [.ref 220]) rfl trivial ?_
    refine q_callV (v := some (.int v)) C hfl mw_X8_undo mi_X8_undo me_X8_undo lk_L_79 hk (rest := []) rfl rfl rfl (by decide) (by decide) rfl (q_dc (z := (1, .invokevirtual 79, 3, 0, 0)) tk_L_undo 1 rfl) (Nat.le_of_ble_eq_true rfl) ⟨(Nat.le_of_ble_eq_true rfl), (Nat.le_of_ble_eq_true rfl)⟩ ⟨(Nat.le_of_ble_eq_true rfl), (Nat.le_of_ble_eq_true rfl)⟩ ?_
    refine q_nrm 4 [.int v] 1 6 rfl rfl rfl rfl ?_
    exact q_iret C hr (q_dc (z := (4, .ireturn, 1, 0, 0)) tk_L_undo 2 rfl) rfl rfl (Nat.le_of_ble_eq_true rfl) (Nat.le_of_ble_eq_true rfl)
  · have hw : W_undo σ = (q_code nc_undo E, τ) := by unfold W_undo; rw [hx]
    have hE9 := hE E (by rw [hx])
    rw [hw]
    rw [hx] at hk
    by_cases e0 : E = "java/lang/IllegalStateException"
    · subst e0
      have hq : q_code nc_undo "java/lang/IllegalStateException" = (-900001) := by decide +kernel
      rw [hq]
      refine q_enterW (own := RL) (F := fun _ => none) (G := fun _ => none) (by decide +kernel) rfl Fok_L Gok_L (Nat.le_of_ble_eq_true rfl) (fun p l e s m args below meth c A hfl C hr hT => ?_)
      refine q_go C tk_L_undo [(0, 1)] [] (pc1 := 1) (σ1 := σ) (lv1 := [(0, .ref 220)]) (st1 := [.ref 220]) rfl trivial ?_
      refine q_callVx C hfl mw_X8_undo mi_X8_undo me_X8_undo lk_L_79 hk (rest := []) rfl rfl rfl (by decide) (by decide) rfl (q_dc (z := (1, .invokevirtual 79, 3, 0, 0)) tk_L_undo 1 rfl) (Nat.le_of_ble_eq_true rfl) ⟨(Nat.le_of_ble_eq_true rfl), (Nat.le_of_ble_eq_true rfl)⟩ ⟨(Nat.le_of_ble_eq_true rfl), (Nat.le_of_ble_eq_true rfl)⟩ ?_
      refine q_catch C [] ⟨0, 4, 5, 15⟩ [] (hT.trans rfl) (by decide +kernel) (fun z hz => by cases hz) (by decide) (by decide) cl_L_15 (by decide +kernel) (i := 1) (len := 1) (q_dc (z := (5, .astore_n 1, 1, 0, 0)) tk_L_undo 3 rfl) (Or.inl ⟨1, rfl, rfl, rfl⟩) (by decide) ?_
      refine q_ldc C ck_L_17 (q_dc (z := (6, .ldc 17, 2, 0, 0)) tk_L_undo 4 rfl) ?_
      exact q_iret C hr (q_dc (z := (8, .ireturn, 1, 0, 0)) tk_L_undo 5 rfl) rfl rfl (Nat.le_of_ble_eq_true rfl) (Nat.le_of_ble_eq_true rfl)
    simp only [nx_undo, List.mem_cons, List.not_mem_nil, or_false] at hE9
    exact absurd hE9 e0
set_option maxRecDepth 100000 in
theorem cw_undo : Cond.codeWith yL_undo cL_undo 2 (some .int) hh_L_undo ∈ q_W := q_t4 63 rfl rfl
set_option maxRecDepth 100000 in
theorem sw_undo : Cond.static yL_undo ∈ q_W := q_t4 62 rfl rfl
abbrev nx_restore : List String := ["java/lang/IllegalStateException"]
abbrev nc_restore : List (String × Int32) := [("java/lang/IllegalStateException", -900001)]
def W_restore (σ : q_M) : Int32 × q_M := match (F_X8_restore σ) with | (.inl v, τ) => (v, τ) | (.inr E, τ) => (q_code nc_restore E, τ)
def tb_L_restore : List q_E := [(0, .aload_n 0, 1, 0, 0), (1, .invokevirtual 82, 3, 0, 0), (4, .ireturn, 1, 0, 0), (5, .astore_n 1, 1, 0, 0), (6, .ldc 17, 2, 0, 0), (8, .ireturn, 1, 0, 0)]
theorem tk_L_restore : q_tb cL_restore 2 tb_L_restore = true := by decide +kernel
abbrev hh_L_restore : List (Nat × Nat × Nat × Nat) := [(0, 4, 5, 15)]
def Q_restore (σ : q_M) : Prop := P_X8_restore σ ∧ (∀ E, (F_X8_restore σ).1 = .inr E → E ∈ nx_restore)
set_option maxRecDepth 100000 in
theorem kw_restore {α β : Nat → Nat} {D : va_G} {κ : Nat → ClassId} (σ : q_M) (hQ : Q_restore σ) : q_CW α β D κ yL_restore cL_restore 2 (some .int) hh_L_restore 7 110 1 6 [.ref 220] σ (some (.int (W_restore σ).1)) (W_restore σ).2 := by
  have hP := hQ.1
  have hE := hQ.2
  have hk := k_X8_restore (α := α) (β := β) (D := D) (κ := κ) σ hP
  rcases hx : (F_X8_restore σ) with ⟨v | E, τ⟩
  · have hw : W_restore σ = (v, τ) := by unfold W_restore; rw [hx]
    rw [hw]
    rw [hx] at hk
    refine q_enterW (own := RL) (F := fun _ => none) (G := fun _ => none) (by decide +kernel) rfl Fok_L Gok_L (Nat.le_of_ble_eq_true rfl) (fun p l e s m args below meth c A hfl C hr hT => ?_)
    refine q_go C tk_L_restore [(0, 1)] [] (pc1 := 1) (σ1 := σ) (lv1 := [(0, .ref 220)]) (st1 := [.ref 220]) rfl trivial ?_
    refine q_callV (v := some (.int v)) C hfl mw_X8_restore mi_X8_restore me_X8_restore lk_L_82 hk (rest := []) rfl rfl rfl (by decide) (by decide) rfl (q_dc (z := (1, .invokevirtual 82, 3, 0, 0)) tk_L_restore 1 rfl) (Nat.le_of_ble_eq_true rfl) ⟨(Nat.le_of_ble_eq_true rfl), (Nat.le_of_ble_eq_true rfl)⟩ ⟨(Nat.le_of_ble_eq_true rfl), (Nat.le_of_ble_eq_true rfl)⟩ ?_
    refine q_nrm 4 [.int v] 1 6 rfl rfl rfl rfl ?_
    exact q_iret C hr (q_dc (z := (4, .ireturn, 1, 0, 0)) tk_L_restore 2 rfl) rfl rfl (Nat.le_of_ble_eq_true rfl) (Nat.le_of_ble_eq_true rfl)
  · have hw : W_restore σ = (q_code nc_restore E, τ) := by unfold W_restore; rw [hx]
    have hE9 := hE E (by rw [hx])
    rw [hw]
    rw [hx] at hk
    by_cases e0 : E = "java/lang/IllegalStateException"
    · subst e0
      have hq : q_code nc_restore "java/lang/IllegalStateException" = (-900001) := by decide +kernel
      rw [hq]
      refine q_enterW (own := RL) (F := fun _ => none) (G := fun _ => none) (by decide +kernel) rfl Fok_L Gok_L (Nat.le_of_ble_eq_true rfl) (fun p l e s m args below meth c A hfl C hr hT => ?_)
      refine q_go C tk_L_restore [(0, 1)] [] (pc1 := 1) (σ1 := σ) (lv1 := [(0, .ref 220)]) (st1 := [.ref 220]) rfl trivial ?_
      refine q_callVx C hfl mw_X8_restore mi_X8_restore me_X8_restore lk_L_82 hk (rest := []) rfl rfl rfl (by decide) (by decide) rfl (q_dc (z := (1, .invokevirtual 82, 3, 0, 0)) tk_L_restore 1 rfl) (Nat.le_of_ble_eq_true rfl) ⟨(Nat.le_of_ble_eq_true rfl), (Nat.le_of_ble_eq_true rfl)⟩ ⟨(Nat.le_of_ble_eq_true rfl), (Nat.le_of_ble_eq_true rfl)⟩ ?_
      refine q_catch C [] ⟨0, 4, 5, 15⟩ [] (hT.trans rfl) (by decide +kernel) (fun z hz => by cases hz) (by decide) (by decide) cl_L_15 (by decide +kernel) (i := 1) (len := 1) (q_dc (z := (5, .astore_n 1, 1, 0, 0)) tk_L_restore 3 rfl) (Or.inl ⟨1, rfl, rfl, rfl⟩) (by decide) ?_
      refine q_ldc C ck_L_17 (q_dc (z := (6, .ldc 17, 2, 0, 0)) tk_L_restore 4 rfl) ?_
      exact q_iret C hr (q_dc (z := (8, .ireturn, 1, 0, 0)) tk_L_restore 5 rfl) rfl rfl (Nat.le_of_ble_eq_true rfl) (Nat.le_of_ble_eq_true rfl)
    simp only [nx_restore, List.mem_cons, List.not_mem_nil, or_false] at hE9
    exact absurd hE9 e0
set_option maxRecDepth 100000 in
theorem cw_restore : Cond.codeWith yL_restore cL_restore 2 (some .int) hh_L_restore ∈ q_W := q_t4 75 rfl rfl
set_option maxRecDepth 100000 in
theorem sw_restore : Cond.static yL_restore ∈ q_W := q_t4 74 rfl rfl
abbrev nx_protest : List String := ["java/lang/IndexOutOfBoundsException", "java/lang/IllegalArgumentException", "java/lang/IllegalStateException"]
abbrev nc_protest : List (String × Int32) := [("java/lang/IndexOutOfBoundsException", -900001), ("java/lang/IllegalArgumentException", -900002), ("java/lang/IllegalStateException", -900003)]
def W_protest (g0 : Int32) (g1 : Int32) (g2 : Int32) (σ : q_M) : Int32 × q_M := match (F_X8_protest g0 g1 g2 σ) with | (.inl v, τ) => ((if v = 0 then 0 else 1), τ) | (.inr E, τ) => (q_code nc_protest E, τ)
def tb_L_protest : List q_E := [(0, .aload_n 0, 1, 0, 0), (1, .iload_n 1, 1, 0, 0), (2, .iload_n 2, 1, 0, 0), (3, .iload_n 3, 1, 0, 0), (4, .invokevirtual 85, 3, 0, 0), (7, .ifCond .eq 7, 3, 0, 14), (10, .iconst 1, 1, 1, 0), (11, .goto 4, 3, 0, 15), (14, .iconst 0, 1, 0, 0), (15, .ireturn, 1, 0, 0), (16, .astore 4, 2, 0, 0), (18, .ldc 17, 2, 0, 0), (20, .ireturn, 1, 0, 0), (21, .astore 4, 2, 0, 0), (23, .ldc 26, 2, 0, 0), (25, .ireturn, 1, 0, 0), (26, .astore 4, 2, 0, 0), (28, .ldc 27, 2, 0, 0), (30, .ireturn, 1, 0, 0)]
theorem tk_L_protest : q_tb cL_protest 5 tb_L_protest = true := by decide +kernel
abbrev hh_L_protest : List (Nat × Nat × Nat × Nat) := [(0, 15, 16, 22), (0, 15, 21, 24), (0, 15, 26, 15)]
def Q_protest (g0 : Int32) (g1 : Int32) (g2 : Int32) (σ : q_M) : Prop := P_X8_protest g0 g1 g2 σ ∧ (∀ E, (F_X8_protest g0 g1 g2 σ).1 = .inr E → E ∈ nx_protest)
set_option maxRecDepth 100000 in
theorem kw_protest {α β : Nat → Nat} {D : va_G} {κ : Nat → ClassId} (g0 : Int32) (g1 : Int32) (g2 : Int32) (σ : q_M) (hQ : Q_protest g0 g1 g2 σ) : q_CW α β D κ yL_protest cL_protest 5 (some .int) hh_L_protest 8 135 3 18 [.ref 220, .int g0, .int g1, .int g2] σ (some (.int (W_protest g0 g1 g2 σ).1)) (W_protest g0 g1 g2 σ).2 := by
  have hP := hQ.1
  have hE := hQ.2
  have hk := k_X8_protest (α := α) (β := β) (D := D) (κ := κ) g0 g1 g2 σ hP
  rcases hx : (F_X8_protest g0 g1 g2 σ) with ⟨v | E, τ⟩
  · have hw : W_protest g0 g1 g2 σ = ((if v = 0 then 0 else 1), τ) := by unfold W_protest; rw [hx]
    rw [hw]
    rw [hx] at hk
    refine q_enterW (own := RL) (F := fun _ => none) (G := fun _ => none) (by decide +kernel) rfl Fok_L Gok_L (Nat.le_of_ble_eq_true rfl) (fun p l e s m args below meth c A hfl C hr hT => ?_)
    refine q_go C tk_L_protest [(0, 4)] [] (pc1 := 4) (σ1 := σ) (lv1 := [(0, .ref 220), (1, .int g0), (2, .int g1), (3, .int g2)]) (st1 := [.int g2, .int g1, .int g0, .ref 220]) rfl trivial ?_
    refine q_callV (v := some (.int v)) C hfl mw_X8_protest mi_X8_protest me_X8_protest lk_L_85 hk (rest := []) rfl rfl rfl (by decide) (by decide) rfl (q_dc (z := (4, .invokevirtual 85, 3, 0, 0)) tk_L_protest 4 rfl) (Nat.le_of_ble_eq_true rfl) ⟨(Nat.le_of_ble_eq_true rfl), (Nat.le_of_ble_eq_true rfl)⟩ ⟨(Nat.le_of_ble_eq_true rfl), (Nat.le_of_ble_eq_true rfl)⟩ ?_
    refine q_nrm 7 [.int v] 3 18 rfl rfl rfl rfl ?_
    by_cases c1 : v = 0
    · rw [if_pos c1]
      refine q_go C tk_L_protest [(5, 1), (8, 1)] [true] (pc1 := 15) (σ1 := τ) (lv1 := [(0, .ref 220), (1, .int g0), (2, .int g1), (3, .int g2)]) (st1 := [.int 0]) rfl ⟨c1, trivial⟩ ?_
      exact q_iret C hr (q_dc (z := (15, .ireturn, 1, 0, 0)) tk_L_protest 9 rfl) rfl rfl (Nat.le_of_ble_eq_true rfl) (Nat.le_of_ble_eq_true rfl)
    · rw [if_neg c1]
      refine q_go C tk_L_protest [(5, 3)] [false] (pc1 := 15) (σ1 := τ) (lv1 := [(0, .ref 220), (1, .int g0), (2, .int g1), (3, .int g2)]) (st1 := [.int 1]) rfl ⟨c1, trivial⟩ ?_
      exact q_iret C hr (q_dc (z := (15, .ireturn, 1, 0, 0)) tk_L_protest 9 rfl) rfl rfl (Nat.le_of_ble_eq_true rfl) (Nat.le_of_ble_eq_true rfl)
  · have hw : W_protest g0 g1 g2 σ = (q_code nc_protest E, τ) := by unfold W_protest; rw [hx]
    have hE9 := hE E (by rw [hx])
    rw [hw]
    rw [hx] at hk
    by_cases e0 : E = "java/lang/IndexOutOfBoundsException"
    · subst e0
      have hq : q_code nc_protest "java/lang/IndexOutOfBoundsException" = (-900001) := by decide +kernel
      rw [hq]
      refine q_enterW (own := RL) (F := fun _ => none) (G := fun _ => none) (by decide +kernel) rfl Fok_L Gok_L (Nat.le_of_ble_eq_true rfl) (fun p l e s m args below meth c A hfl C hr hT => ?_)
      refine q_go C tk_L_protest [(0, 4)] [] (pc1 := 4) (σ1 := σ) (lv1 := [(0, .ref 220), (1, .int g0), (2, .int g1), (3, .int g2)]) (st1 := [.int g2, .int g1, .int g0, .ref 220]) rfl trivial ?_
      refine q_callVx C hfl mw_X8_protest mi_X8_protest me_X8_protest lk_L_85 hk (rest := []) rfl rfl rfl (by decide) (by decide) rfl (q_dc (z := (4, .invokevirtual 85, 3, 0, 0)) tk_L_protest 4 rfl) (Nat.le_of_ble_eq_true rfl) ⟨(Nat.le_of_ble_eq_true rfl), (Nat.le_of_ble_eq_true rfl)⟩ ⟨(Nat.le_of_ble_eq_true rfl), (Nat.le_of_ble_eq_true rfl)⟩ ?_
      refine q_catch C [] ⟨0, 15, 16, 22⟩ [⟨0, 15, 21, 24⟩, ⟨0, 15, 26, 15⟩] (hT.trans rfl) (by decide +kernel) (fun z hz => by cases hz) (by decide) (by decide) cl_L_22 (by decide +kernel) (i := 4) (len := 2) (q_dc (z := (16, .astore 4, 2, 0, 0)) tk_L_protest 10 rfl) (Or.inr ⟨rfl, rfl⟩) (by decide) ?_
      refine q_ldc C ck_L_17 (q_dc (z := (18, .ldc 17, 2, 0, 0)) tk_L_protest 11 rfl) ?_
      exact q_iret C hr (q_dc (z := (20, .ireturn, 1, 0, 0)) tk_L_protest 12 rfl) rfl rfl (Nat.le_of_ble_eq_true rfl) (Nat.le_of_ble_eq_true rfl)
    by_cases e1 : E = "java/lang/IllegalArgumentException"
    · subst e1
      have hq : q_code nc_protest "java/lang/IllegalArgumentException" = (-900002) := by decide +kernel
      rw [hq]
      refine q_enterW (own := RL) (F := fun _ => none) (G := fun _ => none) (by decide +kernel) rfl Fok_L Gok_L (Nat.le_of_ble_eq_true rfl) (fun p l e s m args below meth c A hfl C hr hT => ?_)
      refine q_go C tk_L_protest [(0, 4)] [] (pc1 := 4) (σ1 := σ) (lv1 := [(0, .ref 220), (1, .int g0), (2, .int g1), (3, .int g2)]) (st1 := [.int g2, .int g1, .int g0, .ref 220]) rfl trivial ?_
      refine q_callVx C hfl mw_X8_protest mi_X8_protest me_X8_protest lk_L_85 hk (rest := []) rfl rfl rfl (by decide) (by decide) rfl (q_dc (z := (4, .invokevirtual 85, 3, 0, 0)) tk_L_protest 4 rfl) (Nat.le_of_ble_eq_true rfl) ⟨(Nat.le_of_ble_eq_true rfl), (Nat.le_of_ble_eq_true rfl)⟩ ⟨(Nat.le_of_ble_eq_true rfl), (Nat.le_of_ble_eq_true rfl)⟩ ?_
      refine q_catch C [⟨0, 15, 16, 22⟩] ⟨0, 15, 21, 24⟩ [⟨0, 15, 26, 15⟩] (hT.trans rfl) (by decide +kernel) (fun z hz => by simp only [List.mem_cons, List.not_mem_nil, or_false] at hz; rcases hz with rfl <;> first | exact ⟨by decide, _, (by decide +kernel : "java/lang/IndexOutOfBoundsException" ∈ q_XS), (by decide +kernel), cl_L_22⟩) (by decide) (by decide) cl_L_24 (by decide +kernel) (i := 4) (len := 2) (q_dc (z := (21, .astore 4, 2, 0, 0)) tk_L_protest 13 rfl) (Or.inr ⟨rfl, rfl⟩) (by decide) ?_
      refine q_ldc C ck_L_26 (q_dc (z := (23, .ldc 26, 2, 0, 0)) tk_L_protest 14 rfl) ?_
      exact q_iret C hr (q_dc (z := (25, .ireturn, 1, 0, 0)) tk_L_protest 15 rfl) rfl rfl (Nat.le_of_ble_eq_true rfl) (Nat.le_of_ble_eq_true rfl)
    by_cases e2 : E = "java/lang/IllegalStateException"
    · subst e2
      have hq : q_code nc_protest "java/lang/IllegalStateException" = (-900003) := by decide +kernel
      rw [hq]
      refine q_enterW (own := RL) (F := fun _ => none) (G := fun _ => none) (by decide +kernel) rfl Fok_L Gok_L (Nat.le_of_ble_eq_true rfl) (fun p l e s m args below meth c A hfl C hr hT => ?_)
      refine q_go C tk_L_protest [(0, 4)] [] (pc1 := 4) (σ1 := σ) (lv1 := [(0, .ref 220), (1, .int g0), (2, .int g1), (3, .int g2)]) (st1 := [.int g2, .int g1, .int g0, .ref 220]) rfl trivial ?_
      refine q_callVx C hfl mw_X8_protest mi_X8_protest me_X8_protest lk_L_85 hk (rest := []) rfl rfl rfl (by decide) (by decide) rfl (q_dc (z := (4, .invokevirtual 85, 3, 0, 0)) tk_L_protest 4 rfl) (Nat.le_of_ble_eq_true rfl) ⟨(Nat.le_of_ble_eq_true rfl), (Nat.le_of_ble_eq_true rfl)⟩ ⟨(Nat.le_of_ble_eq_true rfl), (Nat.le_of_ble_eq_true rfl)⟩ ?_
      refine q_catch C [⟨0, 15, 16, 22⟩, ⟨0, 15, 21, 24⟩] ⟨0, 15, 26, 15⟩ [] (hT.trans rfl) (by decide +kernel) (fun z hz => by simp only [List.mem_cons, List.not_mem_nil, or_false] at hz; rcases hz with rfl | rfl <;> first | exact ⟨by decide, _, (by decide +kernel : "java/lang/IndexOutOfBoundsException" ∈ q_XS), (by decide +kernel), cl_L_22⟩ | exact ⟨by decide, _, (by decide +kernel : "java/lang/IllegalArgumentException" ∈ q_XS), (by decide +kernel), cl_L_24⟩) (by decide) (by decide) cl_L_15 (by decide +kernel) (i := 4) (len := 2) (q_dc (z := (26, .astore 4, 2, 0, 0)) tk_L_protest 16 rfl) (Or.inr ⟨rfl, rfl⟩) (by decide) ?_
      refine q_ldc C ck_L_27 (q_dc (z := (28, .ldc 27, 2, 0, 0)) tk_L_protest 17 rfl) ?_
      exact q_iret C hr (q_dc (z := (30, .ireturn, 1, 0, 0)) tk_L_protest 18 rfl) rfl rfl (Nat.le_of_ble_eq_true rfl) (Nat.le_of_ble_eq_true rfl)
    simp only [nx_protest, List.mem_cons, List.not_mem_nil, or_false] at hE9
    rcases hE9 with h | h | h
    · exact absurd h e0
    · exact absurd h e1
    · exact absurd h e2
set_option maxRecDepth 100000 in
theorem cw_protest : Cond.codeWith yL_protest cL_protest 5 (some .int) hh_L_protest ∈ q_W := q_t4 83 rfl rfl
set_option maxRecDepth 100000 in
theorem sw_protest : Cond.static yL_protest ∈ q_W := q_t4 82 rfl rfl
