/-! The law's helpers. -/
abbrev nx_addTeam : List String := ["java/lang/IllegalStateException"]
def W_addTeam (σ : q_M) : Int32 × q_M := match (F_X8_addTeam σ) with | (.inl v, τ) => (0, (q_up τ 237 0 v)) | (.inr E, τ) => (q_code nx_addTeam E, τ)
def tb_L_addTeam : List q_E := [(0, .aload_n 1, 1, 0, 0), (1, .iconst 0, 1, 0, 0), (2, .aload_n 0, 1, 0, 0), (3, .invokevirtual 7, 3, 0, 0), (6, .i2l, 1, 0, 0), (7, .lastore, 1, 0, 0), (8, .goto 6, 3, 0, 14), (11, .astore_n 2, 1, 0, 0), (12, .iconst 1, 1, 1, 0), (13, .ireturn, 1, 0, 0), (14, .iconst 0, 1, 0, 0), (15, .ireturn, 1, 0, 0)]
theorem tk_L_addTeam : q_tb cL_addTeam 3 tb_L_addTeam = true := by decide +kernel
abbrev hh_L_addTeam : List (Nat × Nat × Nat × Nat) := [(0, 8, 11, 13)]
set_option maxRecDepth 100000 in
theorem kw_addTeam {α β : Nat → Nat} {D : va_G} {κ : Nat → ClassId} (σ : q_M) (hP : P_X8_addTeam σ) (hE : ∀ E, (F_X8_addTeam σ).1 = .inr E → E ∈ nx_addTeam) : q_CW α β D κ yL_addTeam cL_addTeam 3 (some .int) hh_L_addTeam 8 130 1 6 [.ref 220, .ref 237] σ (some (.int (W_addTeam σ).1)) (W_addTeam σ).2 := by
  have hk := k_X8_addTeam (α := α) (β := β) (D := D) (κ := κ) σ hP
  rcases hx : (F_X8_addTeam σ) with ⟨v | E, τ⟩
  · have hw : W_addTeam σ = (0, (q_up τ 237 0 v)) := by unfold W_addTeam; rw [hx]
    rw [hw]
    rw [hx] at hk
    refine q_enterW (own := RL) (F := fun _ => none) (G := fun _ => none) (by decide +kernel) rfl Fok_L Gok_L (Nat.le_of_ble_eq_true rfl) (fun p l e s m args below meth c A hfl C hr hT => ?_)
    refine q_go C tk_L_addTeam [(0, 3)] [] (pc1 := 3) (σ1 := σ) (lv1 := [(0, .ref 220), (1, .ref 237)]) (st1 := [.ref 220, .int 0, .ref 237]) rfl trivial ?_
    refine q_callV (v := some (.int v)) C hfl mw_X8_addTeam mi_X8_addTeam me_X8_addTeam lk_L_7 hk (rest := [.int 0, .ref 237]) rfl rfl rfl (by decide) (by decide) rfl (q_dc (z := (3, .invokevirtual 7, 3, 0, 0)) tk_L_addTeam 3 rfl) (Nat.le_of_ble_eq_true rfl) ⟨(Nat.le_of_ble_eq_true rfl), (Nat.le_of_ble_eq_true rfl)⟩ ⟨(Nat.le_of_ble_eq_true rfl), (Nat.le_of_ble_eq_true rfl)⟩ ?_
    refine q_nrm 6 [.int v, .int 0, .ref 237] 1 6 rfl rfl rfl rfl ?_
    refine q_go C tk_L_addTeam [(4, 1)] [] (pc1 := 7) (σ1 := τ) (lv1 := [(0, .ref 220), (1, .ref 237)]) (st1 := [.long v.toInt64, .int 0, .ref 237]) rfl trivial ?_
    refine q_last C (q_dc (z := (7, .lastore, 1, 0, 0)) tk_L_addTeam 5 rfl) ?_
    refine q_go C tk_L_addTeam [(6, 1), (10, 1)] [] (pc1 := 15) (σ1 := (q_up τ 237 0 v)) (lv1 := [(0, .ref 220), (1, .ref 237)]) (st1 := [.int 0]) rfl trivial ?_
    exact q_iret C hr (q_dc (z := (15, .ireturn, 1, 0, 0)) tk_L_addTeam 11 rfl) rfl rfl (Nat.le_of_ble_eq_true rfl) (Nat.le_of_ble_eq_true rfl)
  · have hw : W_addTeam σ = (q_code nx_addTeam E, τ) := by unfold W_addTeam; rw [hx]
    have hE9 := hE E (by rw [hx])
    rw [hw]
    rw [hx] at hk
    by_cases e0 : E = "java/lang/IllegalStateException"
    · subst e0
      have hq : q_code nx_addTeam "java/lang/IllegalStateException" = 1 := by decide +kernel
      rw [hq]
      refine q_enterW (own := RL) (F := fun _ => none) (G := fun _ => none) (by decide +kernel) rfl Fok_L Gok_L (Nat.le_of_ble_eq_true rfl) (fun p l e s m args below meth c A hfl C hr hT => ?_)
      refine q_go C tk_L_addTeam [(0, 3)] [] (pc1 := 3) (σ1 := σ) (lv1 := [(0, .ref 220), (1, .ref 237)]) (st1 := [.ref 220, .int 0, .ref 237]) rfl trivial ?_
      refine q_callVx C hfl mw_X8_addTeam mi_X8_addTeam me_X8_addTeam lk_L_7 hk (rest := [.int 0, .ref 237]) rfl rfl rfl (by decide) (by decide) rfl (q_dc (z := (3, .invokevirtual 7, 3, 0, 0)) tk_L_addTeam 3 rfl) (Nat.le_of_ble_eq_true rfl) ⟨(Nat.le_of_ble_eq_true rfl), (Nat.le_of_ble_eq_true rfl)⟩ ⟨(Nat.le_of_ble_eq_true rfl), (Nat.le_of_ble_eq_true rfl)⟩ ?_
      refine q_catch C [] ⟨0, 8, 11, 13⟩ [] (hT.trans rfl) (by decide +kernel) (fun z hz => by cases hz) (by decide) (by decide) cl_L_13 (by decide +kernel) (i := 2) (len := 1) (q_dc (z := (11, .astore_n 2, 1, 0, 0)) tk_L_addTeam 7 rfl) (Or.inl ⟨2, rfl, rfl, rfl⟩) (by decide) ?_
      refine q_go C tk_L_addTeam [(8, 1)] [] (pc1 := 13) (σ1 := τ) (lv1 := [(0, .ref 220), (1, .ref 237)]) (st1 := [.int 1]) rfl trivial ?_
      exact q_iret C hr (q_dc (z := (13, .ireturn, 1, 0, 0)) tk_L_addTeam 9 rfl) rfl rfl (Nat.le_of_ble_eq_true rfl) (Nat.le_of_ble_eq_true rfl)
    simp only [nx_addTeam, List.mem_cons, List.not_mem_nil, or_false] at hE9
    exact absurd hE9 e0
abbrev nx_setSpeed : List String := ["java/lang/IndexOutOfBoundsException", "java/lang/IllegalArgumentException", "java/lang/IllegalStateException"]
def W_setSpeed (g0 : Int32) (g1 : Int32) (g2 : Int32) (σ : q_M) : Int32 × q_M := match (F_X8_setSpeed g0 g1 g2 σ) with | (.inl v, τ) => (0, (q_up τ 237 0 v)) | (.inr E, τ) => (q_code nx_setSpeed E, τ)
def tb_L_setSpeed : List q_E := [(0, .aload 4, 2, 0, 0), (2, .iconst 0, 1, 0, 0), (3, .aload_n 0, 1, 0, 0), (4, .iload_n 1, 1, 0, 0), (5, .iload_n 2, 1, 0, 0), (6, .iload_n 3, 1, 0, 0), (7, .invokevirtual 15, 3, 0, 0), (10, .i2l, 1, 0, 0), (11, .lastore, 1, 0, 0), (12, .goto 15, 3, 0, 27), (15, .astore 5, 2, 0, 0), (17, .iconst 1, 1, 1, 0), (18, .ireturn, 1, 0, 0), (19, .astore 5, 2, 0, 0), (21, .iconst 2, 1, 2, 0), (22, .ireturn, 1, 0, 0), (23, .astore 5, 2, 0, 0), (25, .iconst 3, 1, 3, 0), (26, .ireturn, 1, 0, 0), (27, .iconst 0, 1, 0, 0), (28, .ireturn, 1, 0, 0)]
theorem tk_L_setSpeed : q_tb cL_setSpeed 6 tb_L_setSpeed = true := by decide +kernel
abbrev hh_L_setSpeed : List (Nat × Nat × Nat × Nat) := [(0, 12, 15, 19), (0, 12, 19, 21), (0, 12, 23, 13)]
set_option maxRecDepth 100000 in
theorem kw_setSpeed {α β : Nat → Nat} {D : va_G} {κ : Nat → ClassId} (g0 : Int32) (g1 : Int32) (g2 : Int32) (σ : q_M) (hP : P_X8_setSpeed g0 g1 g2 σ) (hE : ∀ E, (F_X8_setSpeed g0 g1 g2 σ).1 = .inr E → E ∈ nx_setSpeed) : q_CW α β D κ yL_setSpeed cL_setSpeed 6 (some .int) hh_L_setSpeed 8 135 2 12 [.ref 220, .int g0, .int g1, .int g2, .ref 237] σ (some (.int (W_setSpeed g0 g1 g2 σ).1)) (W_setSpeed g0 g1 g2 σ).2 := by
  have hk := k_X8_setSpeed (α := α) (β := β) (D := D) (κ := κ) g0 g1 g2 σ hP
  rcases hx : (F_X8_setSpeed g0 g1 g2 σ) with ⟨v | E, τ⟩
  · have hw : W_setSpeed g0 g1 g2 σ = (0, (q_up τ 237 0 v)) := by unfold W_setSpeed; rw [hx]
    rw [hw]
    rw [hx] at hk
    refine q_enterW (own := RL) (F := fun _ => none) (G := fun _ => none) (by decide +kernel) rfl Fok_L Gok_L (Nat.le_of_ble_eq_true rfl) (fun p l e s m args below meth c A hfl C hr hT => ?_)
    refine q_go C tk_L_setSpeed [(0, 6)] [] (pc1 := 7) (σ1 := σ) (lv1 := [(0, .ref 220), (1, .int g0), (2, .int g1), (3, .int g2), (4, .ref 237)]) (st1 := [.int g2, .int g1, .int g0, .ref 220, .int 0, .ref 237]) rfl trivial ?_
    refine q_callV (v := some (.int v)) C hfl mw_X8_setSpeed mi_X8_setSpeed me_X8_setSpeed lk_L_15 hk (rest := [.int 0, .ref 237]) rfl rfl rfl (by decide) (by decide) rfl (q_dc (z := (7, .invokevirtual 15, 3, 0, 0)) tk_L_setSpeed 6 rfl) (Nat.le_of_ble_eq_true rfl) ⟨(Nat.le_of_ble_eq_true rfl), (Nat.le_of_ble_eq_true rfl)⟩ ⟨(Nat.le_of_ble_eq_true rfl), (Nat.le_of_ble_eq_true rfl)⟩ ?_
    refine q_nrm 10 [.int v, .int 0, .ref 237] 2 12 rfl rfl rfl rfl ?_
    refine q_go C tk_L_setSpeed [(7, 1)] [] (pc1 := 11) (σ1 := τ) (lv1 := [(0, .ref 220), (1, .int g0), (2, .int g1), (3, .int g2), (4, .ref 237)]) (st1 := [.long v.toInt64, .int 0, .ref 237]) rfl trivial ?_
    refine q_last C (q_dc (z := (11, .lastore, 1, 0, 0)) tk_L_setSpeed 8 rfl) ?_
    refine q_go C tk_L_setSpeed [(9, 1), (19, 1)] [] (pc1 := 28) (σ1 := (q_up τ 237 0 v)) (lv1 := [(0, .ref 220), (1, .int g0), (2, .int g1), (3, .int g2), (4, .ref 237)]) (st1 := [.int 0]) rfl trivial ?_
    exact q_iret C hr (q_dc (z := (28, .ireturn, 1, 0, 0)) tk_L_setSpeed 20 rfl) rfl rfl (Nat.le_of_ble_eq_true rfl) (Nat.le_of_ble_eq_true rfl)
  · have hw : W_setSpeed g0 g1 g2 σ = (q_code nx_setSpeed E, τ) := by unfold W_setSpeed; rw [hx]
    have hE9 := hE E (by rw [hx])
    rw [hw]
    rw [hx] at hk
    by_cases e0 : E = "java/lang/IndexOutOfBoundsException"
    · subst e0
      have hq : q_code nx_setSpeed "java/lang/IndexOutOfBoundsException" = 1 := by decide +kernel
      rw [hq]
      refine q_enterW (own := RL) (F := fun _ => none) (G := fun _ => none) (by decide +kernel) rfl Fok_L Gok_L (Nat.le_of_ble_eq_true rfl) (fun p l e s m args below meth c A hfl C hr hT => ?_)
      refine q_go C tk_L_setSpeed [(0, 6)] [] (pc1 := 7) (σ1 := σ) (lv1 := [(0, .ref 220), (1, .int g0), (2, .int g1), (3, .int g2), (4, .ref 237)]) (st1 := [.int g2, .int g1, .int g0, .ref 220, .int 0, .ref 237]) rfl trivial ?_
      refine q_callVx C hfl mw_X8_setSpeed mi_X8_setSpeed me_X8_setSpeed lk_L_15 hk (rest := [.int 0, .ref 237]) rfl rfl rfl (by decide) (by decide) rfl (q_dc (z := (7, .invokevirtual 15, 3, 0, 0)) tk_L_setSpeed 6 rfl) (Nat.le_of_ble_eq_true rfl) ⟨(Nat.le_of_ble_eq_true rfl), (Nat.le_of_ble_eq_true rfl)⟩ ⟨(Nat.le_of_ble_eq_true rfl), (Nat.le_of_ble_eq_true rfl)⟩ ?_
      refine q_catch C [] ⟨0, 12, 15, 19⟩ [⟨0, 12, 19, 21⟩, ⟨0, 12, 23, 13⟩] (hT.trans rfl) (by decide +kernel) (fun z hz => by cases hz) (by decide) (by decide) cl_L_19 (by decide +kernel) (i := 5) (len := 2) (q_dc (z := (15, .astore 5, 2, 0, 0)) tk_L_setSpeed 10 rfl) (Or.inr ⟨rfl, rfl⟩) (by decide) ?_
      refine q_go C tk_L_setSpeed [(11, 1)] [] (pc1 := 18) (σ1 := τ) (lv1 := [(0, .ref 220), (1, .int g0), (2, .int g1), (3, .int g2), (4, .ref 237)]) (st1 := [.int 1]) rfl trivial ?_
      exact q_iret C hr (q_dc (z := (18, .ireturn, 1, 0, 0)) tk_L_setSpeed 12 rfl) rfl rfl (Nat.le_of_ble_eq_true rfl) (Nat.le_of_ble_eq_true rfl)
    by_cases e1 : E = "java/lang/IllegalArgumentException"
    · subst e1
      have hq : q_code nx_setSpeed "java/lang/IllegalArgumentException" = 2 := by decide +kernel
      rw [hq]
      refine q_enterW (own := RL) (F := fun _ => none) (G := fun _ => none) (by decide +kernel) rfl Fok_L Gok_L (Nat.le_of_ble_eq_true rfl) (fun p l e s m args below meth c A hfl C hr hT => ?_)
      refine q_go C tk_L_setSpeed [(0, 6)] [] (pc1 := 7) (σ1 := σ) (lv1 := [(0, .ref 220), (1, .int g0), (2, .int g1), (3, .int g2), (4, .ref 237)]) (st1 := [.int g2, .int g1, .int g0, .ref 220, .int 0, .ref 237]) rfl trivial ?_
      refine q_callVx C hfl mw_X8_setSpeed mi_X8_setSpeed me_X8_setSpeed lk_L_15 hk (rest := [.int 0, .ref 237]) rfl rfl rfl (by decide) (by decide) rfl (q_dc (z := (7, .invokevirtual 15, 3, 0, 0)) tk_L_setSpeed 6 rfl) (Nat.le_of_ble_eq_true rfl) ⟨(Nat.le_of_ble_eq_true rfl), (Nat.le_of_ble_eq_true rfl)⟩ ⟨(Nat.le_of_ble_eq_true rfl), (Nat.le_of_ble_eq_true rfl)⟩ ?_
      refine q_catch C [⟨0, 12, 15, 19⟩] ⟨0, 12, 19, 21⟩ [⟨0, 12, 23, 13⟩] (hT.trans rfl) (by decide +kernel) (fun z hz => by simp only [List.mem_cons, List.not_mem_nil, or_false] at hz; rcases hz with rfl <;> first | exact ⟨by decide, _, (by decide +kernel : "java/lang/IndexOutOfBoundsException" ∈ q_XS), (by decide +kernel), cl_L_19⟩) (by decide) (by decide) cl_L_21 (by decide +kernel) (i := 5) (len := 2) (q_dc (z := (19, .astore 5, 2, 0, 0)) tk_L_setSpeed 13 rfl) (Or.inr ⟨rfl, rfl⟩) (by decide) ?_
      refine q_go C tk_L_setSpeed [(14, 1)] [] (pc1 := 22) (σ1 := τ) (lv1 := [(0, .ref 220), (1, .int g0), (2, .int g1), (3, .int g2), (4, .ref 237)]) (st1 := [.int 2]) rfl trivial ?_
      exact q_iret C hr (q_dc (z := (22, .ireturn, 1, 0, 0)) tk_L_setSpeed 15 rfl) rfl rfl (Nat.le_of_ble_eq_true rfl) (Nat.le_of_ble_eq_true rfl)
    by_cases e2 : E = "java/lang/IllegalStateException"
    · subst e2
      have hq : q_code nx_setSpeed "java/lang/IllegalStateException" = 3 := by decide +kernel
      rw [hq]
      refine q_enterW (own := RL) (F := fun _ => none) (G := fun _ => none) (by decide +kernel) rfl Fok_L Gok_L (Nat.le_of_ble_eq_true rfl) (fun p l e s m args below meth c A hfl C hr hT => ?_)
      refine q_go C tk_L_setSpeed [(0, 6)] [] (pc1 := 7) (σ1 := σ) (lv1 := [(0, .ref 220), (1, .int g0), (2, .int g1), (3, .int g2), (4, .ref 237)]) (st1 := [.int g2, .int g1, .int g0, .ref 220, .int 0, .ref 237]) rfl trivial ?_
      refine q_callVx C hfl mw_X8_setSpeed mi_X8_setSpeed me_X8_setSpeed lk_L_15 hk (rest := [.int 0, .ref 237]) rfl rfl rfl (by decide) (by decide) rfl (q_dc (z := (7, .invokevirtual 15, 3, 0, 0)) tk_L_setSpeed 6 rfl) (Nat.le_of_ble_eq_true rfl) ⟨(Nat.le_of_ble_eq_true rfl), (Nat.le_of_ble_eq_true rfl)⟩ ⟨(Nat.le_of_ble_eq_true rfl), (Nat.le_of_ble_eq_true rfl)⟩ ?_
      refine q_catch C [⟨0, 12, 15, 19⟩, ⟨0, 12, 19, 21⟩] ⟨0, 12, 23, 13⟩ [] (hT.trans rfl) (by decide +kernel) (fun z hz => by simp only [List.mem_cons, List.not_mem_nil, or_false] at hz; rcases hz with rfl | rfl <;> first | exact ⟨by decide, _, (by decide +kernel : "java/lang/IndexOutOfBoundsException" ∈ q_XS), (by decide +kernel), cl_L_19⟩ | exact ⟨by decide, _, (by decide +kernel : "java/lang/IllegalArgumentException" ∈ q_XS), (by decide +kernel), cl_L_21⟩) (by decide) (by decide) cl_L_13 (by decide +kernel) (i := 5) (len := 2) (q_dc (z := (23, .astore 5, 2, 0, 0)) tk_L_setSpeed 16 rfl) (Or.inr ⟨rfl, rfl⟩) (by decide) ?_
      refine q_go C tk_L_setSpeed [(17, 1)] [] (pc1 := 26) (σ1 := τ) (lv1 := [(0, .ref 220), (1, .int g0), (2, .int g1), (3, .int g2), (4, .ref 237)]) (st1 := [.int 3]) rfl trivial ?_
      exact q_iret C hr (q_dc (z := (26, .ireturn, 1, 0, 0)) tk_L_setSpeed 18 rfl) rfl rfl (Nat.le_of_ble_eq_true rfl) (Nat.le_of_ble_eq_true rfl)
    simp only [nx_setSpeed, List.mem_cons, List.not_mem_nil, or_false] at hE9
    rcases hE9 with h | h | h
    · exact absurd h e0
    · exact absurd h e1
    · exact absurd h e2
abbrev nx_setLength : List String := ["java/lang/IllegalArgumentException", "java/lang/IllegalStateException"]
def W_setLength (g0 : Int32) (σ : q_M) : Int32 × q_M := match (F_X8_setLength g0 σ) with | (.inl v, τ) => (0, (q_up τ 237 0 v)) | (.inr E, τ) => (q_code nx_setLength E, τ)
def tb_L_setLength : List q_E := [(0, .aload_n 2, 1, 0, 0), (1, .iconst 0, 1, 0, 0), (2, .aload_n 0, 1, 0, 0), (3, .iload_n 1, 1, 0, 0), (4, .invokevirtual 23, 3, 0, 0), (7, .i2l, 1, 0, 0), (8, .lastore, 1, 0, 0), (9, .goto 9, 3, 0, 18), (12, .astore_n 3, 1, 0, 0), (13, .iconst 1, 1, 1, 0), (14, .ireturn, 1, 0, 0), (15, .astore_n 3, 1, 0, 0), (16, .iconst 2, 1, 2, 0), (17, .ireturn, 1, 0, 0), (18, .iconst 0, 1, 0, 0), (19, .ireturn, 1, 0, 0)]
theorem tk_L_setLength : q_tb cL_setLength 4 tb_L_setLength = true := by decide +kernel
abbrev hh_L_setLength : List (Nat × Nat × Nat × Nat) := [(0, 9, 12, 21), (0, 9, 15, 13)]
set_option maxRecDepth 100000 in
theorem kw_setLength {α β : Nat → Nat} {D : va_G} {κ : Nat → ClassId} (g0 : Int32) (σ : q_M) (hP : P_X8_setLength g0 σ) (hE : ∀ E, (F_X8_setLength g0 σ).1 = .inr E → E ∈ nx_setLength) : q_CW α β D κ yL_setLength cL_setLength 4 (some .int) hh_L_setLength 8 132 1 6 [.ref 220, .int g0, .ref 237] σ (some (.int (W_setLength g0 σ).1)) (W_setLength g0 σ).2 := by
  have hk := k_X8_setLength (α := α) (β := β) (D := D) (κ := κ) g0 σ hP
  rcases hx : (F_X8_setLength g0 σ) with ⟨v | E, τ⟩
  · have hw : W_setLength g0 σ = (0, (q_up τ 237 0 v)) := by unfold W_setLength; rw [hx]
    rw [hw]
    rw [hx] at hk
    refine q_enterW (own := RL) (F := fun _ => none) (G := fun _ => none) (by decide +kernel) rfl Fok_L Gok_L (Nat.le_of_ble_eq_true rfl) (fun p l e s m args below meth c A hfl C hr hT => ?_)
    refine q_go C tk_L_setLength [(0, 4)] [] (pc1 := 4) (σ1 := σ) (lv1 := [(0, .ref 220), (1, .int g0), (2, .ref 237)]) (st1 := [.int g0, .ref 220, .int 0, .ref 237]) rfl trivial ?_
    refine q_callV (v := some (.int v)) C hfl mw_X8_setLength mi_X8_setLength me_X8_setLength lk_L_23 hk (rest := [.int 0, .ref 237]) rfl rfl rfl (by decide) (by decide) rfl (q_dc (z := (4, .invokevirtual 23, 3, 0, 0)) tk_L_setLength 4 rfl) (Nat.le_of_ble_eq_true rfl) ⟨(Nat.le_of_ble_eq_true rfl), (Nat.le_of_ble_eq_true rfl)⟩ ⟨(Nat.le_of_ble_eq_true rfl), (Nat.le_of_ble_eq_true rfl)⟩ ?_
    refine q_nrm 7 [.int v, .int 0, .ref 237] 1 6 rfl rfl rfl rfl ?_
    refine q_go C tk_L_setLength [(5, 1)] [] (pc1 := 8) (σ1 := τ) (lv1 := [(0, .ref 220), (1, .int g0), (2, .ref 237)]) (st1 := [.long v.toInt64, .int 0, .ref 237]) rfl trivial ?_
    refine q_last C (q_dc (z := (8, .lastore, 1, 0, 0)) tk_L_setLength 6 rfl) ?_
    refine q_go C tk_L_setLength [(7, 1), (14, 1)] [] (pc1 := 19) (σ1 := (q_up τ 237 0 v)) (lv1 := [(0, .ref 220), (1, .int g0), (2, .ref 237)]) (st1 := [.int 0]) rfl trivial ?_
    exact q_iret C hr (q_dc (z := (19, .ireturn, 1, 0, 0)) tk_L_setLength 15 rfl) rfl rfl (Nat.le_of_ble_eq_true rfl) (Nat.le_of_ble_eq_true rfl)
  · have hw : W_setLength g0 σ = (q_code nx_setLength E, τ) := by unfold W_setLength; rw [hx]
    have hE9 := hE E (by rw [hx])
    rw [hw]
    rw [hx] at hk
    by_cases e0 : E = "java/lang/IllegalArgumentException"
    · subst e0
      have hq : q_code nx_setLength "java/lang/IllegalArgumentException" = 1 := by decide +kernel
      rw [hq]
      refine q_enterW (own := RL) (F := fun _ => none) (G := fun _ => none) (by decide +kernel) rfl Fok_L Gok_L (Nat.le_of_ble_eq_true rfl) (fun p l e s m args below meth c A hfl C hr hT => ?_)
      refine q_go C tk_L_setLength [(0, 4)] [] (pc1 := 4) (σ1 := σ) (lv1 := [(0, .ref 220), (1, .int g0), (2, .ref 237)]) (st1 := [.int g0, .ref 220, .int 0, .ref 237]) rfl trivial ?_
      refine q_callVx C hfl mw_X8_setLength mi_X8_setLength me_X8_setLength lk_L_23 hk (rest := [.int 0, .ref 237]) rfl rfl rfl (by decide) (by decide) rfl (q_dc (z := (4, .invokevirtual 23, 3, 0, 0)) tk_L_setLength 4 rfl) (Nat.le_of_ble_eq_true rfl) ⟨(Nat.le_of_ble_eq_true rfl), (Nat.le_of_ble_eq_true rfl)⟩ ⟨(Nat.le_of_ble_eq_true rfl), (Nat.le_of_ble_eq_true rfl)⟩ ?_
      refine q_catch C [] ⟨0, 9, 12, 21⟩ [⟨0, 9, 15, 13⟩] (hT.trans rfl) (by decide +kernel) (fun z hz => by cases hz) (by decide) (by decide) cl_L_21 (by decide +kernel) (i := 3) (len := 1) (q_dc (z := (12, .astore_n 3, 1, 0, 0)) tk_L_setLength 8 rfl) (Or.inl ⟨3, rfl, rfl, rfl⟩) (by decide) ?_
      refine q_go C tk_L_setLength [(9, 1)] [] (pc1 := 14) (σ1 := τ) (lv1 := [(0, .ref 220), (1, .int g0), (2, .ref 237)]) (st1 := [.int 1]) rfl trivial ?_
      exact q_iret C hr (q_dc (z := (14, .ireturn, 1, 0, 0)) tk_L_setLength 10 rfl) rfl rfl (Nat.le_of_ble_eq_true rfl) (Nat.le_of_ble_eq_true rfl)
    by_cases e1 : E = "java/lang/IllegalStateException"
    · subst e1
      have hq : q_code nx_setLength "java/lang/IllegalStateException" = 2 := by decide +kernel
      rw [hq]
      refine q_enterW (own := RL) (F := fun _ => none) (G := fun _ => none) (by decide +kernel) rfl Fok_L Gok_L (Nat.le_of_ble_eq_true rfl) (fun p l e s m args below meth c A hfl C hr hT => ?_)
      refine q_go C tk_L_setLength [(0, 4)] [] (pc1 := 4) (σ1 := σ) (lv1 := [(0, .ref 220), (1, .int g0), (2, .ref 237)]) (st1 := [.int g0, .ref 220, .int 0, .ref 237]) rfl trivial ?_
      refine q_callVx C hfl mw_X8_setLength mi_X8_setLength me_X8_setLength lk_L_23 hk (rest := [.int 0, .ref 237]) rfl rfl rfl (by decide) (by decide) rfl (q_dc (z := (4, .invokevirtual 23, 3, 0, 0)) tk_L_setLength 4 rfl) (Nat.le_of_ble_eq_true rfl) ⟨(Nat.le_of_ble_eq_true rfl), (Nat.le_of_ble_eq_true rfl)⟩ ⟨(Nat.le_of_ble_eq_true rfl), (Nat.le_of_ble_eq_true rfl)⟩ ?_
      refine q_catch C [⟨0, 9, 12, 21⟩] ⟨0, 9, 15, 13⟩ [] (hT.trans rfl) (by decide +kernel) (fun z hz => by simp only [List.mem_cons, List.not_mem_nil, or_false] at hz; rcases hz with rfl <;> first | exact ⟨by decide, _, (by decide +kernel : "java/lang/IllegalArgumentException" ∈ q_XS), (by decide +kernel), cl_L_21⟩) (by decide) (by decide) cl_L_13 (by decide +kernel) (i := 3) (len := 1) (q_dc (z := (15, .astore_n 3, 1, 0, 0)) tk_L_setLength 11 rfl) (Or.inl ⟨3, rfl, rfl, rfl⟩) (by decide) ?_
      refine q_go C tk_L_setLength [(12, 1)] [] (pc1 := 17) (σ1 := τ) (lv1 := [(0, .ref 220), (1, .int g0), (2, .ref 237)]) (st1 := [.int 2]) rfl trivial ?_
      exact q_iret C hr (q_dc (z := (17, .ireturn, 1, 0, 0)) tk_L_setLength 13 rfl) rfl rfl (Nat.le_of_ble_eq_true rfl) (Nat.le_of_ble_eq_true rfl)
    simp only [nx_setLength, List.mem_cons, List.not_mem_nil, or_false] at hE9
    rcases hE9 with h | h
    · exact absurd h e0
    · exact absurd h e1
abbrev nx_drawLanes : List String := ["java/lang/IllegalArgumentException", "java/lang/IllegalStateException"]
def W_drawLanes (g0 : Int32) (σ : q_M) : Int32 × q_M := match (F_X8_drawLanes g0 σ) with | (.inl v, τ) => (0, (q_up τ 237 0 v)) | (.inr E, τ) => (q_code nx_drawLanes E, τ)
def tb_L_drawLanes : List q_E := [(0, .aload_n 2, 1, 0, 0), (1, .iconst 0, 1, 0, 0), (2, .aload_n 0, 1, 0, 0), (3, .iload_n 1, 1, 0, 0), (4, .invokevirtual 27, 3, 0, 0), (7, .i2l, 1, 0, 0), (8, .lastore, 1, 0, 0), (9, .goto 9, 3, 0, 18), (12, .astore_n 3, 1, 0, 0), (13, .iconst 1, 1, 1, 0), (14, .ireturn, 1, 0, 0), (15, .astore_n 3, 1, 0, 0), (16, .iconst 2, 1, 2, 0), (17, .ireturn, 1, 0, 0), (18, .iconst 0, 1, 0, 0), (19, .ireturn, 1, 0, 0)]
theorem tk_L_drawLanes : q_tb cL_drawLanes 4 tb_L_drawLanes = true := by decide +kernel
abbrev hh_L_drawLanes : List (Nat × Nat × Nat × Nat) := [(0, 9, 12, 21), (0, 9, 15, 13)]
set_option maxRecDepth 100000 in
theorem kw_drawLanes {α β : Nat → Nat} {D : va_G} {κ : Nat → ClassId} (g0 : Int32) (σ : q_M) (hP : P_X8_drawLanes g0 σ) (hE : ∀ E, (F_X8_drawLanes g0 σ).1 = .inr E → E ∈ nx_drawLanes) : q_CW α β D κ yL_drawLanes cL_drawLanes 4 (some .int) hh_L_drawLanes 8 133 2 12 [.ref 220, .int g0, .ref 237] σ (some (.int (W_drawLanes g0 σ).1)) (W_drawLanes g0 σ).2 := by
  have hk := k_X8_drawLanes (α := α) (β := β) (D := D) (κ := κ) g0 σ hP
  rcases hx : (F_X8_drawLanes g0 σ) with ⟨v | E, τ⟩
  · have hw : W_drawLanes g0 σ = (0, (q_up τ 237 0 v)) := by unfold W_drawLanes; rw [hx]
    rw [hw]
    rw [hx] at hk
    refine q_enterW (own := RL) (F := fun _ => none) (G := fun _ => none) (by decide +kernel) rfl Fok_L Gok_L (Nat.le_of_ble_eq_true rfl) (fun p l e s m args below meth c A hfl C hr hT => ?_)
    refine q_go C tk_L_drawLanes [(0, 4)] [] (pc1 := 4) (σ1 := σ) (lv1 := [(0, .ref 220), (1, .int g0), (2, .ref 237)]) (st1 := [.int g0, .ref 220, .int 0, .ref 237]) rfl trivial ?_
    refine q_callV (v := some (.int v)) C hfl mw_X8_drawLanes mi_X8_drawLanes me_X8_drawLanes lk_L_27 hk (rest := [.int 0, .ref 237]) rfl rfl rfl (by decide) (by decide) rfl (q_dc (z := (4, .invokevirtual 27, 3, 0, 0)) tk_L_drawLanes 4 rfl) (Nat.le_of_ble_eq_true rfl) ⟨(Nat.le_of_ble_eq_true rfl), (Nat.le_of_ble_eq_true rfl)⟩ ⟨(Nat.le_of_ble_eq_true rfl), (Nat.le_of_ble_eq_true rfl)⟩ ?_
    refine q_nrm 7 [.int v, .int 0, .ref 237] 2 12 rfl rfl rfl rfl ?_
    refine q_go C tk_L_drawLanes [(5, 1)] [] (pc1 := 8) (σ1 := τ) (lv1 := [(0, .ref 220), (1, .int g0), (2, .ref 237)]) (st1 := [.long v.toInt64, .int 0, .ref 237]) rfl trivial ?_
    refine q_last C (q_dc (z := (8, .lastore, 1, 0, 0)) tk_L_drawLanes 6 rfl) ?_
    refine q_go C tk_L_drawLanes [(7, 1), (14, 1)] [] (pc1 := 19) (σ1 := (q_up τ 237 0 v)) (lv1 := [(0, .ref 220), (1, .int g0), (2, .ref 237)]) (st1 := [.int 0]) rfl trivial ?_
    exact q_iret C hr (q_dc (z := (19, .ireturn, 1, 0, 0)) tk_L_drawLanes 15 rfl) rfl rfl (Nat.le_of_ble_eq_true rfl) (Nat.le_of_ble_eq_true rfl)
  · have hw : W_drawLanes g0 σ = (q_code nx_drawLanes E, τ) := by unfold W_drawLanes; rw [hx]
    have hE9 := hE E (by rw [hx])
    rw [hw]
    rw [hx] at hk
    by_cases e0 : E = "java/lang/IllegalArgumentException"
    · subst e0
      have hq : q_code nx_drawLanes "java/lang/IllegalArgumentException" = 1 := by decide +kernel
      rw [hq]
      refine q_enterW (own := RL) (F := fun _ => none) (G := fun _ => none) (by decide +kernel) rfl Fok_L Gok_L (Nat.le_of_ble_eq_true rfl) (fun p l e s m args below meth c A hfl C hr hT => ?_)
      refine q_go C tk_L_drawLanes [(0, 4)] [] (pc1 := 4) (σ1 := σ) (lv1 := [(0, .ref 220), (1, .int g0), (2, .ref 237)]) (st1 := [.int g0, .ref 220, .int 0, .ref 237]) rfl trivial ?_
      refine q_callVx C hfl mw_X8_drawLanes mi_X8_drawLanes me_X8_drawLanes lk_L_27 hk (rest := [.int 0, .ref 237]) rfl rfl rfl (by decide) (by decide) rfl (q_dc (z := (4, .invokevirtual 27, 3, 0, 0)) tk_L_drawLanes 4 rfl) (Nat.le_of_ble_eq_true rfl) ⟨(Nat.le_of_ble_eq_true rfl), (Nat.le_of_ble_eq_true rfl)⟩ ⟨(Nat.le_of_ble_eq_true rfl), (Nat.le_of_ble_eq_true rfl)⟩ ?_
      refine q_catch C [] ⟨0, 9, 12, 21⟩ [⟨0, 9, 15, 13⟩] (hT.trans rfl) (by decide +kernel) (fun z hz => by cases hz) (by decide) (by decide) cl_L_21 (by decide +kernel) (i := 3) (len := 1) (q_dc (z := (12, .astore_n 3, 1, 0, 0)) tk_L_drawLanes 8 rfl) (Or.inl ⟨3, rfl, rfl, rfl⟩) (by decide) ?_
      refine q_go C tk_L_drawLanes [(9, 1)] [] (pc1 := 14) (σ1 := τ) (lv1 := [(0, .ref 220), (1, .int g0), (2, .ref 237)]) (st1 := [.int 1]) rfl trivial ?_
      exact q_iret C hr (q_dc (z := (14, .ireturn, 1, 0, 0)) tk_L_drawLanes 10 rfl) rfl rfl (Nat.le_of_ble_eq_true rfl) (Nat.le_of_ble_eq_true rfl)
    by_cases e1 : E = "java/lang/IllegalStateException"
    · subst e1
      have hq : q_code nx_drawLanes "java/lang/IllegalStateException" = 2 := by decide +kernel
      rw [hq]
      refine q_enterW (own := RL) (F := fun _ => none) (G := fun _ => none) (by decide +kernel) rfl Fok_L Gok_L (Nat.le_of_ble_eq_true rfl) (fun p l e s m args below meth c A hfl C hr hT => ?_)
      refine q_go C tk_L_drawLanes [(0, 4)] [] (pc1 := 4) (σ1 := σ) (lv1 := [(0, .ref 220), (1, .int g0), (2, .ref 237)]) (st1 := [.int g0, .ref 220, .int 0, .ref 237]) rfl trivial ?_
      refine q_callVx C hfl mw_X8_drawLanes mi_X8_drawLanes me_X8_drawLanes lk_L_27 hk (rest := [.int 0, .ref 237]) rfl rfl rfl (by decide) (by decide) rfl (q_dc (z := (4, .invokevirtual 27, 3, 0, 0)) tk_L_drawLanes 4 rfl) (Nat.le_of_ble_eq_true rfl) ⟨(Nat.le_of_ble_eq_true rfl), (Nat.le_of_ble_eq_true rfl)⟩ ⟨(Nat.le_of_ble_eq_true rfl), (Nat.le_of_ble_eq_true rfl)⟩ ?_
      refine q_catch C [⟨0, 9, 12, 21⟩] ⟨0, 9, 15, 13⟩ [] (hT.trans rfl) (by decide +kernel) (fun z hz => by simp only [List.mem_cons, List.not_mem_nil, or_false] at hz; rcases hz with rfl <;> first | exact ⟨by decide, _, (by decide +kernel : "java/lang/IllegalArgumentException" ∈ q_XS), (by decide +kernel), cl_L_21⟩) (by decide) (by decide) cl_L_13 (by decide +kernel) (i := 3) (len := 1) (q_dc (z := (15, .astore_n 3, 1, 0, 0)) tk_L_drawLanes 11 rfl) (Or.inl ⟨3, rfl, rfl, rfl⟩) (by decide) ?_
      refine q_go C tk_L_drawLanes [(12, 1)] [] (pc1 := 17) (σ1 := τ) (lv1 := [(0, .ref 220), (1, .int g0), (2, .ref 237)]) (st1 := [.int 2]) rfl trivial ?_
      exact q_iret C hr (q_dc (z := (17, .ireturn, 1, 0, 0)) tk_L_drawLanes 13 rfl) rfl rfl (Nat.le_of_ble_eq_true rfl) (Nat.le_of_ble_eq_true rfl)
    simp only [nx_drawLanes, List.mem_cons, List.not_mem_nil, or_false] at hE9
    rcases hE9 with h | h
    · exact absurd h e0
    · exact absurd h e1
abbrev nx_start : List String := ["java/lang/IllegalStateException"]
def W_start (σ : q_M) : Int32 × q_M := match (F_X8_start σ) with | (.inl v, τ) => (0, (q_up τ 237 0 v)) | (.inr E, τ) => (q_code nx_start E, τ)
def tb_L_start : List q_E := [(0, .aload_n 1, 1, 0, 0), (1, .iconst 0, 1, 0, 0), (2, .aload_n 0, 1, 0, 0), (3, .invokevirtual 30, 3, 0, 0), (6, .i2l, 1, 0, 0), (7, .lastore, 1, 0, 0), (8, .goto 6, 3, 0, 14), (11, .astore_n 2, 1, 0, 0), (12, .iconst 1, 1, 1, 0), (13, .ireturn, 1, 0, 0), (14, .iconst 0, 1, 0, 0), (15, .ireturn, 1, 0, 0)]
theorem tk_L_start : q_tb cL_start 3 tb_L_start = true := by decide +kernel
abbrev hh_L_start : List (Nat × Nat × Nat × Nat) := [(0, 8, 11, 13)]
set_option maxRecDepth 100000 in
theorem kw_start {α β : Nat → Nat} {D : va_G} {κ : Nat → ClassId} (σ : q_M) (hP : P_X8_start σ) (hE : ∀ E, (F_X8_start σ).1 = .inr E → E ∈ nx_start) : q_CW α β D κ yL_start cL_start 3 (some .int) hh_L_start 8 130 1 6 [.ref 220, .ref 237] σ (some (.int (W_start σ).1)) (W_start σ).2 := by
  have hk := k_X8_start (α := α) (β := β) (D := D) (κ := κ) σ hP
  rcases hx : (F_X8_start σ) with ⟨v | E, τ⟩
  · have hw : W_start σ = (0, (q_up τ 237 0 v)) := by unfold W_start; rw [hx]
    rw [hw]
    rw [hx] at hk
    refine q_enterW (own := RL) (F := fun _ => none) (G := fun _ => none) (by decide +kernel) rfl Fok_L Gok_L (Nat.le_of_ble_eq_true rfl) (fun p l e s m args below meth c A hfl C hr hT => ?_)
    refine q_go C tk_L_start [(0, 3)] [] (pc1 := 3) (σ1 := σ) (lv1 := [(0, .ref 220), (1, .ref 237)]) (st1 := [.ref 220, .int 0, .ref 237]) rfl trivial ?_
    refine q_callV (v := some (.int v)) C hfl mw_X8_start mi_X8_start me_X8_start lk_L_30 hk (rest := [.int 0, .ref 237]) rfl rfl rfl (by decide) (by decide) rfl (q_dc (z := (3, .invokevirtual 30, 3, 0, 0)) tk_L_start 3 rfl) (Nat.le_of_ble_eq_true rfl) ⟨(Nat.le_of_ble_eq_true rfl), (Nat.le_of_ble_eq_true rfl)⟩ ⟨(Nat.le_of_ble_eq_true rfl), (Nat.le_of_ble_eq_true rfl)⟩ ?_
    refine q_nrm 6 [.int v, .int 0, .ref 237] 1 6 rfl rfl rfl rfl ?_
    refine q_go C tk_L_start [(4, 1)] [] (pc1 := 7) (σ1 := τ) (lv1 := [(0, .ref 220), (1, .ref 237)]) (st1 := [.long v.toInt64, .int 0, .ref 237]) rfl trivial ?_
    refine q_last C (q_dc (z := (7, .lastore, 1, 0, 0)) tk_L_start 5 rfl) ?_
    refine q_go C tk_L_start [(6, 1), (10, 1)] [] (pc1 := 15) (σ1 := (q_up τ 237 0 v)) (lv1 := [(0, .ref 220), (1, .ref 237)]) (st1 := [.int 0]) rfl trivial ?_
    exact q_iret C hr (q_dc (z := (15, .ireturn, 1, 0, 0)) tk_L_start 11 rfl) rfl rfl (Nat.le_of_ble_eq_true rfl) (Nat.le_of_ble_eq_true rfl)
  · have hw : W_start σ = (q_code nx_start E, τ) := by unfold W_start; rw [hx]
    have hE9 := hE E (by rw [hx])
    rw [hw]
    rw [hx] at hk
    by_cases e0 : E = "java/lang/IllegalStateException"
    · subst e0
      have hq : q_code nx_start "java/lang/IllegalStateException" = 1 := by decide +kernel
      rw [hq]
      refine q_enterW (own := RL) (F := fun _ => none) (G := fun _ => none) (by decide +kernel) rfl Fok_L Gok_L (Nat.le_of_ble_eq_true rfl) (fun p l e s m args below meth c A hfl C hr hT => ?_)
      refine q_go C tk_L_start [(0, 3)] [] (pc1 := 3) (σ1 := σ) (lv1 := [(0, .ref 220), (1, .ref 237)]) (st1 := [.ref 220, .int 0, .ref 237]) rfl trivial ?_
      refine q_callVx C hfl mw_X8_start mi_X8_start me_X8_start lk_L_30 hk (rest := [.int 0, .ref 237]) rfl rfl rfl (by decide) (by decide) rfl (q_dc (z := (3, .invokevirtual 30, 3, 0, 0)) tk_L_start 3 rfl) (Nat.le_of_ble_eq_true rfl) ⟨(Nat.le_of_ble_eq_true rfl), (Nat.le_of_ble_eq_true rfl)⟩ ⟨(Nat.le_of_ble_eq_true rfl), (Nat.le_of_ble_eq_true rfl)⟩ ?_
      refine q_catch C [] ⟨0, 8, 11, 13⟩ [] (hT.trans rfl) (by decide +kernel) (fun z hz => by cases hz) (by decide) (by decide) cl_L_13 (by decide +kernel) (i := 2) (len := 1) (q_dc (z := (11, .astore_n 2, 1, 0, 0)) tk_L_start 7 rfl) (Or.inl ⟨2, rfl, rfl, rfl⟩) (by decide) ?_
      refine q_go C tk_L_start [(8, 1)] [] (pc1 := 13) (σ1 := τ) (lv1 := [(0, .ref 220), (1, .ref 237)]) (st1 := [.int 1]) rfl trivial ?_
      exact q_iret C hr (q_dc (z := (13, .ireturn, 1, 0, 0)) tk_L_start 9 rfl) rfl rfl (Nat.le_of_ble_eq_true rfl) (Nat.le_of_ble_eq_true rfl)
    simp only [nx_start, List.mem_cons, List.not_mem_nil, or_false] at hE9
    exact absurd hE9 e0
abbrev nx_run : List String := ["java/lang/IllegalArgumentException", "java/lang/IllegalStateException"]
def W_run (g0 : Int32) (σ : q_M) : Int32 × q_M := match (F_X8_run g0 σ) with | (.inl v, τ) => (0, (q_up τ 237 0 v)) | (.inr E, τ) => (q_code nx_run E, τ)
def tb_L_run : List q_E := [(0, .aload_n 2, 1, 0, 0), (1, .iconst 0, 1, 0, 0), (2, .aload_n 0, 1, 0, 0), (3, .iload_n 1, 1, 0, 0), (4, .invokevirtual 33, 3, 0, 0), (7, .i2l, 1, 0, 0), (8, .lastore, 1, 0, 0), (9, .goto 9, 3, 0, 18), (12, .astore_n 3, 1, 0, 0), (13, .iconst 1, 1, 1, 0), (14, .ireturn, 1, 0, 0), (15, .astore_n 3, 1, 0, 0), (16, .iconst 2, 1, 2, 0), (17, .ireturn, 1, 0, 0), (18, .iconst 0, 1, 0, 0), (19, .ireturn, 1, 0, 0)]
theorem tk_L_run : q_tb cL_run 4 tb_L_run = true := by decide +kernel
abbrev hh_L_run : List (Nat × Nat × Nat × Nat) := [(0, 9, 12, 21), (0, 9, 15, 13)]
set_option maxRecDepth 100000 in
theorem kw_run {α β : Nat → Nat} {D : va_G} {κ : Nat → ClassId} (g0 : Int32) (σ : q_M) (hP : P_X8_run g0 σ) (hE : ∀ E, (F_X8_run g0 σ).1 = .inr E → E ∈ nx_run) : q_CW α β D κ yL_run cL_run 4 (some .int) hh_L_run 9 174 1 6 [.ref 220, .int g0, .ref 237] σ (some (.int (W_run g0 σ).1)) (W_run g0 σ).2 := by
  have hk := k_X8_run (α := α) (β := β) (D := D) (κ := κ) g0 σ hP
  rcases hx : (F_X8_run g0 σ) with ⟨v | E, τ⟩
  · have hw : W_run g0 σ = (0, (q_up τ 237 0 v)) := by unfold W_run; rw [hx]
    rw [hw]
    rw [hx] at hk
    refine q_enterW (own := RL) (F := fun _ => none) (G := fun _ => none) (by decide +kernel) rfl Fok_L Gok_L (Nat.le_of_ble_eq_true rfl) (fun p l e s m args below meth c A hfl C hr hT => ?_)
    refine q_go C tk_L_run [(0, 4)] [] (pc1 := 4) (σ1 := σ) (lv1 := [(0, .ref 220), (1, .int g0), (2, .ref 237)]) (st1 := [.int g0, .ref 220, .int 0, .ref 237]) rfl trivial ?_
    refine q_callV (v := some (.int v)) C hfl mw_X8_run mi_X8_run me_X8_run lk_L_33 hk (rest := [.int 0, .ref 237]) rfl rfl rfl (by decide) (by decide) rfl (q_dc (z := (4, .invokevirtual 33, 3, 0, 0)) tk_L_run 4 rfl) (Nat.le_of_ble_eq_true rfl) ⟨(Nat.le_of_ble_eq_true rfl), (Nat.le_of_ble_eq_true rfl)⟩ ⟨(Nat.le_of_ble_eq_true rfl), (Nat.le_of_ble_eq_true rfl)⟩ ?_
    refine q_nrm 7 [.int v, .int 0, .ref 237] 1 6 rfl rfl rfl rfl ?_
    refine q_go C tk_L_run [(5, 1)] [] (pc1 := 8) (σ1 := τ) (lv1 := [(0, .ref 220), (1, .int g0), (2, .ref 237)]) (st1 := [.long v.toInt64, .int 0, .ref 237]) rfl trivial ?_
    refine q_last C (q_dc (z := (8, .lastore, 1, 0, 0)) tk_L_run 6 rfl) ?_
    refine q_go C tk_L_run [(7, 1), (14, 1)] [] (pc1 := 19) (σ1 := (q_up τ 237 0 v)) (lv1 := [(0, .ref 220), (1, .int g0), (2, .ref 237)]) (st1 := [.int 0]) rfl trivial ?_
    exact q_iret C hr (q_dc (z := (19, .ireturn, 1, 0, 0)) tk_L_run 15 rfl) rfl rfl (Nat.le_of_ble_eq_true rfl) (Nat.le_of_ble_eq_true rfl)
  · have hw : W_run g0 σ = (q_code nx_run E, τ) := by unfold W_run; rw [hx]
    have hE9 := hE E (by rw [hx])
    rw [hw]
    rw [hx] at hk
    by_cases e0 : E = "java/lang/IllegalArgumentException"
    · subst e0
      have hq : q_code nx_run "java/lang/IllegalArgumentException" = 1 := by decide +kernel
      rw [hq]
      refine q_enterW (own := RL) (F := fun _ => none) (G := fun _ => none) (by decide +kernel) rfl Fok_L Gok_L (Nat.le_of_ble_eq_true rfl) (fun p l e s m args below meth c A hfl C hr hT => ?_)
      refine q_go C tk_L_run [(0, 4)] [] (pc1 := 4) (σ1 := σ) (lv1 := [(0, .ref 220), (1, .int g0), (2, .ref 237)]) (st1 := [.int g0, .ref 220, .int 0, .ref 237]) rfl trivial ?_
      refine q_callVx C hfl mw_X8_run mi_X8_run me_X8_run lk_L_33 hk (rest := [.int 0, .ref 237]) rfl rfl rfl (by decide) (by decide) rfl (q_dc (z := (4, .invokevirtual 33, 3, 0, 0)) tk_L_run 4 rfl) (Nat.le_of_ble_eq_true rfl) ⟨(Nat.le_of_ble_eq_true rfl), (Nat.le_of_ble_eq_true rfl)⟩ ⟨(Nat.le_of_ble_eq_true rfl), (Nat.le_of_ble_eq_true rfl)⟩ ?_
      refine q_catch C [] ⟨0, 9, 12, 21⟩ [⟨0, 9, 15, 13⟩] (hT.trans rfl) (by decide +kernel) (fun z hz => by cases hz) (by decide) (by decide) cl_L_21 (by decide +kernel) (i := 3) (len := 1) (q_dc (z := (12, .astore_n 3, 1, 0, 0)) tk_L_run 8 rfl) (Or.inl ⟨3, rfl, rfl, rfl⟩) (by decide) ?_
      refine q_go C tk_L_run [(9, 1)] [] (pc1 := 14) (σ1 := τ) (lv1 := [(0, .ref 220), (1, .int g0), (2, .ref 237)]) (st1 := [.int 1]) rfl trivial ?_
      exact q_iret C hr (q_dc (z := (14, .ireturn, 1, 0, 0)) tk_L_run 10 rfl) rfl rfl (Nat.le_of_ble_eq_true rfl) (Nat.le_of_ble_eq_true rfl)
    by_cases e1 : E = "java/lang/IllegalStateException"
    · subst e1
      have hq : q_code nx_run "java/lang/IllegalStateException" = 2 := by decide +kernel
      rw [hq]
      refine q_enterW (own := RL) (F := fun _ => none) (G := fun _ => none) (by decide +kernel) rfl Fok_L Gok_L (Nat.le_of_ble_eq_true rfl) (fun p l e s m args below meth c A hfl C hr hT => ?_)
      refine q_go C tk_L_run [(0, 4)] [] (pc1 := 4) (σ1 := σ) (lv1 := [(0, .ref 220), (1, .int g0), (2, .ref 237)]) (st1 := [.int g0, .ref 220, .int 0, .ref 237]) rfl trivial ?_
      refine q_callVx C hfl mw_X8_run mi_X8_run me_X8_run lk_L_33 hk (rest := [.int 0, .ref 237]) rfl rfl rfl (by decide) (by decide) rfl (q_dc (z := (4, .invokevirtual 33, 3, 0, 0)) tk_L_run 4 rfl) (Nat.le_of_ble_eq_true rfl) ⟨(Nat.le_of_ble_eq_true rfl), (Nat.le_of_ble_eq_true rfl)⟩ ⟨(Nat.le_of_ble_eq_true rfl), (Nat.le_of_ble_eq_true rfl)⟩ ?_
      refine q_catch C [⟨0, 9, 12, 21⟩] ⟨0, 9, 15, 13⟩ [] (hT.trans rfl) (by decide +kernel) (fun z hz => by simp only [List.mem_cons, List.not_mem_nil, or_false] at hz; rcases hz with rfl <;> first | exact ⟨by decide, _, (by decide +kernel : "java/lang/IllegalArgumentException" ∈ q_XS), (by decide +kernel), cl_L_21⟩) (by decide) (by decide) cl_L_13 (by decide +kernel) (i := 3) (len := 1) (q_dc (z := (15, .astore_n 3, 1, 0, 0)) tk_L_run 11 rfl) (Or.inl ⟨3, rfl, rfl, rfl⟩) (by decide) ?_
      refine q_go C tk_L_run [(12, 1)] [] (pc1 := 17) (σ1 := τ) (lv1 := [(0, .ref 220), (1, .int g0), (2, .ref 237)]) (st1 := [.int 2]) rfl trivial ?_
      exact q_iret C hr (q_dc (z := (17, .ireturn, 1, 0, 0)) tk_L_run 13 rfl) rfl rfl (Nat.le_of_ble_eq_true rfl) (Nat.le_of_ble_eq_true rfl)
    simp only [nx_run, List.mem_cons, List.not_mem_nil, or_false] at hE9
    rcases hE9 with h | h
    · exact absurd h e0
    · exact absurd h e1
abbrev nx_pass : List String := ["java/lang/IndexOutOfBoundsException", "java/lang/IllegalStateException", "java/lang/UnsupportedOperationException"]
def W_pass (g0 : Int32) (σ : q_M) : Int32 × q_M := match (F_X8_pass g0 σ) with | (.inl v, τ) => (0, (q_up τ 237 0 v)) | (.inr E, τ) => (q_code nx_pass E, τ)
def tb_L_pass : List q_E := [(0, .aload_n 2, 1, 0, 0), (1, .iconst 0, 1, 0, 0), (2, .aload_n 0, 1, 0, 0), (3, .iload_n 1, 1, 0, 0), (4, .invokevirtual 36, 3, 0, 0), (7, .i2l, 1, 0, 0), (8, .lastore, 1, 0, 0), (9, .goto 12, 3, 0, 21), (12, .astore_n 3, 1, 0, 0), (13, .iconst 1, 1, 1, 0), (14, .ireturn, 1, 0, 0), (15, .astore_n 3, 1, 0, 0), (16, .iconst 2, 1, 2, 0), (17, .ireturn, 1, 0, 0), (18, .astore_n 3, 1, 0, 0), (19, .iconst 3, 1, 3, 0), (20, .ireturn, 1, 0, 0), (21, .iconst 0, 1, 0, 0), (22, .ireturn, 1, 0, 0)]
theorem tk_L_pass : q_tb cL_pass 4 tb_L_pass = true := by decide +kernel
abbrev hh_L_pass : List (Nat × Nat × Nat × Nat) := [(0, 9, 12, 19), (0, 9, 15, 13), (0, 9, 18, 39)]
set_option maxRecDepth 100000 in
theorem kw_pass {α β : Nat → Nat} {D : va_G} {κ : Nat → ClassId} (g0 : Int32) (σ : q_M) (hP : P_X8_pass g0 σ) (hE : ∀ E, (F_X8_pass g0 σ).1 = .inr E → E ∈ nx_pass) : q_CW α β D κ yL_pass cL_pass 4 (some .int) hh_L_pass 8 133 2 12 [.ref 220, .int g0, .ref 237] σ (some (.int (W_pass g0 σ).1)) (W_pass g0 σ).2 := by
  have hk := k_X8_pass (α := α) (β := β) (D := D) (κ := κ) g0 σ hP
  rcases hx : (F_X8_pass g0 σ) with ⟨v | E, τ⟩
  · have hw : W_pass g0 σ = (0, (q_up τ 237 0 v)) := by unfold W_pass; rw [hx]
    rw [hw]
    rw [hx] at hk
    refine q_enterW (own := RL) (F := fun _ => none) (G := fun _ => none) (by decide +kernel) rfl Fok_L Gok_L (Nat.le_of_ble_eq_true rfl) (fun p l e s m args below meth c A hfl C hr hT => ?_)
    refine q_go C tk_L_pass [(0, 4)] [] (pc1 := 4) (σ1 := σ) (lv1 := [(0, .ref 220), (1, .int g0), (2, .ref 237)]) (st1 := [.int g0, .ref 220, .int 0, .ref 237]) rfl trivial ?_
    refine q_callV (v := some (.int v)) C hfl mw_X8_pass mi_X8_pass me_X8_pass lk_L_36 hk (rest := [.int 0, .ref 237]) rfl rfl rfl (by decide) (by decide) rfl (q_dc (z := (4, .invokevirtual 36, 3, 0, 0)) tk_L_pass 4 rfl) (Nat.le_of_ble_eq_true rfl) ⟨(Nat.le_of_ble_eq_true rfl), (Nat.le_of_ble_eq_true rfl)⟩ ⟨(Nat.le_of_ble_eq_true rfl), (Nat.le_of_ble_eq_true rfl)⟩ ?_
    refine q_nrm 7 [.int v, .int 0, .ref 237] 2 12 rfl rfl rfl rfl ?_
    refine q_go C tk_L_pass [(5, 1)] [] (pc1 := 8) (σ1 := τ) (lv1 := [(0, .ref 220), (1, .int g0), (2, .ref 237)]) (st1 := [.long v.toInt64, .int 0, .ref 237]) rfl trivial ?_
    refine q_last C (q_dc (z := (8, .lastore, 1, 0, 0)) tk_L_pass 6 rfl) ?_
    refine q_go C tk_L_pass [(7, 1), (17, 1)] [] (pc1 := 22) (σ1 := (q_up τ 237 0 v)) (lv1 := [(0, .ref 220), (1, .int g0), (2, .ref 237)]) (st1 := [.int 0]) rfl trivial ?_
    exact q_iret C hr (q_dc (z := (22, .ireturn, 1, 0, 0)) tk_L_pass 18 rfl) rfl rfl (Nat.le_of_ble_eq_true rfl) (Nat.le_of_ble_eq_true rfl)
  · have hw : W_pass g0 σ = (q_code nx_pass E, τ) := by unfold W_pass; rw [hx]
    have hE9 := hE E (by rw [hx])
    rw [hw]
    rw [hx] at hk
    by_cases e0 : E = "java/lang/IndexOutOfBoundsException"
    · subst e0
      have hq : q_code nx_pass "java/lang/IndexOutOfBoundsException" = 1 := by decide +kernel
      rw [hq]
      refine q_enterW (own := RL) (F := fun _ => none) (G := fun _ => none) (by decide +kernel) rfl Fok_L Gok_L (Nat.le_of_ble_eq_true rfl) (fun p l e s m args below meth c A hfl C hr hT => ?_)
      refine q_go C tk_L_pass [(0, 4)] [] (pc1 := 4) (σ1 := σ) (lv1 := [(0, .ref 220), (1, .int g0), (2, .ref 237)]) (st1 := [.int g0, .ref 220, .int 0, .ref 237]) rfl trivial ?_
      refine q_callVx C hfl mw_X8_pass mi_X8_pass me_X8_pass lk_L_36 hk (rest := [.int 0, .ref 237]) rfl rfl rfl (by decide) (by decide) rfl (q_dc (z := (4, .invokevirtual 36, 3, 0, 0)) tk_L_pass 4 rfl) (Nat.le_of_ble_eq_true rfl) ⟨(Nat.le_of_ble_eq_true rfl), (Nat.le_of_ble_eq_true rfl)⟩ ⟨(Nat.le_of_ble_eq_true rfl), (Nat.le_of_ble_eq_true rfl)⟩ ?_
      refine q_catch C [] ⟨0, 9, 12, 19⟩ [⟨0, 9, 15, 13⟩, ⟨0, 9, 18, 39⟩] (hT.trans rfl) (by decide +kernel) (fun z hz => by cases hz) (by decide) (by decide) cl_L_19 (by decide +kernel) (i := 3) (len := 1) (q_dc (z := (12, .astore_n 3, 1, 0, 0)) tk_L_pass 8 rfl) (Or.inl ⟨3, rfl, rfl, rfl⟩) (by decide) ?_
      refine q_go C tk_L_pass [(9, 1)] [] (pc1 := 14) (σ1 := τ) (lv1 := [(0, .ref 220), (1, .int g0), (2, .ref 237)]) (st1 := [.int 1]) rfl trivial ?_
      exact q_iret C hr (q_dc (z := (14, .ireturn, 1, 0, 0)) tk_L_pass 10 rfl) rfl rfl (Nat.le_of_ble_eq_true rfl) (Nat.le_of_ble_eq_true rfl)
    by_cases e1 : E = "java/lang/IllegalStateException"
    · subst e1
      have hq : q_code nx_pass "java/lang/IllegalStateException" = 2 := by decide +kernel
      rw [hq]
      refine q_enterW (own := RL) (F := fun _ => none) (G := fun _ => none) (by decide +kernel) rfl Fok_L Gok_L (Nat.le_of_ble_eq_true rfl) (fun p l e s m args below meth c A hfl C hr hT => ?_)
      refine q_go C tk_L_pass [(0, 4)] [] (pc1 := 4) (σ1 := σ) (lv1 := [(0, .ref 220), (1, .int g0), (2, .ref 237)]) (st1 := [.int g0, .ref 220, .int 0, .ref 237]) rfl trivial ?_
      refine q_callVx C hfl mw_X8_pass mi_X8_pass me_X8_pass lk_L_36 hk (rest := [.int 0, .ref 237]) rfl rfl rfl (by decide) (by decide) rfl (q_dc (z := (4, .invokevirtual 36, 3, 0, 0)) tk_L_pass 4 rfl) (Nat.le_of_ble_eq_true rfl) ⟨(Nat.le_of_ble_eq_true rfl), (Nat.le_of_ble_eq_true rfl)⟩ ⟨(Nat.le_of_ble_eq_true rfl), (Nat.le_of_ble_eq_true rfl)⟩ ?_
      refine q_catch C [⟨0, 9, 12, 19⟩] ⟨0, 9, 15, 13⟩ [⟨0, 9, 18, 39⟩] (hT.trans rfl) (by decide +kernel) (fun z hz => by simp only [List.mem_cons, List.not_mem_nil, or_false] at hz; rcases hz with rfl <;> first | exact ⟨by decide, _, (by decide +kernel : "java/lang/IndexOutOfBoundsException" ∈ q_XS), (by decide +kernel), cl_L_19⟩) (by decide) (by decide) cl_L_13 (by decide +kernel) (i := 3) (len := 1) (q_dc (z := (15, .astore_n 3, 1, 0, 0)) tk_L_pass 11 rfl) (Or.inl ⟨3, rfl, rfl, rfl⟩) (by decide) ?_
      refine q_go C tk_L_pass [(12, 1)] [] (pc1 := 17) (σ1 := τ) (lv1 := [(0, .ref 220), (1, .int g0), (2, .ref 237)]) (st1 := [.int 2]) rfl trivial ?_
      exact q_iret C hr (q_dc (z := (17, .ireturn, 1, 0, 0)) tk_L_pass 13 rfl) rfl rfl (Nat.le_of_ble_eq_true rfl) (Nat.le_of_ble_eq_true rfl)
    by_cases e2 : E = "java/lang/UnsupportedOperationException"
    · subst e2
      have hq : q_code nx_pass "java/lang/UnsupportedOperationException" = 3 := by decide +kernel
      rw [hq]
      refine q_enterW (own := RL) (F := fun _ => none) (G := fun _ => none) (by decide +kernel) rfl Fok_L Gok_L (Nat.le_of_ble_eq_true rfl) (fun p l e s m args below meth c A hfl C hr hT => ?_)
      refine q_go C tk_L_pass [(0, 4)] [] (pc1 := 4) (σ1 := σ) (lv1 := [(0, .ref 220), (1, .int g0), (2, .ref 237)]) (st1 := [.int g0, .ref 220, .int 0, .ref 237]) rfl trivial ?_
      refine q_callVx C hfl mw_X8_pass mi_X8_pass me_X8_pass lk_L_36 hk (rest := [.int 0, .ref 237]) rfl rfl rfl (by decide) (by decide) rfl (q_dc (z := (4, .invokevirtual 36, 3, 0, 0)) tk_L_pass 4 rfl) (Nat.le_of_ble_eq_true rfl) ⟨(Nat.le_of_ble_eq_true rfl), (Nat.le_of_ble_eq_true rfl)⟩ ⟨(Nat.le_of_ble_eq_true rfl), (Nat.le_of_ble_eq_true rfl)⟩ ?_
      refine q_catch C [⟨0, 9, 12, 19⟩, ⟨0, 9, 15, 13⟩] ⟨0, 9, 18, 39⟩ [] (hT.trans rfl) (by decide +kernel) (fun z hz => by simp only [List.mem_cons, List.not_mem_nil, or_false] at hz; rcases hz with rfl | rfl <;> first | exact ⟨by decide, _, (by decide +kernel : "java/lang/IndexOutOfBoundsException" ∈ q_XS), (by decide +kernel), cl_L_19⟩ | exact ⟨by decide, _, (by decide +kernel : "java/lang/IllegalStateException" ∈ q_XS), (by decide +kernel), cl_L_13⟩) (by decide) (by decide) cl_L_39 (by decide +kernel) (i := 3) (len := 1) (q_dc (z := (18, .astore_n 3, 1, 0, 0)) tk_L_pass 14 rfl) (Or.inl ⟨3, rfl, rfl, rfl⟩) (by decide) ?_
      refine q_go C tk_L_pass [(15, 1)] [] (pc1 := 20) (σ1 := τ) (lv1 := [(0, .ref 220), (1, .int g0), (2, .ref 237)]) (st1 := [.int 3]) rfl trivial ?_
      exact q_iret C hr (q_dc (z := (20, .ireturn, 1, 0, 0)) tk_L_pass 16 rfl) rfl rfl (Nat.le_of_ble_eq_true rfl) (Nat.le_of_ble_eq_true rfl)
    simp only [nx_pass, List.mem_cons, List.not_mem_nil, or_false] at hE9
    rcases hE9 with h | h | h
    · exact absurd h e0
    · exact absurd h e1
    · exact absurd h e2
abbrev nx_drop : List String := ["java/lang/IndexOutOfBoundsException", "java/lang/IllegalArgumentException", "java/lang/IllegalStateException"]
def W_drop (g0 : Int32) (g1 : Int32) (σ : q_M) : Int32 × q_M := match (F_X8_drop g0 g1 σ) with | (.inl v, τ) => (0, (q_up τ 237 0 v)) | (.inr E, τ) => (q_code nx_drop E, τ)
def tb_L_drop : List q_E := [(0, .aload_n 3, 1, 0, 0), (1, .iconst 0, 1, 0, 0), (2, .aload_n 0, 1, 0, 0), (3, .iload_n 1, 1, 0, 0), (4, .iload_n 2, 1, 0, 0), (5, .invokevirtual 41, 3, 0, 0), (8, .i2l, 1, 0, 0), (9, .lastore, 1, 0, 0), (10, .goto 15, 3, 0, 25), (13, .astore 4, 2, 0, 0), (15, .iconst 1, 1, 1, 0), (16, .ireturn, 1, 0, 0), (17, .astore 4, 2, 0, 0), (19, .iconst 2, 1, 2, 0), (20, .ireturn, 1, 0, 0), (21, .astore 4, 2, 0, 0), (23, .iconst 3, 1, 3, 0), (24, .ireturn, 1, 0, 0), (25, .iconst 0, 1, 0, 0), (26, .ireturn, 1, 0, 0)]
theorem tk_L_drop : q_tb cL_drop 5 tb_L_drop = true := by decide +kernel
abbrev hh_L_drop : List (Nat × Nat × Nat × Nat) := [(0, 10, 13, 19), (0, 10, 17, 21), (0, 10, 21, 13)]
set_option maxRecDepth 100000 in
theorem kw_drop {α β : Nat → Nat} {D : va_G} {κ : Nat → ClassId} (g0 : Int32) (g1 : Int32) (σ : q_M) (hP : P_X8_drop g0 g1 σ) (hE : ∀ E, (F_X8_drop g0 g1 σ).1 = .inr E → E ∈ nx_drop) : q_CW α β D κ yL_drop cL_drop 5 (some .int) hh_L_drop 8 134 2 12 [.ref 220, .int g0, .int g1, .ref 237] σ (some (.int (W_drop g0 g1 σ).1)) (W_drop g0 g1 σ).2 := by
  have hk := k_X8_drop (α := α) (β := β) (D := D) (κ := κ) g0 g1 σ hP
  rcases hx : (F_X8_drop g0 g1 σ) with ⟨v | E, τ⟩
  · have hw : W_drop g0 g1 σ = (0, (q_up τ 237 0 v)) := by unfold W_drop; rw [hx]
    rw [hw]
    rw [hx] at hk
    refine q_enterW (own := RL) (F := fun _ => none) (G := fun _ => none) (by decide +kernel) rfl Fok_L Gok_L (Nat.le_of_ble_eq_true rfl) (fun p l e s m args below meth c A hfl C hr hT => ?_)
    refine q_go C tk_L_drop [(0, 5)] [] (pc1 := 5) (σ1 := σ) (lv1 := [(0, .ref 220), (1, .int g0), (2, .int g1), (3, .ref 237)]) (st1 := [.int g1, .int g0, .ref 220, .int 0, .ref 237]) rfl trivial ?_
    refine q_callV (v := some (.int v)) C hfl mw_X8_drop mi_X8_drop me_X8_drop lk_L_41 hk (rest := [.int 0, .ref 237]) rfl rfl rfl (by decide) (by decide) rfl (q_dc (z := (5, .invokevirtual 41, 3, 0, 0)) tk_L_drop 5 rfl) (Nat.le_of_ble_eq_true rfl) ⟨(Nat.le_of_ble_eq_true rfl), (Nat.le_of_ble_eq_true rfl)⟩ ⟨(Nat.le_of_ble_eq_true rfl), (Nat.le_of_ble_eq_true rfl)⟩ ?_
    refine q_nrm 8 [.int v, .int 0, .ref 237] 2 12 rfl rfl rfl rfl ?_
    refine q_go C tk_L_drop [(6, 1)] [] (pc1 := 9) (σ1 := τ) (lv1 := [(0, .ref 220), (1, .int g0), (2, .int g1), (3, .ref 237)]) (st1 := [.long v.toInt64, .int 0, .ref 237]) rfl trivial ?_
    refine q_last C (q_dc (z := (9, .lastore, 1, 0, 0)) tk_L_drop 7 rfl) ?_
    refine q_go C tk_L_drop [(8, 1), (18, 1)] [] (pc1 := 26) (σ1 := (q_up τ 237 0 v)) (lv1 := [(0, .ref 220), (1, .int g0), (2, .int g1), (3, .ref 237)]) (st1 := [.int 0]) rfl trivial ?_
    exact q_iret C hr (q_dc (z := (26, .ireturn, 1, 0, 0)) tk_L_drop 19 rfl) rfl rfl (Nat.le_of_ble_eq_true rfl) (Nat.le_of_ble_eq_true rfl)
  · have hw : W_drop g0 g1 σ = (q_code nx_drop E, τ) := by unfold W_drop; rw [hx]
    have hE9 := hE E (by rw [hx])
    rw [hw]
    rw [hx] at hk
    by_cases e0 : E = "java/lang/IndexOutOfBoundsException"
    · subst e0
      have hq : q_code nx_drop "java/lang/IndexOutOfBoundsException" = 1 := by decide +kernel
      rw [hq]
      refine q_enterW (own := RL) (F := fun _ => none) (G := fun _ => none) (by decide +kernel) rfl Fok_L Gok_L (Nat.le_of_ble_eq_true rfl) (fun p l e s m args below meth c A hfl C hr hT => ?_)
      refine q_go C tk_L_drop [(0, 5)] [] (pc1 := 5) (σ1 := σ) (lv1 := [(0, .ref 220), (1, .int g0), (2, .int g1), (3, .ref 237)]) (st1 := [.int g1, .int g0, .ref 220, .int 0, .ref 237]) rfl trivial ?_
      refine q_callVx C hfl mw_X8_drop mi_X8_drop me_X8_drop lk_L_41 hk (rest := [.int 0, .ref 237]) rfl rfl rfl (by decide) (by decide) rfl (q_dc (z := (5, .invokevirtual 41, 3, 0, 0)) tk_L_drop 5 rfl) (Nat.le_of_ble_eq_true rfl) ⟨(Nat.le_of_ble_eq_true rfl), (Nat.le_of_ble_eq_true rfl)⟩ ⟨(Nat.le_of_ble_eq_true rfl), (Nat.le_of_ble_eq_true rfl)⟩ ?_
      refine q_catch C [] ⟨0, 10, 13, 19⟩ [⟨0, 10, 17, 21⟩, ⟨0, 10, 21, 13⟩] (hT.trans rfl) (by decide +kernel) (fun z hz => by cases hz) (by decide) (by decide) cl_L_19 (by decide +kernel) (i := 4) (len := 2) (q_dc (z := (13, .astore 4, 2, 0, 0)) tk_L_drop 9 rfl) (Or.inr ⟨rfl, rfl⟩) (by decide) ?_
      refine q_go C tk_L_drop [(10, 1)] [] (pc1 := 16) (σ1 := τ) (lv1 := [(0, .ref 220), (1, .int g0), (2, .int g1), (3, .ref 237)]) (st1 := [.int 1]) rfl trivial ?_
      exact q_iret C hr (q_dc (z := (16, .ireturn, 1, 0, 0)) tk_L_drop 11 rfl) rfl rfl (Nat.le_of_ble_eq_true rfl) (Nat.le_of_ble_eq_true rfl)
    by_cases e1 : E = "java/lang/IllegalArgumentException"
    · subst e1
      have hq : q_code nx_drop "java/lang/IllegalArgumentException" = 2 := by decide +kernel
      rw [hq]
      refine q_enterW (own := RL) (F := fun _ => none) (G := fun _ => none) (by decide +kernel) rfl Fok_L Gok_L (Nat.le_of_ble_eq_true rfl) (fun p l e s m args below meth c A hfl C hr hT => ?_)
      refine q_go C tk_L_drop [(0, 5)] [] (pc1 := 5) (σ1 := σ) (lv1 := [(0, .ref 220), (1, .int g0), (2, .int g1), (3, .ref 237)]) (st1 := [.int g1, .int g0, .ref 220, .int 0, .ref 237]) rfl trivial ?_
      refine q_callVx C hfl mw_X8_drop mi_X8_drop me_X8_drop lk_L_41 hk (rest := [.int 0, .ref 237]) rfl rfl rfl (by decide) (by decide) rfl (q_dc (z := (5, .invokevirtual 41, 3, 0, 0)) tk_L_drop 5 rfl) (Nat.le_of_ble_eq_true rfl) ⟨(Nat.le_of_ble_eq_true rfl), (Nat.le_of_ble_eq_true rfl)⟩ ⟨(Nat.le_of_ble_eq_true rfl), (Nat.le_of_ble_eq_true rfl)⟩ ?_
      refine q_catch C [⟨0, 10, 13, 19⟩] ⟨0, 10, 17, 21⟩ [⟨0, 10, 21, 13⟩] (hT.trans rfl) (by decide +kernel) (fun z hz => by simp only [List.mem_cons, List.not_mem_nil, or_false] at hz; rcases hz with rfl <;> first | exact ⟨by decide, _, (by decide +kernel : "java/lang/IndexOutOfBoundsException" ∈ q_XS), (by decide +kernel), cl_L_19⟩) (by decide) (by decide) cl_L_21 (by decide +kernel) (i := 4) (len := 2) (q_dc (z := (17, .astore 4, 2, 0, 0)) tk_L_drop 12 rfl) (Or.inr ⟨rfl, rfl⟩) (by decide) ?_
      refine q_go C tk_L_drop [(13, 1)] [] (pc1 := 20) (σ1 := τ) (lv1 := [(0, .ref 220), (1, .int g0), (2, .int g1), (3, .ref 237)]) (st1 := [.int 2]) rfl trivial ?_
      exact q_iret C hr (q_dc (z := (20, .ireturn, 1, 0, 0)) tk_L_drop 14 rfl) rfl rfl (Nat.le_of_ble_eq_true rfl) (Nat.le_of_ble_eq_true rfl)
    by_cases e2 : E = "java/lang/IllegalStateException"
    · subst e2
      have hq : q_code nx_drop "java/lang/IllegalStateException" = 3 := by decide +kernel
      rw [hq]
      refine q_enterW (own := RL) (F := fun _ => none) (G := fun _ => none) (by decide +kernel) rfl Fok_L Gok_L (Nat.le_of_ble_eq_true rfl) (fun p l e s m args below meth c A hfl C hr hT => ?_)
      refine q_go C tk_L_drop [(0, 5)] [] (pc1 := 5) (σ1 := σ) (lv1 := [(0, .ref 220), (1, .int g0), (2, .int g1), (3, .ref 237)]) (st1 := [.int g1, .int g0, .ref 220, .int 0, .ref 237]) rfl trivial ?_
      refine q_callVx C hfl mw_X8_drop mi_X8_drop me_X8_drop lk_L_41 hk (rest := [.int 0, .ref 237]) rfl rfl rfl (by decide) (by decide) rfl (q_dc (z := (5, .invokevirtual 41, 3, 0, 0)) tk_L_drop 5 rfl) (Nat.le_of_ble_eq_true rfl) ⟨(Nat.le_of_ble_eq_true rfl), (Nat.le_of_ble_eq_true rfl)⟩ ⟨(Nat.le_of_ble_eq_true rfl), (Nat.le_of_ble_eq_true rfl)⟩ ?_
      refine q_catch C [⟨0, 10, 13, 19⟩, ⟨0, 10, 17, 21⟩] ⟨0, 10, 21, 13⟩ [] (hT.trans rfl) (by decide +kernel) (fun z hz => by simp only [List.mem_cons, List.not_mem_nil, or_false] at hz; rcases hz with rfl | rfl <;> first | exact ⟨by decide, _, (by decide +kernel : "java/lang/IndexOutOfBoundsException" ∈ q_XS), (by decide +kernel), cl_L_19⟩ | exact ⟨by decide, _, (by decide +kernel : "java/lang/IllegalArgumentException" ∈ q_XS), (by decide +kernel), cl_L_21⟩) (by decide) (by decide) cl_L_13 (by decide +kernel) (i := 4) (len := 2) (q_dc (z := (21, .astore 4, 2, 0, 0)) tk_L_drop 15 rfl) (Or.inr ⟨rfl, rfl⟩) (by decide) ?_
      refine q_go C tk_L_drop [(16, 1)] [] (pc1 := 24) (σ1 := τ) (lv1 := [(0, .ref 220), (1, .int g0), (2, .int g1), (3, .ref 237)]) (st1 := [.int 3]) rfl trivial ?_
      exact q_iret C hr (q_dc (z := (24, .ireturn, 1, 0, 0)) tk_L_drop 17 rfl) rfl rfl (Nat.le_of_ble_eq_true rfl) (Nat.le_of_ble_eq_true rfl)
    simp only [nx_drop, List.mem_cons, List.not_mem_nil, or_false] at hE9
    rcases hE9 with h | h | h
    · exact absurd h e0
    · exact absurd h e1
    · exact absurd h e2
abbrev nx_withdraw : List String := ["java/lang/IndexOutOfBoundsException", "java/lang/IllegalStateException"]
def W_withdraw (g0 : Int32) (σ : q_M) : Int32 × q_M := match (F_X8_withdraw g0 σ) with | (.inl v, τ) => (0, (q_up τ 237 0 v)) | (.inr E, τ) => (q_code nx_withdraw E, τ)
def tb_L_withdraw : List q_E := [(0, .aload_n 2, 1, 0, 0), (1, .iconst 0, 1, 0, 0), (2, .aload_n 0, 1, 0, 0), (3, .iload_n 1, 1, 0, 0), (4, .invokevirtual 45, 3, 0, 0), (7, .i2l, 1, 0, 0), (8, .lastore, 1, 0, 0), (9, .goto 9, 3, 0, 18), (12, .astore_n 3, 1, 0, 0), (13, .iconst 1, 1, 1, 0), (14, .ireturn, 1, 0, 0), (15, .astore_n 3, 1, 0, 0), (16, .iconst 2, 1, 2, 0), (17, .ireturn, 1, 0, 0), (18, .iconst 0, 1, 0, 0), (19, .ireturn, 1, 0, 0)]
theorem tk_L_withdraw : q_tb cL_withdraw 4 tb_L_withdraw = true := by decide +kernel
abbrev hh_L_withdraw : List (Nat × Nat × Nat × Nat) := [(0, 9, 12, 19), (0, 9, 15, 13)]
set_option maxRecDepth 100000 in
theorem kw_withdraw {α β : Nat → Nat} {D : va_G} {κ : Nat → ClassId} (g0 : Int32) (σ : q_M) (hP : P_X8_withdraw g0 σ) (hE : ∀ E, (F_X8_withdraw g0 σ).1 = .inr E → E ∈ nx_withdraw) : q_CW α β D κ yL_withdraw cL_withdraw 4 (some .int) hh_L_withdraw 8 133 2 12 [.ref 220, .int g0, .ref 237] σ (some (.int (W_withdraw g0 σ).1)) (W_withdraw g0 σ).2 := by
  have hk := k_X8_withdraw (α := α) (β := β) (D := D) (κ := κ) g0 σ hP
  rcases hx : (F_X8_withdraw g0 σ) with ⟨v | E, τ⟩
  · have hw : W_withdraw g0 σ = (0, (q_up τ 237 0 v)) := by unfold W_withdraw; rw [hx]
    rw [hw]
    rw [hx] at hk
    refine q_enterW (own := RL) (F := fun _ => none) (G := fun _ => none) (by decide +kernel) rfl Fok_L Gok_L (Nat.le_of_ble_eq_true rfl) (fun p l e s m args below meth c A hfl C hr hT => ?_)
    refine q_go C tk_L_withdraw [(0, 4)] [] (pc1 := 4) (σ1 := σ) (lv1 := [(0, .ref 220), (1, .int g0), (2, .ref 237)]) (st1 := [.int g0, .ref 220, .int 0, .ref 237]) rfl trivial ?_
    refine q_callV (v := some (.int v)) C hfl mw_X8_withdraw mi_X8_withdraw me_X8_withdraw lk_L_45 hk (rest := [.int 0, .ref 237]) rfl rfl rfl (by decide) (by decide) rfl (q_dc (z := (4, .invokevirtual 45, 3, 0, 0)) tk_L_withdraw 4 rfl) (Nat.le_of_ble_eq_true rfl) ⟨(Nat.le_of_ble_eq_true rfl), (Nat.le_of_ble_eq_true rfl)⟩ ⟨(Nat.le_of_ble_eq_true rfl), (Nat.le_of_ble_eq_true rfl)⟩ ?_
    refine q_nrm 7 [.int v, .int 0, .ref 237] 2 12 rfl rfl rfl rfl ?_
    refine q_go C tk_L_withdraw [(5, 1)] [] (pc1 := 8) (σ1 := τ) (lv1 := [(0, .ref 220), (1, .int g0), (2, .ref 237)]) (st1 := [.long v.toInt64, .int 0, .ref 237]) rfl trivial ?_
    refine q_last C (q_dc (z := (8, .lastore, 1, 0, 0)) tk_L_withdraw 6 rfl) ?_
    refine q_go C tk_L_withdraw [(7, 1), (14, 1)] [] (pc1 := 19) (σ1 := (q_up τ 237 0 v)) (lv1 := [(0, .ref 220), (1, .int g0), (2, .ref 237)]) (st1 := [.int 0]) rfl trivial ?_
    exact q_iret C hr (q_dc (z := (19, .ireturn, 1, 0, 0)) tk_L_withdraw 15 rfl) rfl rfl (Nat.le_of_ble_eq_true rfl) (Nat.le_of_ble_eq_true rfl)
  · have hw : W_withdraw g0 σ = (q_code nx_withdraw E, τ) := by unfold W_withdraw; rw [hx]
    have hE9 := hE E (by rw [hx])
    rw [hw]
    rw [hx] at hk
    by_cases e0 : E = "java/lang/IndexOutOfBoundsException"
    · subst e0
      have hq : q_code nx_withdraw "java/lang/IndexOutOfBoundsException" = 1 := by decide +kernel
      rw [hq]
      refine q_enterW (own := RL) (F := fun _ => none) (G := fun _ => none) (by decide +kernel) rfl Fok_L Gok_L (Nat.le_of_ble_eq_true rfl) (fun p l e s m args below meth c A hfl C hr hT => ?_)
      refine q_go C tk_L_withdraw [(0, 4)] [] (pc1 := 4) (σ1 := σ) (lv1 := [(0, .ref 220), (1, .int g0), (2, .ref 237)]) (st1 := [.int g0, .ref 220, .int 0, .ref 237]) rfl trivial ?_
      refine q_callVx C hfl mw_X8_withdraw mi_X8_withdraw me_X8_withdraw lk_L_45 hk (rest := [.int 0, .ref 237]) rfl rfl rfl (by decide) (by decide) rfl (q_dc (z := (4, .invokevirtual 45, 3, 0, 0)) tk_L_withdraw 4 rfl) (Nat.le_of_ble_eq_true rfl) ⟨(Nat.le_of_ble_eq_true rfl), (Nat.le_of_ble_eq_true rfl)⟩ ⟨(Nat.le_of_ble_eq_true rfl), (Nat.le_of_ble_eq_true rfl)⟩ ?_
      refine q_catch C [] ⟨0, 9, 12, 19⟩ [⟨0, 9, 15, 13⟩] (hT.trans rfl) (by decide +kernel) (fun z hz => by cases hz) (by decide) (by decide) cl_L_19 (by decide +kernel) (i := 3) (len := 1) (q_dc (z := (12, .astore_n 3, 1, 0, 0)) tk_L_withdraw 8 rfl) (Or.inl ⟨3, rfl, rfl, rfl⟩) (by decide) ?_
      refine q_go C tk_L_withdraw [(9, 1)] [] (pc1 := 14) (σ1 := τ) (lv1 := [(0, .ref 220), (1, .int g0), (2, .ref 237)]) (st1 := [.int 1]) rfl trivial ?_
      exact q_iret C hr (q_dc (z := (14, .ireturn, 1, 0, 0)) tk_L_withdraw 10 rfl) rfl rfl (Nat.le_of_ble_eq_true rfl) (Nat.le_of_ble_eq_true rfl)
    by_cases e1 : E = "java/lang/IllegalStateException"
    · subst e1
      have hq : q_code nx_withdraw "java/lang/IllegalStateException" = 2 := by decide +kernel
      rw [hq]
      refine q_enterW (own := RL) (F := fun _ => none) (G := fun _ => none) (by decide +kernel) rfl Fok_L Gok_L (Nat.le_of_ble_eq_true rfl) (fun p l e s m args below meth c A hfl C hr hT => ?_)
      refine q_go C tk_L_withdraw [(0, 4)] [] (pc1 := 4) (σ1 := σ) (lv1 := [(0, .ref 220), (1, .int g0), (2, .ref 237)]) (st1 := [.int g0, .ref 220, .int 0, .ref 237]) rfl trivial ?_
      refine q_callVx C hfl mw_X8_withdraw mi_X8_withdraw me_X8_withdraw lk_L_45 hk (rest := [.int 0, .ref 237]) rfl rfl rfl (by decide) (by decide) rfl (q_dc (z := (4, .invokevirtual 45, 3, 0, 0)) tk_L_withdraw 4 rfl) (Nat.le_of_ble_eq_true rfl) ⟨(Nat.le_of_ble_eq_true rfl), (Nat.le_of_ble_eq_true rfl)⟩ ⟨(Nat.le_of_ble_eq_true rfl), (Nat.le_of_ble_eq_true rfl)⟩ ?_
      refine q_catch C [⟨0, 9, 12, 19⟩] ⟨0, 9, 15, 13⟩ [] (hT.trans rfl) (by decide +kernel) (fun z hz => by simp only [List.mem_cons, List.not_mem_nil, or_false] at hz; rcases hz with rfl <;> first | exact ⟨by decide, _, (by decide +kernel : "java/lang/IndexOutOfBoundsException" ∈ q_XS), (by decide +kernel), cl_L_19⟩) (by decide) (by decide) cl_L_13 (by decide +kernel) (i := 3) (len := 1) (q_dc (z := (15, .astore_n 3, 1, 0, 0)) tk_L_withdraw 11 rfl) (Or.inl ⟨3, rfl, rfl, rfl⟩) (by decide) ?_
      refine q_go C tk_L_withdraw [(12, 1)] [] (pc1 := 17) (σ1 := τ) (lv1 := [(0, .ref 220), (1, .int g0), (2, .ref 237)]) (st1 := [.int 2]) rfl trivial ?_
      exact q_iret C hr (q_dc (z := (17, .ireturn, 1, 0, 0)) tk_L_withdraw 13 rfl) rfl rfl (Nat.le_of_ble_eq_true rfl) (Nat.le_of_ble_eq_true rfl)
    simp only [nx_withdraw, List.mem_cons, List.not_mem_nil, or_false] at hE9
    rcases hE9 with h | h
    · exact absurd h e0
    · exact absurd h e1
abbrev nx_protest : List String := ["java/lang/IndexOutOfBoundsException", "java/lang/IllegalArgumentException", "java/lang/IllegalStateException"]
def W_protest (g0 : Int32) (g1 : Int32) (g2 : Int32) (σ : q_M) : Int32 × q_M := match (F_X8_protest g0 g1 g2 σ) with | (.inl v, τ) => (0, (q_up τ 237 0 (if v = 0 then 0 else 1))) | (.inr E, τ) => (q_code nx_protest E, τ)
def tb_L_protest : List q_E := [(0, .aload 4, 2, 0, 0), (2, .iconst 0, 1, 0, 0), (3, .aload_n 0, 1, 0, 0), (4, .iload_n 1, 1, 0, 0), (5, .iload_n 2, 1, 0, 0), (6, .iload_n 3, 1, 0, 0), (7, .invokevirtual 48, 3, 0, 0), (10, .ifCond .eq 7, 3, 0, 17), (13, .lconst 1, 1, 1, 0), (14, .goto 4, 3, 0, 18), (17, .lconst 0, 1, 0, 0), (18, .lastore, 1, 0, 0), (19, .goto 15, 3, 0, 34), (22, .astore 5, 2, 0, 0), (24, .iconst 1, 1, 1, 0), (25, .ireturn, 1, 0, 0), (26, .astore 5, 2, 0, 0), (28, .iconst 2, 1, 2, 0), (29, .ireturn, 1, 0, 0), (30, .astore 5, 2, 0, 0), (32, .iconst 3, 1, 3, 0), (33, .ireturn, 1, 0, 0), (34, .iconst 0, 1, 0, 0), (35, .ireturn, 1, 0, 0)]
theorem tk_L_protest : q_tb cL_protest 6 tb_L_protest = true := by decide +kernel
abbrev hh_L_protest : List (Nat × Nat × Nat × Nat) := [(0, 19, 22, 19), (0, 19, 26, 21), (0, 19, 30, 13)]
set_option maxRecDepth 100000 in
theorem kw_protest {α β : Nat → Nat} {D : va_G} {κ : Nat → ClassId} (g0 : Int32) (g1 : Int32) (g2 : Int32) (σ : q_M) (hP : P_X8_protest g0 g1 g2 σ) (hE : ∀ E, (F_X8_protest g0 g1 g2 σ).1 = .inr E → E ∈ nx_protest) : q_CW α β D κ yL_protest cL_protest 6 (some .int) hh_L_protest 8 135 3 18 [.ref 220, .int g0, .int g1, .int g2, .ref 237] σ (some (.int (W_protest g0 g1 g2 σ).1)) (W_protest g0 g1 g2 σ).2 := by
  have hk := k_X8_protest (α := α) (β := β) (D := D) (κ := κ) g0 g1 g2 σ hP
  rcases hx : (F_X8_protest g0 g1 g2 σ) with ⟨v | E, τ⟩
  · have hw : W_protest g0 g1 g2 σ = (0, (q_up τ 237 0 (if v = 0 then 0 else 1))) := by unfold W_protest; rw [hx]
    rw [hw]
    rw [hx] at hk
    refine q_enterW (own := RL) (F := fun _ => none) (G := fun _ => none) (by decide +kernel) rfl Fok_L Gok_L (Nat.le_of_ble_eq_true rfl) (fun p l e s m args below meth c A hfl C hr hT => ?_)
    refine q_go C tk_L_protest [(0, 6)] [] (pc1 := 7) (σ1 := σ) (lv1 := [(0, .ref 220), (1, .int g0), (2, .int g1), (3, .int g2), (4, .ref 237)]) (st1 := [.int g2, .int g1, .int g0, .ref 220, .int 0, .ref 237]) rfl trivial ?_
    refine q_callV (v := some (.int v)) C hfl mw_X8_protest mi_X8_protest me_X8_protest lk_L_48 hk (rest := [.int 0, .ref 237]) rfl rfl rfl (by decide) (by decide) rfl (q_dc (z := (7, .invokevirtual 48, 3, 0, 0)) tk_L_protest 6 rfl) (Nat.le_of_ble_eq_true rfl) ⟨(Nat.le_of_ble_eq_true rfl), (Nat.le_of_ble_eq_true rfl)⟩ ⟨(Nat.le_of_ble_eq_true rfl), (Nat.le_of_ble_eq_true rfl)⟩ ?_
    refine q_nrm 10 [.int v, .int 0, .ref 237] 3 18 rfl rfl rfl rfl ?_
    by_cases c1 : v = 0
    · rw [if_pos c1]
      refine q_go C tk_L_protest [(7, 1), (10, 1)] [true] (pc1 := 18) (σ1 := τ) (lv1 := [(0, .ref 220), (1, .int g0), (2, .int g1), (3, .int g2), (4, .ref 237)]) (st1 := [.long (0 : Int32).toInt64, .int 0, .ref 237]) rfl ⟨c1, trivial⟩ ?_
      refine q_last C (q_dc (z := (18, .lastore, 1, 0, 0)) tk_L_protest 11 rfl) ?_
      refine q_go C tk_L_protest [(12, 1), (22, 1)] [] (pc1 := 35) (σ1 := (q_up τ 237 0 0)) (lv1 := [(0, .ref 220), (1, .int g0), (2, .int g1), (3, .int g2), (4, .ref 237)]) (st1 := [.int 0]) rfl trivial ?_
      exact q_iret C hr (q_dc (z := (35, .ireturn, 1, 0, 0)) tk_L_protest 23 rfl) rfl rfl (Nat.le_of_ble_eq_true rfl) (Nat.le_of_ble_eq_true rfl)
    · rw [if_neg c1]
      refine q_go C tk_L_protest [(7, 3)] [false] (pc1 := 18) (σ1 := τ) (lv1 := [(0, .ref 220), (1, .int g0), (2, .int g1), (3, .int g2), (4, .ref 237)]) (st1 := [.long (1 : Int32).toInt64, .int 0, .ref 237]) rfl ⟨c1, trivial⟩ ?_
      refine q_last C (q_dc (z := (18, .lastore, 1, 0, 0)) tk_L_protest 11 rfl) ?_
      refine q_go C tk_L_protest [(12, 1), (22, 1)] [] (pc1 := 35) (σ1 := (q_up τ 237 0 1)) (lv1 := [(0, .ref 220), (1, .int g0), (2, .int g1), (3, .int g2), (4, .ref 237)]) (st1 := [.int 0]) rfl trivial ?_
      exact q_iret C hr (q_dc (z := (35, .ireturn, 1, 0, 0)) tk_L_protest 23 rfl) rfl rfl (Nat.le_of_ble_eq_true rfl) (Nat.le_of_ble_eq_true rfl)
  · have hw : W_protest g0 g1 g2 σ = (q_code nx_protest E, τ) := by unfold W_protest; rw [hx]
    have hE9 := hE E (by rw [hx])
    rw [hw]
    rw [hx] at hk
    by_cases e0 : E = "java/lang/IndexOutOfBoundsException"
    · subst e0
      have hq : q_code nx_protest "java/lang/IndexOutOfBoundsException" = 1 := by decide +kernel
      rw [hq]
      refine q_enterW (own := RL) (F := fun _ => none) (G := fun _ => none) (by decide +kernel) rfl Fok_L Gok_L (Nat.le_of_ble_eq_true rfl) (fun p l e s m args below meth c A hfl C hr hT => ?_)
      refine q_go C tk_L_protest [(0, 6)] [] (pc1 := 7) (σ1 := σ) (lv1 := [(0, .ref 220), (1, .int g0), (2, .int g1), (3, .int g2), (4, .ref 237)]) (st1 := [.int g2, .int g1, .int g0, .ref 220, .int 0, .ref 237]) rfl trivial ?_
      refine q_callVx C hfl mw_X8_protest mi_X8_protest me_X8_protest lk_L_48 hk (rest := [.int 0, .ref 237]) rfl rfl rfl (by decide) (by decide) rfl (q_dc (z := (7, .invokevirtual 48, 3, 0, 0)) tk_L_protest 6 rfl) (Nat.le_of_ble_eq_true rfl) ⟨(Nat.le_of_ble_eq_true rfl), (Nat.le_of_ble_eq_true rfl)⟩ ⟨(Nat.le_of_ble_eq_true rfl), (Nat.le_of_ble_eq_true rfl)⟩ ?_
      refine q_catch C [] ⟨0, 19, 22, 19⟩ [⟨0, 19, 26, 21⟩, ⟨0, 19, 30, 13⟩] (hT.trans rfl) (by decide +kernel) (fun z hz => by cases hz) (by decide) (by decide) cl_L_19 (by decide +kernel) (i := 5) (len := 2) (q_dc (z := (22, .astore 5, 2, 0, 0)) tk_L_protest 13 rfl) (Or.inr ⟨rfl, rfl⟩) (by decide) ?_
      refine q_go C tk_L_protest [(14, 1)] [] (pc1 := 25) (σ1 := τ) (lv1 := [(0, .ref 220), (1, .int g0), (2, .int g1), (3, .int g2), (4, .ref 237)]) (st1 := [.int 1]) rfl trivial ?_
      exact q_iret C hr (q_dc (z := (25, .ireturn, 1, 0, 0)) tk_L_protest 15 rfl) rfl rfl (Nat.le_of_ble_eq_true rfl) (Nat.le_of_ble_eq_true rfl)
    by_cases e1 : E = "java/lang/IllegalArgumentException"
    · subst e1
      have hq : q_code nx_protest "java/lang/IllegalArgumentException" = 2 := by decide +kernel
      rw [hq]
      refine q_enterW (own := RL) (F := fun _ => none) (G := fun _ => none) (by decide +kernel) rfl Fok_L Gok_L (Nat.le_of_ble_eq_true rfl) (fun p l e s m args below meth c A hfl C hr hT => ?_)
      refine q_go C tk_L_protest [(0, 6)] [] (pc1 := 7) (σ1 := σ) (lv1 := [(0, .ref 220), (1, .int g0), (2, .int g1), (3, .int g2), (4, .ref 237)]) (st1 := [.int g2, .int g1, .int g0, .ref 220, .int 0, .ref 237]) rfl trivial ?_
      refine q_callVx C hfl mw_X8_protest mi_X8_protest me_X8_protest lk_L_48 hk (rest := [.int 0, .ref 237]) rfl rfl rfl (by decide) (by decide) rfl (q_dc (z := (7, .invokevirtual 48, 3, 0, 0)) tk_L_protest 6 rfl) (Nat.le_of_ble_eq_true rfl) ⟨(Nat.le_of_ble_eq_true rfl), (Nat.le_of_ble_eq_true rfl)⟩ ⟨(Nat.le_of_ble_eq_true rfl), (Nat.le_of_ble_eq_true rfl)⟩ ?_
      refine q_catch C [⟨0, 19, 22, 19⟩] ⟨0, 19, 26, 21⟩ [⟨0, 19, 30, 13⟩] (hT.trans rfl) (by decide +kernel) (fun z hz => by simp only [List.mem_cons, List.not_mem_nil, or_false] at hz; rcases hz with rfl <;> first | exact ⟨by decide, _, (by decide +kernel : "java/lang/IndexOutOfBoundsException" ∈ q_XS), (by decide +kernel), cl_L_19⟩) (by decide) (by decide) cl_L_21 (by decide +kernel) (i := 5) (len := 2) (q_dc (z := (26, .astore 5, 2, 0, 0)) tk_L_protest 16 rfl) (Or.inr ⟨rfl, rfl⟩) (by decide) ?_
      refine q_go C tk_L_protest [(17, 1)] [] (pc1 := 29) (σ1 := τ) (lv1 := [(0, .ref 220), (1, .int g0), (2, .int g1), (3, .int g2), (4, .ref 237)]) (st1 := [.int 2]) rfl trivial ?_
      exact q_iret C hr (q_dc (z := (29, .ireturn, 1, 0, 0)) tk_L_protest 18 rfl) rfl rfl (Nat.le_of_ble_eq_true rfl) (Nat.le_of_ble_eq_true rfl)
    by_cases e2 : E = "java/lang/IllegalStateException"
    · subst e2
      have hq : q_code nx_protest "java/lang/IllegalStateException" = 3 := by decide +kernel
      rw [hq]
      refine q_enterW (own := RL) (F := fun _ => none) (G := fun _ => none) (by decide +kernel) rfl Fok_L Gok_L (Nat.le_of_ble_eq_true rfl) (fun p l e s m args below meth c A hfl C hr hT => ?_)
      refine q_go C tk_L_protest [(0, 6)] [] (pc1 := 7) (σ1 := σ) (lv1 := [(0, .ref 220), (1, .int g0), (2, .int g1), (3, .int g2), (4, .ref 237)]) (st1 := [.int g2, .int g1, .int g0, .ref 220, .int 0, .ref 237]) rfl trivial ?_
      refine q_callVx C hfl mw_X8_protest mi_X8_protest me_X8_protest lk_L_48 hk (rest := [.int 0, .ref 237]) rfl rfl rfl (by decide) (by decide) rfl (q_dc (z := (7, .invokevirtual 48, 3, 0, 0)) tk_L_protest 6 rfl) (Nat.le_of_ble_eq_true rfl) ⟨(Nat.le_of_ble_eq_true rfl), (Nat.le_of_ble_eq_true rfl)⟩ ⟨(Nat.le_of_ble_eq_true rfl), (Nat.le_of_ble_eq_true rfl)⟩ ?_
      refine q_catch C [⟨0, 19, 22, 19⟩, ⟨0, 19, 26, 21⟩] ⟨0, 19, 30, 13⟩ [] (hT.trans rfl) (by decide +kernel) (fun z hz => by simp only [List.mem_cons, List.not_mem_nil, or_false] at hz; rcases hz with rfl | rfl <;> first | exact ⟨by decide, _, (by decide +kernel : "java/lang/IndexOutOfBoundsException" ∈ q_XS), (by decide +kernel), cl_L_19⟩ | exact ⟨by decide, _, (by decide +kernel : "java/lang/IllegalArgumentException" ∈ q_XS), (by decide +kernel), cl_L_21⟩) (by decide) (by decide) cl_L_13 (by decide +kernel) (i := 5) (len := 2) (q_dc (z := (30, .astore 5, 2, 0, 0)) tk_L_protest 19 rfl) (Or.inr ⟨rfl, rfl⟩) (by decide) ?_
      refine q_go C tk_L_protest [(20, 1)] [] (pc1 := 33) (σ1 := τ) (lv1 := [(0, .ref 220), (1, .int g0), (2, .int g1), (3, .int g2), (4, .ref 237)]) (st1 := [.int 3]) rfl trivial ?_
      exact q_iret C hr (q_dc (z := (33, .ireturn, 1, 0, 0)) tk_L_protest 21 rfl) rfl rfl (Nat.le_of_ble_eq_true rfl) (Nat.le_of_ble_eq_true rfl)
    simp only [nx_protest, List.mem_cons, List.not_mem_nil, or_false] at hE9
    rcases hE9 with h | h | h
    · exact absurd h e0
    · exact absurd h e1
    · exact absurd h e2
abbrev nx_laneOf : List String := ["java/lang/IndexOutOfBoundsException"]
def W_laneOf (g0 : Int32) (σ : q_M) : Int32 × q_M := match (F_X8_laneOf g0 σ) with | .inl v => (0, (q_up σ 237 0 v)) | .inr E => (q_code nx_laneOf E, σ)
def tb_L_laneOf : List q_E := [(0, .aload_n 2, 1, 0, 0), (1, .iconst 0, 1, 0, 0), (2, .aload_n 0, 1, 0, 0), (3, .iload_n 1, 1, 0, 0), (4, .invokevirtual 52, 3, 0, 0), (7, .i2l, 1, 0, 0), (8, .lastore, 1, 0, 0), (9, .goto 6, 3, 0, 15), (12, .astore_n 3, 1, 0, 0), (13, .iconst 1, 1, 1, 0), (14, .ireturn, 1, 0, 0), (15, .iconst 0, 1, 0, 0), (16, .ireturn, 1, 0, 0)]
theorem tk_L_laneOf : q_tb cL_laneOf 4 tb_L_laneOf = true := by decide +kernel
abbrev hh_L_laneOf : List (Nat × Nat × Nat × Nat) := [(0, 9, 12, 19)]
set_option maxRecDepth 100000 in
theorem kw_laneOf {α β : Nat → Nat} {D : va_G} {κ : Nat → ClassId} (g0 : Int32) (σ : q_M) (hE : ∀ E, (F_X8_laneOf g0 σ) = .inr E → E ∈ nx_laneOf) : q_CW α β D κ yL_laneOf cL_laneOf 4 (some .int) hh_L_laneOf 8 133 1 6 [.ref 220, .int g0, .ref 237] σ (some (.int (W_laneOf g0 σ).1)) (W_laneOf g0 σ).2 := by
  have hk := k_X8_laneOf (α := α) (β := β) (D := D) (κ := κ) g0 σ
  rcases hx : (F_X8_laneOf g0 σ) with v | E
  · have hw : W_laneOf g0 σ = (0, (q_up σ 237 0 v)) := by unfold W_laneOf; rw [hx]
    rw [hw]
    rw [hx] at hk
    refine q_enterW (own := RL) (F := fun _ => none) (G := fun _ => none) (by decide +kernel) rfl Fok_L Gok_L (Nat.le_of_ble_eq_true rfl) (fun p l e s m args below meth c A hfl C hr hT => ?_)
    refine q_go C tk_L_laneOf [(0, 4)] [] (pc1 := 4) (σ1 := σ) (lv1 := [(0, .ref 220), (1, .int g0), (2, .ref 237)]) (st1 := [.int g0, .ref 220, .int 0, .ref 237]) rfl trivial ?_
    refine q_callV (v := some (.int v)) C hfl mw_X8_laneOf mi_X8_laneOf me_X8_laneOf lk_L_52 hk (rest := [.int 0, .ref 237]) rfl rfl rfl (by decide) (by decide) rfl (q_dc (z := (4, .invokevirtual 52, 3, 0, 0)) tk_L_laneOf 4 rfl) (Nat.le_of_ble_eq_true rfl) ⟨(Nat.le_of_ble_eq_true rfl), (Nat.le_of_ble_eq_true rfl)⟩ ⟨(Nat.le_of_ble_eq_true rfl), (Nat.le_of_ble_eq_true rfl)⟩ ?_
    refine q_nrm 7 [.int v, .int 0, .ref 237] 1 6 rfl rfl rfl rfl ?_
    refine q_go C tk_L_laneOf [(5, 1)] [] (pc1 := 8) (σ1 := σ) (lv1 := [(0, .ref 220), (1, .int g0), (2, .ref 237)]) (st1 := [.long v.toInt64, .int 0, .ref 237]) rfl trivial ?_
    refine q_last C (q_dc (z := (8, .lastore, 1, 0, 0)) tk_L_laneOf 6 rfl) ?_
    refine q_go C tk_L_laneOf [(7, 1), (11, 1)] [] (pc1 := 16) (σ1 := (q_up σ 237 0 v)) (lv1 := [(0, .ref 220), (1, .int g0), (2, .ref 237)]) (st1 := [.int 0]) rfl trivial ?_
    exact q_iret C hr (q_dc (z := (16, .ireturn, 1, 0, 0)) tk_L_laneOf 12 rfl) rfl rfl (Nat.le_of_ble_eq_true rfl) (Nat.le_of_ble_eq_true rfl)
  · have hw : W_laneOf g0 σ = (q_code nx_laneOf E, σ) := by unfold W_laneOf; rw [hx]
    have hE9 := hE E (by rw [hx])
    rw [hw]
    rw [hx] at hk
    by_cases e0 : E = "java/lang/IndexOutOfBoundsException"
    · subst e0
      have hq : q_code nx_laneOf "java/lang/IndexOutOfBoundsException" = 1 := by decide +kernel
      rw [hq]
      refine q_enterW (own := RL) (F := fun _ => none) (G := fun _ => none) (by decide +kernel) rfl Fok_L Gok_L (Nat.le_of_ble_eq_true rfl) (fun p l e s m args below meth c A hfl C hr hT => ?_)
      refine q_go C tk_L_laneOf [(0, 4)] [] (pc1 := 4) (σ1 := σ) (lv1 := [(0, .ref 220), (1, .int g0), (2, .ref 237)]) (st1 := [.int g0, .ref 220, .int 0, .ref 237]) rfl trivial ?_
      refine q_callVx C hfl mw_X8_laneOf mi_X8_laneOf me_X8_laneOf lk_L_52 hk (rest := [.int 0, .ref 237]) rfl rfl rfl (by decide) (by decide) rfl (q_dc (z := (4, .invokevirtual 52, 3, 0, 0)) tk_L_laneOf 4 rfl) (Nat.le_of_ble_eq_true rfl) ⟨(Nat.le_of_ble_eq_true rfl), (Nat.le_of_ble_eq_true rfl)⟩ ⟨(Nat.le_of_ble_eq_true rfl), (Nat.le_of_ble_eq_true rfl)⟩ ?_
      refine q_catch C [] ⟨0, 9, 12, 19⟩ [] (hT.trans rfl) (by decide +kernel) (fun z hz => by cases hz) (by decide) (by decide) cl_L_19 (by decide +kernel) (i := 3) (len := 1) (q_dc (z := (12, .astore_n 3, 1, 0, 0)) tk_L_laneOf 8 rfl) (Or.inl ⟨3, rfl, rfl, rfl⟩) (by decide) ?_
      refine q_go C tk_L_laneOf [(9, 1)] [] (pc1 := 14) (σ1 := σ) (lv1 := [(0, .ref 220), (1, .int g0), (2, .ref 237)]) (st1 := [.int 1]) rfl trivial ?_
      exact q_iret C hr (q_dc (z := (14, .ireturn, 1, 0, 0)) tk_L_laneOf 10 rfl) rfl rfl (Nat.le_of_ble_eq_true rfl) (Nat.le_of_ble_eq_true rfl)
    simp only [nx_laneOf, List.mem_cons, List.not_mem_nil, or_false] at hE9
    exact absurd hE9 e0
abbrev nx_teamInLane : List String := ["java/util/NoSuchElementException"]
def W_teamInLane (g0 : Int32) (σ : q_M) : Int32 × q_M := match (F_X8_teamInLane g0 σ) with | .inl v => (0, (q_up σ 237 0 v)) | .inr E => (q_code nx_teamInLane E, σ)
def tb_L_teamInLane : List q_E := [(0, .aload_n 2, 1, 0, 0), (1, .iconst 0, 1, 0, 0), (2, .aload_n 0, 1, 0, 0), (3, .iload_n 1, 1, 0, 0), (4, .invokevirtual 55, 3, 0, 0), (7, .i2l, 1, 0, 0), (8, .lastore, 1, 0, 0), (9, .goto 6, 3, 0, 15), (12, .astore_n 3, 1, 0, 0), (13, .iconst 1, 1, 1, 0), (14, .ireturn, 1, 0, 0), (15, .iconst 0, 1, 0, 0), (16, .ireturn, 1, 0, 0)]
theorem tk_L_teamInLane : q_tb cL_teamInLane 4 tb_L_teamInLane = true := by decide +kernel
abbrev hh_L_teamInLane : List (Nat × Nat × Nat × Nat) := [(0, 9, 12, 58)]
set_option maxRecDepth 100000 in
theorem kw_teamInLane {α β : Nat → Nat} {D : va_G} {κ : Nat → ClassId} (g0 : Int32) (σ : q_M) (hP : P_X8_teamInLane g0 σ) (hE : ∀ E, (F_X8_teamInLane g0 σ) = .inr E → E ∈ nx_teamInLane) : q_CW α β D κ yL_teamInLane cL_teamInLane 4 (some .int) hh_L_teamInLane 7 112 1 6 [.ref 220, .int g0, .ref 237] σ (some (.int (W_teamInLane g0 σ).1)) (W_teamInLane g0 σ).2 := by
  have hk := k_X8_teamInLane (α := α) (β := β) (D := D) (κ := κ) g0 σ hP
  rcases hx : (F_X8_teamInLane g0 σ) with v | E
  · have hw : W_teamInLane g0 σ = (0, (q_up σ 237 0 v)) := by unfold W_teamInLane; rw [hx]
    rw [hw]
    rw [hx] at hk
    refine q_enterW (own := RL) (F := fun _ => none) (G := fun _ => none) (by decide +kernel) rfl Fok_L Gok_L (Nat.le_of_ble_eq_true rfl) (fun p l e s m args below meth c A hfl C hr hT => ?_)
    refine q_go C tk_L_teamInLane [(0, 4)] [] (pc1 := 4) (σ1 := σ) (lv1 := [(0, .ref 220), (1, .int g0), (2, .ref 237)]) (st1 := [.int g0, .ref 220, .int 0, .ref 237]) rfl trivial ?_
    refine q_callV (v := some (.int v)) C hfl mw_X8_teamInLane mi_X8_teamInLane me_X8_teamInLane lk_L_55 hk (rest := [.int 0, .ref 237]) rfl rfl rfl (by decide) (by decide) rfl (q_dc (z := (4, .invokevirtual 55, 3, 0, 0)) tk_L_teamInLane 4 rfl) (Nat.le_of_ble_eq_true rfl) ⟨(Nat.le_of_ble_eq_true rfl), (Nat.le_of_ble_eq_true rfl)⟩ ⟨(Nat.le_of_ble_eq_true rfl), (Nat.le_of_ble_eq_true rfl)⟩ ?_
    refine q_nrm 7 [.int v, .int 0, .ref 237] 1 6 rfl rfl rfl rfl ?_
    refine q_go C tk_L_teamInLane [(5, 1)] [] (pc1 := 8) (σ1 := σ) (lv1 := [(0, .ref 220), (1, .int g0), (2, .ref 237)]) (st1 := [.long v.toInt64, .int 0, .ref 237]) rfl trivial ?_
    refine q_last C (q_dc (z := (8, .lastore, 1, 0, 0)) tk_L_teamInLane 6 rfl) ?_
    refine q_go C tk_L_teamInLane [(7, 1), (11, 1)] [] (pc1 := 16) (σ1 := (q_up σ 237 0 v)) (lv1 := [(0, .ref 220), (1, .int g0), (2, .ref 237)]) (st1 := [.int 0]) rfl trivial ?_
    exact q_iret C hr (q_dc (z := (16, .ireturn, 1, 0, 0)) tk_L_teamInLane 12 rfl) rfl rfl (Nat.le_of_ble_eq_true rfl) (Nat.le_of_ble_eq_true rfl)
  · have hw : W_teamInLane g0 σ = (q_code nx_teamInLane E, σ) := by unfold W_teamInLane; rw [hx]
    have hE9 := hE E (by rw [hx])
    rw [hw]
    rw [hx] at hk
    by_cases e0 : E = "java/util/NoSuchElementException"
    · subst e0
      have hq : q_code nx_teamInLane "java/util/NoSuchElementException" = 1 := by decide +kernel
      rw [hq]
      refine q_enterW (own := RL) (F := fun _ => none) (G := fun _ => none) (by decide +kernel) rfl Fok_L Gok_L (Nat.le_of_ble_eq_true rfl) (fun p l e s m args below meth c A hfl C hr hT => ?_)
      refine q_go C tk_L_teamInLane [(0, 4)] [] (pc1 := 4) (σ1 := σ) (lv1 := [(0, .ref 220), (1, .int g0), (2, .ref 237)]) (st1 := [.int g0, .ref 220, .int 0, .ref 237]) rfl trivial ?_
      refine q_callVx C hfl mw_X8_teamInLane mi_X8_teamInLane me_X8_teamInLane lk_L_55 hk (rest := [.int 0, .ref 237]) rfl rfl rfl (by decide) (by decide) rfl (q_dc (z := (4, .invokevirtual 55, 3, 0, 0)) tk_L_teamInLane 4 rfl) (Nat.le_of_ble_eq_true rfl) ⟨(Nat.le_of_ble_eq_true rfl), (Nat.le_of_ble_eq_true rfl)⟩ ⟨(Nat.le_of_ble_eq_true rfl), (Nat.le_of_ble_eq_true rfl)⟩ ?_
      refine q_catch C [] ⟨0, 9, 12, 58⟩ [] (hT.trans rfl) (by decide +kernel) (fun z hz => by cases hz) (by decide) (by decide) cl_L_58 (by decide +kernel) (i := 3) (len := 1) (q_dc (z := (12, .astore_n 3, 1, 0, 0)) tk_L_teamInLane 8 rfl) (Or.inl ⟨3, rfl, rfl, rfl⟩) (by decide) ?_
      refine q_go C tk_L_teamInLane [(9, 1)] [] (pc1 := 14) (σ1 := σ) (lv1 := [(0, .ref 220), (1, .int g0), (2, .ref 237)]) (st1 := [.int 1]) rfl trivial ?_
      exact q_iret C hr (q_dc (z := (14, .ireturn, 1, 0, 0)) tk_L_teamInLane 10 rfl) rfl rfl (Nat.le_of_ble_eq_true rfl) (Nat.le_of_ble_eq_true rfl)
    simp only [nx_teamInLane, List.mem_cons, List.not_mem_nil, or_false] at hE9
    exact absurd hE9 e0
abbrev nx_speedOf : List String := ["java/lang/IndexOutOfBoundsException"]
def W_speedOf (g0 : Int32) (g1 : Int32) (σ : q_M) : Int32 × q_M := match (F_X8_speedOf g0 g1 σ) with | .inl v => (0, (q_up σ 237 0 v)) | .inr E => (q_code nx_speedOf E, σ)
def tb_L_speedOf : List q_E := [(0, .aload_n 3, 1, 0, 0), (1, .iconst 0, 1, 0, 0), (2, .aload_n 0, 1, 0, 0), (3, .iload_n 1, 1, 0, 0), (4, .iload_n 2, 1, 0, 0), (5, .invokevirtual 60, 3, 0, 0), (8, .i2l, 1, 0, 0), (9, .lastore, 1, 0, 0), (10, .goto 7, 3, 0, 17), (13, .astore 4, 2, 0, 0), (15, .iconst 1, 1, 1, 0), (16, .ireturn, 1, 0, 0), (17, .iconst 0, 1, 0, 0), (18, .ireturn, 1, 0, 0)]
theorem tk_L_speedOf : q_tb cL_speedOf 5 tb_L_speedOf = true := by decide +kernel
abbrev hh_L_speedOf : List (Nat × Nat × Nat × Nat) := [(0, 10, 13, 19)]
set_option maxRecDepth 100000 in
theorem kw_speedOf {α β : Nat → Nat} {D : va_G} {κ : Nat → ClassId} (g0 : Int32) (g1 : Int32) (σ : q_M) (hP : P_X8_speedOf g0 g1 σ) (hE : ∀ E, (F_X8_speedOf g0 g1 σ) = .inr E → E ∈ nx_speedOf) : q_CW α β D κ yL_speedOf cL_speedOf 5 (some .int) hh_L_speedOf 9 157 2 12 [.ref 220, .int g0, .int g1, .ref 237] σ (some (.int (W_speedOf g0 g1 σ).1)) (W_speedOf g0 g1 σ).2 := by
  have hk := k_X8_speedOf (α := α) (β := β) (D := D) (κ := κ) g0 g1 σ hP
  rcases hx : (F_X8_speedOf g0 g1 σ) with v | E
  · have hw : W_speedOf g0 g1 σ = (0, (q_up σ 237 0 v)) := by unfold W_speedOf; rw [hx]
    rw [hw]
    rw [hx] at hk
    refine q_enterW (own := RL) (F := fun _ => none) (G := fun _ => none) (by decide +kernel) rfl Fok_L Gok_L (Nat.le_of_ble_eq_true rfl) (fun p l e s m args below meth c A hfl C hr hT => ?_)
    refine q_go C tk_L_speedOf [(0, 5)] [] (pc1 := 5) (σ1 := σ) (lv1 := [(0, .ref 220), (1, .int g0), (2, .int g1), (3, .ref 237)]) (st1 := [.int g1, .int g0, .ref 220, .int 0, .ref 237]) rfl trivial ?_
    refine q_callV (v := some (.int v)) C hfl mw_X8_speedOf mi_X8_speedOf me_X8_speedOf lk_L_60 hk (rest := [.int 0, .ref 237]) rfl rfl rfl (by decide) (by decide) rfl (q_dc (z := (5, .invokevirtual 60, 3, 0, 0)) tk_L_speedOf 5 rfl) (Nat.le_of_ble_eq_true rfl) ⟨(Nat.le_of_ble_eq_true rfl), (Nat.le_of_ble_eq_true rfl)⟩ ⟨(Nat.le_of_ble_eq_true rfl), (Nat.le_of_ble_eq_true rfl)⟩ ?_
    refine q_nrm 8 [.int v, .int 0, .ref 237] 2 12 rfl rfl rfl rfl ?_
    refine q_go C tk_L_speedOf [(6, 1)] [] (pc1 := 9) (σ1 := σ) (lv1 := [(0, .ref 220), (1, .int g0), (2, .int g1), (3, .ref 237)]) (st1 := [.long v.toInt64, .int 0, .ref 237]) rfl trivial ?_
    refine q_last C (q_dc (z := (9, .lastore, 1, 0, 0)) tk_L_speedOf 7 rfl) ?_
    refine q_go C tk_L_speedOf [(8, 1), (12, 1)] [] (pc1 := 18) (σ1 := (q_up σ 237 0 v)) (lv1 := [(0, .ref 220), (1, .int g0), (2, .int g1), (3, .ref 237)]) (st1 := [.int 0]) rfl trivial ?_
    exact q_iret C hr (q_dc (z := (18, .ireturn, 1, 0, 0)) tk_L_speedOf 13 rfl) rfl rfl (Nat.le_of_ble_eq_true rfl) (Nat.le_of_ble_eq_true rfl)
  · have hw : W_speedOf g0 g1 σ = (q_code nx_speedOf E, σ) := by unfold W_speedOf; rw [hx]
    have hE9 := hE E (by rw [hx])
    rw [hw]
    rw [hx] at hk
    by_cases e0 : E = "java/lang/IndexOutOfBoundsException"
    · subst e0
      have hq : q_code nx_speedOf "java/lang/IndexOutOfBoundsException" = 1 := by decide +kernel
      rw [hq]
      refine q_enterW (own := RL) (F := fun _ => none) (G := fun _ => none) (by decide +kernel) rfl Fok_L Gok_L (Nat.le_of_ble_eq_true rfl) (fun p l e s m args below meth c A hfl C hr hT => ?_)
      refine q_go C tk_L_speedOf [(0, 5)] [] (pc1 := 5) (σ1 := σ) (lv1 := [(0, .ref 220), (1, .int g0), (2, .int g1), (3, .ref 237)]) (st1 := [.int g1, .int g0, .ref 220, .int 0, .ref 237]) rfl trivial ?_
      refine q_callVx C hfl mw_X8_speedOf mi_X8_speedOf me_X8_speedOf lk_L_60 hk (rest := [.int 0, .ref 237]) rfl rfl rfl (by decide) (by decide) rfl (q_dc (z := (5, .invokevirtual 60, 3, 0, 0)) tk_L_speedOf 5 rfl) (Nat.le_of_ble_eq_true rfl) ⟨(Nat.le_of_ble_eq_true rfl), (Nat.le_of_ble_eq_true rfl)⟩ ⟨(Nat.le_of_ble_eq_true rfl), (Nat.le_of_ble_eq_true rfl)⟩ ?_
      refine q_catch C [] ⟨0, 10, 13, 19⟩ [] (hT.trans rfl) (by decide +kernel) (fun z hz => by cases hz) (by decide) (by decide) cl_L_19 (by decide +kernel) (i := 4) (len := 2) (q_dc (z := (13, .astore 4, 2, 0, 0)) tk_L_speedOf 9 rfl) (Or.inr ⟨rfl, rfl⟩) (by decide) ?_
      refine q_go C tk_L_speedOf [(10, 1)] [] (pc1 := 16) (σ1 := σ) (lv1 := [(0, .ref 220), (1, .int g0), (2, .int g1), (3, .ref 237)]) (st1 := [.int 1]) rfl trivial ?_
      exact q_iret C hr (q_dc (z := (16, .ireturn, 1, 0, 0)) tk_L_speedOf 11 rfl) rfl rfl (Nat.le_of_ble_eq_true rfl) (Nat.le_of_ble_eq_true rfl)
    simp only [nx_speedOf, List.mem_cons, List.not_mem_nil, or_false] at hE9
    exact absurd hE9 e0
abbrev nx_positionOf : List String := ["java/lang/IndexOutOfBoundsException"]
def W_positionOf (g0 : Int32) (σ : q_M) : Int32 × q_M := match (F_X8_positionOf g0 σ) with | .inl v => (0, (q_up σ 237 0 v)) | .inr E => (q_code nx_positionOf E, σ)
def tb_L_positionOf : List q_E := [(0, .aload_n 2, 1, 0, 0), (1, .iconst 0, 1, 0, 0), (2, .aload_n 0, 1, 0, 0), (3, .iload_n 1, 1, 0, 0), (4, .invokevirtual 63, 3, 0, 0), (7, .i2l, 1, 0, 0), (8, .lastore, 1, 0, 0), (9, .goto 6, 3, 0, 15), (12, .astore_n 3, 1, 0, 0), (13, .iconst 1, 1, 1, 0), (14, .ireturn, 1, 0, 0), (15, .iconst 0, 1, 0, 0), (16, .ireturn, 1, 0, 0)]
theorem tk_L_positionOf : q_tb cL_positionOf 4 tb_L_positionOf = true := by decide +kernel
abbrev hh_L_positionOf : List (Nat × Nat × Nat × Nat) := [(0, 9, 12, 19)]
set_option maxRecDepth 100000 in
theorem kw_positionOf {α β : Nat → Nat} {D : va_G} {κ : Nat → ClassId} (g0 : Int32) (σ : q_M) (hE : ∀ E, (F_X8_positionOf g0 σ) = .inr E → E ∈ nx_positionOf) : q_CW α β D κ yL_positionOf cL_positionOf 4 (some .int) hh_L_positionOf 8 133 1 6 [.ref 220, .int g0, .ref 237] σ (some (.int (W_positionOf g0 σ).1)) (W_positionOf g0 σ).2 := by
  have hk := k_X8_positionOf (α := α) (β := β) (D := D) (κ := κ) g0 σ
  rcases hx : (F_X8_positionOf g0 σ) with v | E
  · have hw : W_positionOf g0 σ = (0, (q_up σ 237 0 v)) := by unfold W_positionOf; rw [hx]
    rw [hw]
    rw [hx] at hk
    refine q_enterW (own := RL) (F := fun _ => none) (G := fun _ => none) (by decide +kernel) rfl Fok_L Gok_L (Nat.le_of_ble_eq_true rfl) (fun p l e s m args below meth c A hfl C hr hT => ?_)
    refine q_go C tk_L_positionOf [(0, 4)] [] (pc1 := 4) (σ1 := σ) (lv1 := [(0, .ref 220), (1, .int g0), (2, .ref 237)]) (st1 := [.int g0, .ref 220, .int 0, .ref 237]) rfl trivial ?_
    refine q_callV (v := some (.int v)) C hfl mw_X8_positionOf mi_X8_positionOf me_X8_positionOf lk_L_63 hk (rest := [.int 0, .ref 237]) rfl rfl rfl (by decide) (by decide) rfl (q_dc (z := (4, .invokevirtual 63, 3, 0, 0)) tk_L_positionOf 4 rfl) (Nat.le_of_ble_eq_true rfl) ⟨(Nat.le_of_ble_eq_true rfl), (Nat.le_of_ble_eq_true rfl)⟩ ⟨(Nat.le_of_ble_eq_true rfl), (Nat.le_of_ble_eq_true rfl)⟩ ?_
    refine q_nrm 7 [.int v, .int 0, .ref 237] 1 6 rfl rfl rfl rfl ?_
    refine q_go C tk_L_positionOf [(5, 1)] [] (pc1 := 8) (σ1 := σ) (lv1 := [(0, .ref 220), (1, .int g0), (2, .ref 237)]) (st1 := [.long v.toInt64, .int 0, .ref 237]) rfl trivial ?_
    refine q_last C (q_dc (z := (8, .lastore, 1, 0, 0)) tk_L_positionOf 6 rfl) ?_
    refine q_go C tk_L_positionOf [(7, 1), (11, 1)] [] (pc1 := 16) (σ1 := (q_up σ 237 0 v)) (lv1 := [(0, .ref 220), (1, .int g0), (2, .ref 237)]) (st1 := [.int 0]) rfl trivial ?_
    exact q_iret C hr (q_dc (z := (16, .ireturn, 1, 0, 0)) tk_L_positionOf 12 rfl) rfl rfl (Nat.le_of_ble_eq_true rfl) (Nat.le_of_ble_eq_true rfl)
  · have hw : W_positionOf g0 σ = (q_code nx_positionOf E, σ) := by unfold W_positionOf; rw [hx]
    have hE9 := hE E (by rw [hx])
    rw [hw]
    rw [hx] at hk
    by_cases e0 : E = "java/lang/IndexOutOfBoundsException"
    · subst e0
      have hq : q_code nx_positionOf "java/lang/IndexOutOfBoundsException" = 1 := by decide +kernel
      rw [hq]
      refine q_enterW (own := RL) (F := fun _ => none) (G := fun _ => none) (by decide +kernel) rfl Fok_L Gok_L (Nat.le_of_ble_eq_true rfl) (fun p l e s m args below meth c A hfl C hr hT => ?_)
      refine q_go C tk_L_positionOf [(0, 4)] [] (pc1 := 4) (σ1 := σ) (lv1 := [(0, .ref 220), (1, .int g0), (2, .ref 237)]) (st1 := [.int g0, .ref 220, .int 0, .ref 237]) rfl trivial ?_
      refine q_callVx C hfl mw_X8_positionOf mi_X8_positionOf me_X8_positionOf lk_L_63 hk (rest := [.int 0, .ref 237]) rfl rfl rfl (by decide) (by decide) rfl (q_dc (z := (4, .invokevirtual 63, 3, 0, 0)) tk_L_positionOf 4 rfl) (Nat.le_of_ble_eq_true rfl) ⟨(Nat.le_of_ble_eq_true rfl), (Nat.le_of_ble_eq_true rfl)⟩ ⟨(Nat.le_of_ble_eq_true rfl), (Nat.le_of_ble_eq_true rfl)⟩ ?_
      refine q_catch C [] ⟨0, 9, 12, 19⟩ [] (hT.trans rfl) (by decide +kernel) (fun z hz => by cases hz) (by decide) (by decide) cl_L_19 (by decide +kernel) (i := 3) (len := 1) (q_dc (z := (12, .astore_n 3, 1, 0, 0)) tk_L_positionOf 8 rfl) (Or.inl ⟨3, rfl, rfl, rfl⟩) (by decide) ?_
      refine q_go C tk_L_positionOf [(9, 1)] [] (pc1 := 14) (σ1 := σ) (lv1 := [(0, .ref 220), (1, .int g0), (2, .ref 237)]) (st1 := [.int 1]) rfl trivial ?_
      exact q_iret C hr (q_dc (z := (14, .ireturn, 1, 0, 0)) tk_L_positionOf 10 rfl) rfl rfl (Nat.le_of_ble_eq_true rfl) (Nat.le_of_ble_eq_true rfl)
    simp only [nx_positionOf, List.mem_cons, List.not_mem_nil, or_false] at hE9
    exact absurd hE9 e0
abbrev nx_legOf : List String := ["java/lang/IndexOutOfBoundsException"]
def W_legOf (g0 : Int32) (σ : q_M) : Int32 × q_M := match (F_X8_legOf g0 σ) with | .inl v => (0, (q_up σ 237 0 v)) | .inr E => (q_code nx_legOf E, σ)
def tb_L_legOf : List q_E := [(0, .aload_n 2, 1, 0, 0), (1, .iconst 0, 1, 0, 0), (2, .aload_n 0, 1, 0, 0), (3, .iload_n 1, 1, 0, 0), (4, .invokevirtual 66, 3, 0, 0), (7, .i2l, 1, 0, 0), (8, .lastore, 1, 0, 0), (9, .goto 6, 3, 0, 15), (12, .astore_n 3, 1, 0, 0), (13, .iconst 1, 1, 1, 0), (14, .ireturn, 1, 0, 0), (15, .iconst 0, 1, 0, 0), (16, .ireturn, 1, 0, 0)]
theorem tk_L_legOf : q_tb cL_legOf 4 tb_L_legOf = true := by decide +kernel
abbrev hh_L_legOf : List (Nat × Nat × Nat × Nat) := [(0, 9, 12, 19)]
set_option maxRecDepth 100000 in
theorem kw_legOf {α β : Nat → Nat} {D : va_G} {κ : Nat → ClassId} (g0 : Int32) (σ : q_M) (hE : ∀ E, (F_X8_legOf g0 σ) = .inr E → E ∈ nx_legOf) : q_CW α β D κ yL_legOf cL_legOf 4 (some .int) hh_L_legOf 8 133 1 6 [.ref 220, .int g0, .ref 237] σ (some (.int (W_legOf g0 σ).1)) (W_legOf g0 σ).2 := by
  have hk := k_X8_legOf (α := α) (β := β) (D := D) (κ := κ) g0 σ
  rcases hx : (F_X8_legOf g0 σ) with v | E
  · have hw : W_legOf g0 σ = (0, (q_up σ 237 0 v)) := by unfold W_legOf; rw [hx]
    rw [hw]
    rw [hx] at hk
    refine q_enterW (own := RL) (F := fun _ => none) (G := fun _ => none) (by decide +kernel) rfl Fok_L Gok_L (Nat.le_of_ble_eq_true rfl) (fun p l e s m args below meth c A hfl C hr hT => ?_)
    refine q_go C tk_L_legOf [(0, 4)] [] (pc1 := 4) (σ1 := σ) (lv1 := [(0, .ref 220), (1, .int g0), (2, .ref 237)]) (st1 := [.int g0, .ref 220, .int 0, .ref 237]) rfl trivial ?_
    refine q_callV (v := some (.int v)) C hfl mw_X8_legOf mi_X8_legOf me_X8_legOf lk_L_66 hk (rest := [.int 0, .ref 237]) rfl rfl rfl (by decide) (by decide) rfl (q_dc (z := (4, .invokevirtual 66, 3, 0, 0)) tk_L_legOf 4 rfl) (Nat.le_of_ble_eq_true rfl) ⟨(Nat.le_of_ble_eq_true rfl), (Nat.le_of_ble_eq_true rfl)⟩ ⟨(Nat.le_of_ble_eq_true rfl), (Nat.le_of_ble_eq_true rfl)⟩ ?_
    refine q_nrm 7 [.int v, .int 0, .ref 237] 1 6 rfl rfl rfl rfl ?_
    refine q_go C tk_L_legOf [(5, 1)] [] (pc1 := 8) (σ1 := σ) (lv1 := [(0, .ref 220), (1, .int g0), (2, .ref 237)]) (st1 := [.long v.toInt64, .int 0, .ref 237]) rfl trivial ?_
    refine q_last C (q_dc (z := (8, .lastore, 1, 0, 0)) tk_L_legOf 6 rfl) ?_
    refine q_go C tk_L_legOf [(7, 1), (11, 1)] [] (pc1 := 16) (σ1 := (q_up σ 237 0 v)) (lv1 := [(0, .ref 220), (1, .int g0), (2, .ref 237)]) (st1 := [.int 0]) rfl trivial ?_
    exact q_iret C hr (q_dc (z := (16, .ireturn, 1, 0, 0)) tk_L_legOf 12 rfl) rfl rfl (Nat.le_of_ble_eq_true rfl) (Nat.le_of_ble_eq_true rfl)
  · have hw : W_legOf g0 σ = (q_code nx_legOf E, σ) := by unfold W_legOf; rw [hx]
    have hE9 := hE E (by rw [hx])
    rw [hw]
    rw [hx] at hk
    by_cases e0 : E = "java/lang/IndexOutOfBoundsException"
    · subst e0
      have hq : q_code nx_legOf "java/lang/IndexOutOfBoundsException" = 1 := by decide +kernel
      rw [hq]
      refine q_enterW (own := RL) (F := fun _ => none) (G := fun _ => none) (by decide +kernel) rfl Fok_L Gok_L (Nat.le_of_ble_eq_true rfl) (fun p l e s m args below meth c A hfl C hr hT => ?_)
      refine q_go C tk_L_legOf [(0, 4)] [] (pc1 := 4) (σ1 := σ) (lv1 := [(0, .ref 220), (1, .int g0), (2, .ref 237)]) (st1 := [.int g0, .ref 220, .int 0, .ref 237]) rfl trivial ?_
      refine q_callVx C hfl mw_X8_legOf mi_X8_legOf me_X8_legOf lk_L_66 hk (rest := [.int 0, .ref 237]) rfl rfl rfl (by decide) (by decide) rfl (q_dc (z := (4, .invokevirtual 66, 3, 0, 0)) tk_L_legOf 4 rfl) (Nat.le_of_ble_eq_true rfl) ⟨(Nat.le_of_ble_eq_true rfl), (Nat.le_of_ble_eq_true rfl)⟩ ⟨(Nat.le_of_ble_eq_true rfl), (Nat.le_of_ble_eq_true rfl)⟩ ?_
      refine q_catch C [] ⟨0, 9, 12, 19⟩ [] (hT.trans rfl) (by decide +kernel) (fun z hz => by cases hz) (by decide) (by decide) cl_L_19 (by decide +kernel) (i := 3) (len := 1) (q_dc (z := (12, .astore_n 3, 1, 0, 0)) tk_L_legOf 8 rfl) (Or.inl ⟨3, rfl, rfl, rfl⟩) (by decide) ?_
      refine q_go C tk_L_legOf [(9, 1)] [] (pc1 := 14) (σ1 := σ) (lv1 := [(0, .ref 220), (1, .int g0), (2, .ref 237)]) (st1 := [.int 1]) rfl trivial ?_
      exact q_iret C hr (q_dc (z := (14, .ireturn, 1, 0, 0)) tk_L_legOf 10 rfl) rfl rfl (Nat.le_of_ble_eq_true rfl) (Nat.le_of_ble_eq_true rfl)
    simp only [nx_legOf, List.mem_cons, List.not_mem_nil, or_false] at hE9
    exact absurd hE9 e0
abbrev nx_isRunning : List String := ["java/lang/IndexOutOfBoundsException"]
def W_isRunning (g0 : Int32) (σ : q_M) : Int32 × q_M := match (F_X8_isRunning g0 σ) with | .inl v => (0, (q_up σ 237 0 (if v = 0 then 0 else 1))) | .inr E => (q_code nx_isRunning E, σ)
def tb_L_isRunning : List q_E := [(0, .aload_n 2, 1, 0, 0), (1, .iconst 0, 1, 0, 0), (2, .aload_n 0, 1, 0, 0), (3, .iload_n 1, 1, 0, 0), (4, .invokevirtual 69, 3, 0, 0), (7, .ifCond .eq 7, 3, 0, 14), (10, .lconst 1, 1, 1, 0), (11, .goto 4, 3, 0, 15), (14, .lconst 0, 1, 0, 0), (15, .lastore, 1, 0, 0), (16, .goto 6, 3, 0, 22), (19, .astore_n 3, 1, 0, 0), (20, .iconst 1, 1, 1, 0), (21, .ireturn, 1, 0, 0), (22, .iconst 0, 1, 0, 0), (23, .ireturn, 1, 0, 0)]
theorem tk_L_isRunning : q_tb cL_isRunning 4 tb_L_isRunning = true := by decide +kernel
abbrev hh_L_isRunning : List (Nat × Nat × Nat × Nat) := [(0, 16, 19, 19)]
set_option maxRecDepth 100000 in
theorem kw_isRunning {α β : Nat → Nat} {D : va_G} {κ : Nat → ClassId} (g0 : Int32) (σ : q_M) (hE : ∀ E, (F_X8_isRunning g0 σ) = .inr E → E ∈ nx_isRunning) : q_CW α β D κ yL_isRunning cL_isRunning 4 (some .int) hh_L_isRunning 8 133 1 6 [.ref 220, .int g0, .ref 237] σ (some (.int (W_isRunning g0 σ).1)) (W_isRunning g0 σ).2 := by
  have hk := k_X8_isRunning (α := α) (β := β) (D := D) (κ := κ) g0 σ
  rcases hx : (F_X8_isRunning g0 σ) with v | E
  · have hw : W_isRunning g0 σ = (0, (q_up σ 237 0 (if v = 0 then 0 else 1))) := by unfold W_isRunning; rw [hx]
    rw [hw]
    rw [hx] at hk
    refine q_enterW (own := RL) (F := fun _ => none) (G := fun _ => none) (by decide +kernel) rfl Fok_L Gok_L (Nat.le_of_ble_eq_true rfl) (fun p l e s m args below meth c A hfl C hr hT => ?_)
    refine q_go C tk_L_isRunning [(0, 4)] [] (pc1 := 4) (σ1 := σ) (lv1 := [(0, .ref 220), (1, .int g0), (2, .ref 237)]) (st1 := [.int g0, .ref 220, .int 0, .ref 237]) rfl trivial ?_
    refine q_callV (v := some (.int v)) C hfl mw_X8_isRunning mi_X8_isRunning me_X8_isRunning lk_L_69 hk (rest := [.int 0, .ref 237]) rfl rfl rfl (by decide) (by decide) rfl (q_dc (z := (4, .invokevirtual 69, 3, 0, 0)) tk_L_isRunning 4 rfl) (Nat.le_of_ble_eq_true rfl) ⟨(Nat.le_of_ble_eq_true rfl), (Nat.le_of_ble_eq_true rfl)⟩ ⟨(Nat.le_of_ble_eq_true rfl), (Nat.le_of_ble_eq_true rfl)⟩ ?_
    refine q_nrm 7 [.int v, .int 0, .ref 237] 1 6 rfl rfl rfl rfl ?_
    by_cases c1 : v = 0
    · rw [if_pos c1]
      refine q_go C tk_L_isRunning [(5, 1), (8, 1)] [true] (pc1 := 15) (σ1 := σ) (lv1 := [(0, .ref 220), (1, .int g0), (2, .ref 237)]) (st1 := [.long (0 : Int32).toInt64, .int 0, .ref 237]) rfl ⟨c1, trivial⟩ ?_
      refine q_last C (q_dc (z := (15, .lastore, 1, 0, 0)) tk_L_isRunning 9 rfl) ?_
      refine q_go C tk_L_isRunning [(10, 1), (14, 1)] [] (pc1 := 23) (σ1 := (q_up σ 237 0 0)) (lv1 := [(0, .ref 220), (1, .int g0), (2, .ref 237)]) (st1 := [.int 0]) rfl trivial ?_
      exact q_iret C hr (q_dc (z := (23, .ireturn, 1, 0, 0)) tk_L_isRunning 15 rfl) rfl rfl (Nat.le_of_ble_eq_true rfl) (Nat.le_of_ble_eq_true rfl)
    · rw [if_neg c1]
      refine q_go C tk_L_isRunning [(5, 3)] [false] (pc1 := 15) (σ1 := σ) (lv1 := [(0, .ref 220), (1, .int g0), (2, .ref 237)]) (st1 := [.long (1 : Int32).toInt64, .int 0, .ref 237]) rfl ⟨c1, trivial⟩ ?_
      refine q_last C (q_dc (z := (15, .lastore, 1, 0, 0)) tk_L_isRunning 9 rfl) ?_
      refine q_go C tk_L_isRunning [(10, 1), (14, 1)] [] (pc1 := 23) (σ1 := (q_up σ 237 0 1)) (lv1 := [(0, .ref 220), (1, .int g0), (2, .ref 237)]) (st1 := [.int 0]) rfl trivial ?_
      exact q_iret C hr (q_dc (z := (23, .ireturn, 1, 0, 0)) tk_L_isRunning 15 rfl) rfl rfl (Nat.le_of_ble_eq_true rfl) (Nat.le_of_ble_eq_true rfl)
  · have hw : W_isRunning g0 σ = (q_code nx_isRunning E, σ) := by unfold W_isRunning; rw [hx]
    have hE9 := hE E (by rw [hx])
    rw [hw]
    rw [hx] at hk
    by_cases e0 : E = "java/lang/IndexOutOfBoundsException"
    · subst e0
      have hq : q_code nx_isRunning "java/lang/IndexOutOfBoundsException" = 1 := by decide +kernel
      rw [hq]
      refine q_enterW (own := RL) (F := fun _ => none) (G := fun _ => none) (by decide +kernel) rfl Fok_L Gok_L (Nat.le_of_ble_eq_true rfl) (fun p l e s m args below meth c A hfl C hr hT => ?_)
      refine q_go C tk_L_isRunning [(0, 4)] [] (pc1 := 4) (σ1 := σ) (lv1 := [(0, .ref 220), (1, .int g0), (2, .ref 237)]) (st1 := [.int g0, .ref 220, .int 0, .ref 237]) rfl trivial ?_
      refine q_callVx C hfl mw_X8_isRunning mi_X8_isRunning me_X8_isRunning lk_L_69 hk (rest := [.int 0, .ref 237]) rfl rfl rfl (by decide) (by decide) rfl (q_dc (z := (4, .invokevirtual 69, 3, 0, 0)) tk_L_isRunning 4 rfl) (Nat.le_of_ble_eq_true rfl) ⟨(Nat.le_of_ble_eq_true rfl), (Nat.le_of_ble_eq_true rfl)⟩ ⟨(Nat.le_of_ble_eq_true rfl), (Nat.le_of_ble_eq_true rfl)⟩ ?_
      refine q_catch C [] ⟨0, 16, 19, 19⟩ [] (hT.trans rfl) (by decide +kernel) (fun z hz => by cases hz) (by decide) (by decide) cl_L_19 (by decide +kernel) (i := 3) (len := 1) (q_dc (z := (19, .astore_n 3, 1, 0, 0)) tk_L_isRunning 11 rfl) (Or.inl ⟨3, rfl, rfl, rfl⟩) (by decide) ?_
      refine q_go C tk_L_isRunning [(12, 1)] [] (pc1 := 21) (σ1 := σ) (lv1 := [(0, .ref 220), (1, .int g0), (2, .ref 237)]) (st1 := [.int 1]) rfl trivial ?_
      exact q_iret C hr (q_dc (z := (21, .ireturn, 1, 0, 0)) tk_L_isRunning 13 rfl) rfl rfl (Nat.le_of_ble_eq_true rfl) (Nat.le_of_ble_eq_true rfl)
    simp only [nx_isRunning, List.mem_cons, List.not_mem_nil, or_false] at hE9
    exact absurd hE9 e0
abbrev nx_isInZone : List String := ["java/lang/IndexOutOfBoundsException"]
def W_isInZone (g0 : Int32) (σ : q_M) : Int32 × q_M := match (F_X8_isInZone g0 σ) with | .inl v => (0, (q_up σ 237 0 (if v = 0 then 0 else 1))) | .inr E => (q_code nx_isInZone E, σ)
def tb_L_isInZone : List q_E := [(0, .aload_n 2, 1, 0, 0), (1, .iconst 0, 1, 0, 0), (2, .aload_n 0, 1, 0, 0), (3, .iload_n 1, 1, 0, 0), (4, .invokevirtual 73, 3, 0, 0), (7, .ifCond .eq 7, 3, 0, 14), (10, .lconst 1, 1, 1, 0), (11, .goto 4, 3, 0, 15), (14, .lconst 0, 1, 0, 0), (15, .lastore, 1, 0, 0), (16, .goto 6, 3, 0, 22), (19, .astore_n 3, 1, 0, 0), (20, .iconst 1, 1, 1, 0), (21, .ireturn, 1, 0, 0), (22, .iconst 0, 1, 0, 0), (23, .ireturn, 1, 0, 0)]
theorem tk_L_isInZone : q_tb cL_isInZone 4 tb_L_isInZone = true := by decide +kernel
abbrev hh_L_isInZone : List (Nat × Nat × Nat × Nat) := [(0, 16, 19, 19)]
set_option maxRecDepth 100000 in
theorem kw_isInZone {α β : Nat → Nat} {D : va_G} {κ : Nat → ClassId} (g0 : Int32) (σ : q_M) (hE : ∀ E, (F_X8_isInZone g0 σ) = .inr E → E ∈ nx_isInZone) : q_CW α β D κ yL_isInZone cL_isInZone 4 (some .int) hh_L_isInZone 8 133 1 6 [.ref 220, .int g0, .ref 237] σ (some (.int (W_isInZone g0 σ).1)) (W_isInZone g0 σ).2 := by
  have hk := k_X8_isInZone (α := α) (β := β) (D := D) (κ := κ) g0 σ
  rcases hx : (F_X8_isInZone g0 σ) with v | E
  · have hw : W_isInZone g0 σ = (0, (q_up σ 237 0 (if v = 0 then 0 else 1))) := by unfold W_isInZone; rw [hx]
    rw [hw]
    rw [hx] at hk
    refine q_enterW (own := RL) (F := fun _ => none) (G := fun _ => none) (by decide +kernel) rfl Fok_L Gok_L (Nat.le_of_ble_eq_true rfl) (fun p l e s m args below meth c A hfl C hr hT => ?_)
    refine q_go C tk_L_isInZone [(0, 4)] [] (pc1 := 4) (σ1 := σ) (lv1 := [(0, .ref 220), (1, .int g0), (2, .ref 237)]) (st1 := [.int g0, .ref 220, .int 0, .ref 237]) rfl trivial ?_
    refine q_callV (v := some (.int v)) C hfl mw_X8_isInZone mi_X8_isInZone me_X8_isInZone lk_L_73 hk (rest := [.int 0, .ref 237]) rfl rfl rfl (by decide) (by decide) rfl (q_dc (z := (4, .invokevirtual 73, 3, 0, 0)) tk_L_isInZone 4 rfl) (Nat.le_of_ble_eq_true rfl) ⟨(Nat.le_of_ble_eq_true rfl), (Nat.le_of_ble_eq_true rfl)⟩ ⟨(Nat.le_of_ble_eq_true rfl), (Nat.le_of_ble_eq_true rfl)⟩ ?_
    refine q_nrm 7 [.int v, .int 0, .ref 237] 1 6 rfl rfl rfl rfl ?_
    by_cases c1 : v = 0
    · rw [if_pos c1]
      refine q_go C tk_L_isInZone [(5, 1), (8, 1)] [true] (pc1 := 15) (σ1 := σ) (lv1 := [(0, .ref 220), (1, .int g0), (2, .ref 237)]) (st1 := [.long (0 : Int32).toInt64, .int 0, .ref 237]) rfl ⟨c1, trivial⟩ ?_
      refine q_last C (q_dc (z := (15, .lastore, 1, 0, 0)) tk_L_isInZone 9 rfl) ?_
      refine q_go C tk_L_isInZone [(10, 1), (14, 1)] [] (pc1 := 23) (σ1 := (q_up σ 237 0 0)) (lv1 := [(0, .ref 220), (1, .int g0), (2, .ref 237)]) (st1 := [.int 0]) rfl trivial ?_
      exact q_iret C hr (q_dc (z := (23, .ireturn, 1, 0, 0)) tk_L_isInZone 15 rfl) rfl rfl (Nat.le_of_ble_eq_true rfl) (Nat.le_of_ble_eq_true rfl)
    · rw [if_neg c1]
      refine q_go C tk_L_isInZone [(5, 3)] [false] (pc1 := 15) (σ1 := σ) (lv1 := [(0, .ref 220), (1, .int g0), (2, .ref 237)]) (st1 := [.long (1 : Int32).toInt64, .int 0, .ref 237]) rfl ⟨c1, trivial⟩ ?_
      refine q_last C (q_dc (z := (15, .lastore, 1, 0, 0)) tk_L_isInZone 9 rfl) ?_
      refine q_go C tk_L_isInZone [(10, 1), (14, 1)] [] (pc1 := 23) (σ1 := (q_up σ 237 0 1)) (lv1 := [(0, .ref 220), (1, .int g0), (2, .ref 237)]) (st1 := [.int 0]) rfl trivial ?_
      exact q_iret C hr (q_dc (z := (23, .ireturn, 1, 0, 0)) tk_L_isInZone 15 rfl) rfl rfl (Nat.le_of_ble_eq_true rfl) (Nat.le_of_ble_eq_true rfl)
  · have hw : W_isInZone g0 σ = (q_code nx_isInZone E, σ) := by unfold W_isInZone; rw [hx]
    have hE9 := hE E (by rw [hx])
    rw [hw]
    rw [hx] at hk
    by_cases e0 : E = "java/lang/IndexOutOfBoundsException"
    · subst e0
      have hq : q_code nx_isInZone "java/lang/IndexOutOfBoundsException" = 1 := by decide +kernel
      rw [hq]
      refine q_enterW (own := RL) (F := fun _ => none) (G := fun _ => none) (by decide +kernel) rfl Fok_L Gok_L (Nat.le_of_ble_eq_true rfl) (fun p l e s m args below meth c A hfl C hr hT => ?_)
      refine q_go C tk_L_isInZone [(0, 4)] [] (pc1 := 4) (σ1 := σ) (lv1 := [(0, .ref 220), (1, .int g0), (2, .ref 237)]) (st1 := [.int g0, .ref 220, .int 0, .ref 237]) rfl trivial ?_
      refine q_callVx C hfl mw_X8_isInZone mi_X8_isInZone me_X8_isInZone lk_L_73 hk (rest := [.int 0, .ref 237]) rfl rfl rfl (by decide) (by decide) rfl (q_dc (z := (4, .invokevirtual 73, 3, 0, 0)) tk_L_isInZone 4 rfl) (Nat.le_of_ble_eq_true rfl) ⟨(Nat.le_of_ble_eq_true rfl), (Nat.le_of_ble_eq_true rfl)⟩ ⟨(Nat.le_of_ble_eq_true rfl), (Nat.le_of_ble_eq_true rfl)⟩ ?_
      refine q_catch C [] ⟨0, 16, 19, 19⟩ [] (hT.trans rfl) (by decide +kernel) (fun z hz => by cases hz) (by decide) (by decide) cl_L_19 (by decide +kernel) (i := 3) (len := 1) (q_dc (z := (19, .astore_n 3, 1, 0, 0)) tk_L_isInZone 11 rfl) (Or.inl ⟨3, rfl, rfl, rfl⟩) (by decide) ?_
      refine q_go C tk_L_isInZone [(12, 1)] [] (pc1 := 21) (σ1 := σ) (lv1 := [(0, .ref 220), (1, .int g0), (2, .ref 237)]) (st1 := [.int 1]) rfl trivial ?_
      exact q_iret C hr (q_dc (z := (21, .ireturn, 1, 0, 0)) tk_L_isInZone 13 rfl) rfl rfl (Nat.le_of_ble_eq_true rfl) (Nat.le_of_ble_eq_true rfl)
    simp only [nx_isInZone, List.mem_cons, List.not_mem_nil, or_false] at hE9
    exact absurd hE9 e0
abbrev nx_standingOf : List String := ["java/lang/IndexOutOfBoundsException"]
def W_standingOf (g0 : Int32) (σ : q_M) : Int32 × q_M := match (F_X8_standingOf g0 σ) with | .inl v => (0, (q_up σ 237 0 v)) | .inr E => (q_code nx_standingOf E, σ)
def tb_L_standingOf : List q_E := [(0, .aload_n 2, 1, 0, 0), (1, .iconst 0, 1, 0, 0), (2, .aload_n 0, 1, 0, 0), (3, .iload_n 1, 1, 0, 0), (4, .invokevirtual 76, 3, 0, 0), (7, .i2l, 1, 0, 0), (8, .lastore, 1, 0, 0), (9, .goto 6, 3, 0, 15), (12, .astore_n 3, 1, 0, 0), (13, .iconst 1, 1, 1, 0), (14, .ireturn, 1, 0, 0), (15, .iconst 0, 1, 0, 0), (16, .ireturn, 1, 0, 0)]
theorem tk_L_standingOf : q_tb cL_standingOf 4 tb_L_standingOf = true := by decide +kernel
abbrev hh_L_standingOf : List (Nat × Nat × Nat × Nat) := [(0, 9, 12, 19)]
set_option maxRecDepth 100000 in
theorem kw_standingOf {α β : Nat → Nat} {D : va_G} {κ : Nat → ClassId} (g0 : Int32) (σ : q_M) (hE : ∀ E, (F_X8_standingOf g0 σ) = .inr E → E ∈ nx_standingOf) : q_CW α β D κ yL_standingOf cL_standingOf 4 (some .int) hh_L_standingOf 8 133 1 6 [.ref 220, .int g0, .ref 237] σ (some (.int (W_standingOf g0 σ).1)) (W_standingOf g0 σ).2 := by
  have hk := k_X8_standingOf (α := α) (β := β) (D := D) (κ := κ) g0 σ
  rcases hx : (F_X8_standingOf g0 σ) with v | E
  · have hw : W_standingOf g0 σ = (0, (q_up σ 237 0 v)) := by unfold W_standingOf; rw [hx]
    rw [hw]
    rw [hx] at hk
    refine q_enterW (own := RL) (F := fun _ => none) (G := fun _ => none) (by decide +kernel) rfl Fok_L Gok_L (Nat.le_of_ble_eq_true rfl) (fun p l e s m args below meth c A hfl C hr hT => ?_)
    refine q_go C tk_L_standingOf [(0, 4)] [] (pc1 := 4) (σ1 := σ) (lv1 := [(0, .ref 220), (1, .int g0), (2, .ref 237)]) (st1 := [.int g0, .ref 220, .int 0, .ref 237]) rfl trivial ?_
    refine q_callV (v := some (.int v)) C hfl mw_X8_standingOf mi_X8_standingOf me_X8_standingOf lk_L_76 hk (rest := [.int 0, .ref 237]) rfl rfl rfl (by decide) (by decide) rfl (q_dc (z := (4, .invokevirtual 76, 3, 0, 0)) tk_L_standingOf 4 rfl) (Nat.le_of_ble_eq_true rfl) ⟨(Nat.le_of_ble_eq_true rfl), (Nat.le_of_ble_eq_true rfl)⟩ ⟨(Nat.le_of_ble_eq_true rfl), (Nat.le_of_ble_eq_true rfl)⟩ ?_
    refine q_nrm 7 [.int v, .int 0, .ref 237] 1 6 rfl rfl rfl rfl ?_
    refine q_go C tk_L_standingOf [(5, 1)] [] (pc1 := 8) (σ1 := σ) (lv1 := [(0, .ref 220), (1, .int g0), (2, .ref 237)]) (st1 := [.long v.toInt64, .int 0, .ref 237]) rfl trivial ?_
    refine q_last C (q_dc (z := (8, .lastore, 1, 0, 0)) tk_L_standingOf 6 rfl) ?_
    refine q_go C tk_L_standingOf [(7, 1), (11, 1)] [] (pc1 := 16) (σ1 := (q_up σ 237 0 v)) (lv1 := [(0, .ref 220), (1, .int g0), (2, .ref 237)]) (st1 := [.int 0]) rfl trivial ?_
    exact q_iret C hr (q_dc (z := (16, .ireturn, 1, 0, 0)) tk_L_standingOf 12 rfl) rfl rfl (Nat.le_of_ble_eq_true rfl) (Nat.le_of_ble_eq_true rfl)
  · have hw : W_standingOf g0 σ = (q_code nx_standingOf E, σ) := by unfold W_standingOf; rw [hx]
    have hE9 := hE E (by rw [hx])
    rw [hw]
    rw [hx] at hk
    by_cases e0 : E = "java/lang/IndexOutOfBoundsException"
    · subst e0
      have hq : q_code nx_standingOf "java/lang/IndexOutOfBoundsException" = 1 := by decide +kernel
      rw [hq]
      refine q_enterW (own := RL) (F := fun _ => none) (G := fun _ => none) (by decide +kernel) rfl Fok_L Gok_L (Nat.le_of_ble_eq_true rfl) (fun p l e s m args below meth c A hfl C hr hT => ?_)
      refine q_go C tk_L_standingOf [(0, 4)] [] (pc1 := 4) (σ1 := σ) (lv1 := [(0, .ref 220), (1, .int g0), (2, .ref 237)]) (st1 := [.int g0, .ref 220, .int 0, .ref 237]) rfl trivial ?_
      refine q_callVx C hfl mw_X8_standingOf mi_X8_standingOf me_X8_standingOf lk_L_76 hk (rest := [.int 0, .ref 237]) rfl rfl rfl (by decide) (by decide) rfl (q_dc (z := (4, .invokevirtual 76, 3, 0, 0)) tk_L_standingOf 4 rfl) (Nat.le_of_ble_eq_true rfl) ⟨(Nat.le_of_ble_eq_true rfl), (Nat.le_of_ble_eq_true rfl)⟩ ⟨(Nat.le_of_ble_eq_true rfl), (Nat.le_of_ble_eq_true rfl)⟩ ?_
      refine q_catch C [] ⟨0, 9, 12, 19⟩ [] (hT.trans rfl) (by decide +kernel) (fun z hz => by cases hz) (by decide) (by decide) cl_L_19 (by decide +kernel) (i := 3) (len := 1) (q_dc (z := (12, .astore_n 3, 1, 0, 0)) tk_L_standingOf 8 rfl) (Or.inl ⟨3, rfl, rfl, rfl⟩) (by decide) ?_
      refine q_go C tk_L_standingOf [(9, 1)] [] (pc1 := 14) (σ1 := σ) (lv1 := [(0, .ref 220), (1, .int g0), (2, .ref 237)]) (st1 := [.int 1]) rfl trivial ?_
      exact q_iret C hr (q_dc (z := (14, .ireturn, 1, 0, 0)) tk_L_standingOf 10 rfl) rfl rfl (Nat.le_of_ble_eq_true rfl) (Nat.le_of_ble_eq_true rfl)
    simp only [nx_standingOf, List.mem_cons, List.not_mem_nil, or_false] at hE9
    exact absurd hE9 e0
abbrev nx_penaltyOf : List String := ["java/lang/IndexOutOfBoundsException"]
def W_penaltyOf (g0 : Int32) (σ : q_M) : Int32 × q_M := match (F_X8_penaltyOf g0 σ) with | .inl v => (0, (q_up σ 237 0 v)) | .inr E => (q_code nx_penaltyOf E, σ)
def tb_L_penaltyOf : List q_E := [(0, .aload_n 2, 1, 0, 0), (1, .iconst 0, 1, 0, 0), (2, .aload_n 0, 1, 0, 0), (3, .iload_n 1, 1, 0, 0), (4, .invokevirtual 79, 3, 0, 0), (7, .i2l, 1, 0, 0), (8, .lastore, 1, 0, 0), (9, .goto 6, 3, 0, 15), (12, .astore_n 3, 1, 0, 0), (13, .iconst 1, 1, 1, 0), (14, .ireturn, 1, 0, 0), (15, .iconst 0, 1, 0, 0), (16, .ireturn, 1, 0, 0)]
theorem tk_L_penaltyOf : q_tb cL_penaltyOf 4 tb_L_penaltyOf = true := by decide +kernel
abbrev hh_L_penaltyOf : List (Nat × Nat × Nat × Nat) := [(0, 9, 12, 19)]
set_option maxRecDepth 100000 in
theorem kw_penaltyOf {α β : Nat → Nat} {D : va_G} {κ : Nat → ClassId} (g0 : Int32) (σ : q_M) (hE : ∀ E, (F_X8_penaltyOf g0 σ) = .inr E → E ∈ nx_penaltyOf) : q_CW α β D κ yL_penaltyOf cL_penaltyOf 4 (some .int) hh_L_penaltyOf 8 133 1 6 [.ref 220, .int g0, .ref 237] σ (some (.int (W_penaltyOf g0 σ).1)) (W_penaltyOf g0 σ).2 := by
  have hk := k_X8_penaltyOf (α := α) (β := β) (D := D) (κ := κ) g0 σ
  rcases hx : (F_X8_penaltyOf g0 σ) with v | E
  · have hw : W_penaltyOf g0 σ = (0, (q_up σ 237 0 v)) := by unfold W_penaltyOf; rw [hx]
    rw [hw]
    rw [hx] at hk
    refine q_enterW (own := RL) (F := fun _ => none) (G := fun _ => none) (by decide +kernel) rfl Fok_L Gok_L (Nat.le_of_ble_eq_true rfl) (fun p l e s m args below meth c A hfl C hr hT => ?_)
    refine q_go C tk_L_penaltyOf [(0, 4)] [] (pc1 := 4) (σ1 := σ) (lv1 := [(0, .ref 220), (1, .int g0), (2, .ref 237)]) (st1 := [.int g0, .ref 220, .int 0, .ref 237]) rfl trivial ?_
    refine q_callV (v := some (.int v)) C hfl mw_X8_penaltyOf mi_X8_penaltyOf me_X8_penaltyOf lk_L_79 hk (rest := [.int 0, .ref 237]) rfl rfl rfl (by decide) (by decide) rfl (q_dc (z := (4, .invokevirtual 79, 3, 0, 0)) tk_L_penaltyOf 4 rfl) (Nat.le_of_ble_eq_true rfl) ⟨(Nat.le_of_ble_eq_true rfl), (Nat.le_of_ble_eq_true rfl)⟩ ⟨(Nat.le_of_ble_eq_true rfl), (Nat.le_of_ble_eq_true rfl)⟩ ?_
    refine q_nrm 7 [.int v, .int 0, .ref 237] 1 6 rfl rfl rfl rfl ?_
    refine q_go C tk_L_penaltyOf [(5, 1)] [] (pc1 := 8) (σ1 := σ) (lv1 := [(0, .ref 220), (1, .int g0), (2, .ref 237)]) (st1 := [.long v.toInt64, .int 0, .ref 237]) rfl trivial ?_
    refine q_last C (q_dc (z := (8, .lastore, 1, 0, 0)) tk_L_penaltyOf 6 rfl) ?_
    refine q_go C tk_L_penaltyOf [(7, 1), (11, 1)] [] (pc1 := 16) (σ1 := (q_up σ 237 0 v)) (lv1 := [(0, .ref 220), (1, .int g0), (2, .ref 237)]) (st1 := [.int 0]) rfl trivial ?_
    exact q_iret C hr (q_dc (z := (16, .ireturn, 1, 0, 0)) tk_L_penaltyOf 12 rfl) rfl rfl (Nat.le_of_ble_eq_true rfl) (Nat.le_of_ble_eq_true rfl)
  · have hw : W_penaltyOf g0 σ = (q_code nx_penaltyOf E, σ) := by unfold W_penaltyOf; rw [hx]
    have hE9 := hE E (by rw [hx])
    rw [hw]
    rw [hx] at hk
    by_cases e0 : E = "java/lang/IndexOutOfBoundsException"
    · subst e0
      have hq : q_code nx_penaltyOf "java/lang/IndexOutOfBoundsException" = 1 := by decide +kernel
      rw [hq]
      refine q_enterW (own := RL) (F := fun _ => none) (G := fun _ => none) (by decide +kernel) rfl Fok_L Gok_L (Nat.le_of_ble_eq_true rfl) (fun p l e s m args below meth c A hfl C hr hT => ?_)
      refine q_go C tk_L_penaltyOf [(0, 4)] [] (pc1 := 4) (σ1 := σ) (lv1 := [(0, .ref 220), (1, .int g0), (2, .ref 237)]) (st1 := [.int g0, .ref 220, .int 0, .ref 237]) rfl trivial ?_
      refine q_callVx C hfl mw_X8_penaltyOf mi_X8_penaltyOf me_X8_penaltyOf lk_L_79 hk (rest := [.int 0, .ref 237]) rfl rfl rfl (by decide) (by decide) rfl (q_dc (z := (4, .invokevirtual 79, 3, 0, 0)) tk_L_penaltyOf 4 rfl) (Nat.le_of_ble_eq_true rfl) ⟨(Nat.le_of_ble_eq_true rfl), (Nat.le_of_ble_eq_true rfl)⟩ ⟨(Nat.le_of_ble_eq_true rfl), (Nat.le_of_ble_eq_true rfl)⟩ ?_
      refine q_catch C [] ⟨0, 9, 12, 19⟩ [] (hT.trans rfl) (by decide +kernel) (fun z hz => by cases hz) (by decide) (by decide) cl_L_19 (by decide +kernel) (i := 3) (len := 1) (q_dc (z := (12, .astore_n 3, 1, 0, 0)) tk_L_penaltyOf 8 rfl) (Or.inl ⟨3, rfl, rfl, rfl⟩) (by decide) ?_
      refine q_go C tk_L_penaltyOf [(9, 1)] [] (pc1 := 14) (σ1 := σ) (lv1 := [(0, .ref 220), (1, .int g0), (2, .ref 237)]) (st1 := [.int 1]) rfl trivial ?_
      exact q_iret C hr (q_dc (z := (14, .ireturn, 1, 0, 0)) tk_L_penaltyOf 10 rfl) rfl rfl (Nat.le_of_ble_eq_true rfl) (Nat.le_of_ble_eq_true rfl)
    simp only [nx_penaltyOf, List.mem_cons, List.not_mem_nil, or_false] at hE9
    exact absurd hE9 e0
abbrev nx_hasFoul : List String := ["java/lang/IndexOutOfBoundsException", "java/lang/IllegalArgumentException"]
def W_hasFoul (g0 : Int32) (g1 : Int32) (σ : q_M) : Int32 × q_M := match (F_X8_hasFoul g0 g1 σ) with | .inl v => (0, (q_up σ 237 0 (if v = 0 then 0 else 1))) | .inr E => (q_code nx_hasFoul E, σ)
def tb_L_hasFoul : List q_E := [(0, .aload_n 3, 1, 0, 0), (1, .iconst 0, 1, 0, 0), (2, .aload_n 0, 1, 0, 0), (3, .iload_n 1, 1, 0, 0), (4, .iload_n 2, 1, 0, 0), (5, .invokevirtual 82, 3, 0, 0), (8, .ifCond .eq 7, 3, 0, 15), (11, .lconst 1, 1, 1, 0), (12, .goto 4, 3, 0, 16), (15, .lconst 0, 1, 0, 0), (16, .lastore, 1, 0, 0), (17, .goto 11, 3, 0, 28), (20, .astore 4, 2, 0, 0), (22, .iconst 1, 1, 1, 0), (23, .ireturn, 1, 0, 0), (24, .astore 4, 2, 0, 0), (26, .iconst 2, 1, 2, 0), (27, .ireturn, 1, 0, 0), (28, .iconst 0, 1, 0, 0), (29, .ireturn, 1, 0, 0)]
theorem tk_L_hasFoul : q_tb cL_hasFoul 5 tb_L_hasFoul = true := by decide +kernel
abbrev hh_L_hasFoul : List (Nat × Nat × Nat × Nat) := [(0, 17, 20, 19), (0, 17, 24, 21)]
set_option maxRecDepth 100000 in
theorem kw_hasFoul {α β : Nat → Nat} {D : va_G} {κ : Nat → ClassId} (g0 : Int32) (g1 : Int32) (σ : q_M) (hP : P_X8_hasFoul g0 g1 σ) (hE : ∀ E, (F_X8_hasFoul g0 g1 σ) = .inr E → E ∈ nx_hasFoul) : q_CW α β D κ yL_hasFoul cL_hasFoul 5 (some .int) hh_L_hasFoul 8 135 2 12 [.ref 220, .int g0, .int g1, .ref 237] σ (some (.int (W_hasFoul g0 g1 σ).1)) (W_hasFoul g0 g1 σ).2 := by
  have hk := k_X8_hasFoul (α := α) (β := β) (D := D) (κ := κ) g0 g1 σ hP
  rcases hx : (F_X8_hasFoul g0 g1 σ) with v | E
  · have hw : W_hasFoul g0 g1 σ = (0, (q_up σ 237 0 (if v = 0 then 0 else 1))) := by unfold W_hasFoul; rw [hx]
    rw [hw]
    rw [hx] at hk
    refine q_enterW (own := RL) (F := fun _ => none) (G := fun _ => none) (by decide +kernel) rfl Fok_L Gok_L (Nat.le_of_ble_eq_true rfl) (fun p l e s m args below meth c A hfl C hr hT => ?_)
    refine q_go C tk_L_hasFoul [(0, 5)] [] (pc1 := 5) (σ1 := σ) (lv1 := [(0, .ref 220), (1, .int g0), (2, .int g1), (3, .ref 237)]) (st1 := [.int g1, .int g0, .ref 220, .int 0, .ref 237]) rfl trivial ?_
    refine q_callV (v := some (.int v)) C hfl mw_X8_hasFoul mi_X8_hasFoul me_X8_hasFoul lk_L_82 hk (rest := [.int 0, .ref 237]) rfl rfl rfl (by decide) (by decide) rfl (q_dc (z := (5, .invokevirtual 82, 3, 0, 0)) tk_L_hasFoul 5 rfl) (Nat.le_of_ble_eq_true rfl) ⟨(Nat.le_of_ble_eq_true rfl), (Nat.le_of_ble_eq_true rfl)⟩ ⟨(Nat.le_of_ble_eq_true rfl), (Nat.le_of_ble_eq_true rfl)⟩ ?_
    refine q_nrm 8 [.int v, .int 0, .ref 237] 2 12 rfl rfl rfl rfl ?_
    by_cases c1 : v = 0
    · rw [if_pos c1]
      refine q_go C tk_L_hasFoul [(6, 1), (9, 1)] [true] (pc1 := 16) (σ1 := σ) (lv1 := [(0, .ref 220), (1, .int g0), (2, .int g1), (3, .ref 237)]) (st1 := [.long (0 : Int32).toInt64, .int 0, .ref 237]) rfl ⟨c1, trivial⟩ ?_
      refine q_last C (q_dc (z := (16, .lastore, 1, 0, 0)) tk_L_hasFoul 10 rfl) ?_
      refine q_go C tk_L_hasFoul [(11, 1), (18, 1)] [] (pc1 := 29) (σ1 := (q_up σ 237 0 0)) (lv1 := [(0, .ref 220), (1, .int g0), (2, .int g1), (3, .ref 237)]) (st1 := [.int 0]) rfl trivial ?_
      exact q_iret C hr (q_dc (z := (29, .ireturn, 1, 0, 0)) tk_L_hasFoul 19 rfl) rfl rfl (Nat.le_of_ble_eq_true rfl) (Nat.le_of_ble_eq_true rfl)
    · rw [if_neg c1]
      refine q_go C tk_L_hasFoul [(6, 3)] [false] (pc1 := 16) (σ1 := σ) (lv1 := [(0, .ref 220), (1, .int g0), (2, .int g1), (3, .ref 237)]) (st1 := [.long (1 : Int32).toInt64, .int 0, .ref 237]) rfl ⟨c1, trivial⟩ ?_
      refine q_last C (q_dc (z := (16, .lastore, 1, 0, 0)) tk_L_hasFoul 10 rfl) ?_
      refine q_go C tk_L_hasFoul [(11, 1), (18, 1)] [] (pc1 := 29) (σ1 := (q_up σ 237 0 1)) (lv1 := [(0, .ref 220), (1, .int g0), (2, .int g1), (3, .ref 237)]) (st1 := [.int 0]) rfl trivial ?_
      exact q_iret C hr (q_dc (z := (29, .ireturn, 1, 0, 0)) tk_L_hasFoul 19 rfl) rfl rfl (Nat.le_of_ble_eq_true rfl) (Nat.le_of_ble_eq_true rfl)
  · have hw : W_hasFoul g0 g1 σ = (q_code nx_hasFoul E, σ) := by unfold W_hasFoul; rw [hx]
    have hE9 := hE E (by rw [hx])
    rw [hw]
    rw [hx] at hk
    by_cases e0 : E = "java/lang/IndexOutOfBoundsException"
    · subst e0
      have hq : q_code nx_hasFoul "java/lang/IndexOutOfBoundsException" = 1 := by decide +kernel
      rw [hq]
      refine q_enterW (own := RL) (F := fun _ => none) (G := fun _ => none) (by decide +kernel) rfl Fok_L Gok_L (Nat.le_of_ble_eq_true rfl) (fun p l e s m args below meth c A hfl C hr hT => ?_)
      refine q_go C tk_L_hasFoul [(0, 5)] [] (pc1 := 5) (σ1 := σ) (lv1 := [(0, .ref 220), (1, .int g0), (2, .int g1), (3, .ref 237)]) (st1 := [.int g1, .int g0, .ref 220, .int 0, .ref 237]) rfl trivial ?_
      refine q_callVx C hfl mw_X8_hasFoul mi_X8_hasFoul me_X8_hasFoul lk_L_82 hk (rest := [.int 0, .ref 237]) rfl rfl rfl (by decide) (by decide) rfl (q_dc (z := (5, .invokevirtual 82, 3, 0, 0)) tk_L_hasFoul 5 rfl) (Nat.le_of_ble_eq_true rfl) ⟨(Nat.le_of_ble_eq_true rfl), (Nat.le_of_ble_eq_true rfl)⟩ ⟨(Nat.le_of_ble_eq_true rfl), (Nat.le_of_ble_eq_true rfl)⟩ ?_
      refine q_catch C [] ⟨0, 17, 20, 19⟩ [⟨0, 17, 24, 21⟩] (hT.trans rfl) (by decide +kernel) (fun z hz => by cases hz) (by decide) (by decide) cl_L_19 (by decide +kernel) (i := 4) (len := 2) (q_dc (z := (20, .astore 4, 2, 0, 0)) tk_L_hasFoul 12 rfl) (Or.inr ⟨rfl, rfl⟩) (by decide) ?_
      refine q_go C tk_L_hasFoul [(13, 1)] [] (pc1 := 23) (σ1 := σ) (lv1 := [(0, .ref 220), (1, .int g0), (2, .int g1), (3, .ref 237)]) (st1 := [.int 1]) rfl trivial ?_
      exact q_iret C hr (q_dc (z := (23, .ireturn, 1, 0, 0)) tk_L_hasFoul 14 rfl) rfl rfl (Nat.le_of_ble_eq_true rfl) (Nat.le_of_ble_eq_true rfl)
    by_cases e1 : E = "java/lang/IllegalArgumentException"
    · subst e1
      have hq : q_code nx_hasFoul "java/lang/IllegalArgumentException" = 2 := by decide +kernel
      rw [hq]
      refine q_enterW (own := RL) (F := fun _ => none) (G := fun _ => none) (by decide +kernel) rfl Fok_L Gok_L (Nat.le_of_ble_eq_true rfl) (fun p l e s m args below meth c A hfl C hr hT => ?_)
      refine q_go C tk_L_hasFoul [(0, 5)] [] (pc1 := 5) (σ1 := σ) (lv1 := [(0, .ref 220), (1, .int g0), (2, .int g1), (3, .ref 237)]) (st1 := [.int g1, .int g0, .ref 220, .int 0, .ref 237]) rfl trivial ?_
      refine q_callVx C hfl mw_X8_hasFoul mi_X8_hasFoul me_X8_hasFoul lk_L_82 hk (rest := [.int 0, .ref 237]) rfl rfl rfl (by decide) (by decide) rfl (q_dc (z := (5, .invokevirtual 82, 3, 0, 0)) tk_L_hasFoul 5 rfl) (Nat.le_of_ble_eq_true rfl) ⟨(Nat.le_of_ble_eq_true rfl), (Nat.le_of_ble_eq_true rfl)⟩ ⟨(Nat.le_of_ble_eq_true rfl), (Nat.le_of_ble_eq_true rfl)⟩ ?_
      refine q_catch C [⟨0, 17, 20, 19⟩] ⟨0, 17, 24, 21⟩ [] (hT.trans rfl) (by decide +kernel) (fun z hz => by simp only [List.mem_cons, List.not_mem_nil, or_false] at hz; rcases hz with rfl <;> first | exact ⟨by decide, _, (by decide +kernel : "java/lang/IndexOutOfBoundsException" ∈ q_XS), (by decide +kernel), cl_L_19⟩) (by decide) (by decide) cl_L_21 (by decide +kernel) (i := 4) (len := 2) (q_dc (z := (24, .astore 4, 2, 0, 0)) tk_L_hasFoul 15 rfl) (Or.inr ⟨rfl, rfl⟩) (by decide) ?_
      refine q_go C tk_L_hasFoul [(16, 1)] [] (pc1 := 27) (σ1 := σ) (lv1 := [(0, .ref 220), (1, .int g0), (2, .int g1), (3, .ref 237)]) (st1 := [.int 2]) rfl trivial ?_
      exact q_iret C hr (q_dc (z := (27, .ireturn, 1, 0, 0)) tk_L_hasFoul 17 rfl) rfl rfl (Nat.le_of_ble_eq_true rfl) (Nat.le_of_ble_eq_true rfl)
    simp only [nx_hasFoul, List.mem_cons, List.not_mem_nil, or_false] at hE9
    rcases hE9 with h | h
    · exact absurd h e0
    · exact absurd h e1
abbrev nx_splitOf : List String := ["java/lang/IndexOutOfBoundsException", "java/util/NoSuchElementException"]
def W_splitOf (g0 : Int32) (g1 : Int32) (σ : q_M) : Int32 × q_M := match (F_X8_splitOf g0 g1 σ) with | .inl v => (0, (q_up σ 237 0 v)) | .inr E => (q_code nx_splitOf E, σ)
def tb_L_splitOf : List q_E := [(0, .aload_n 3, 1, 0, 0), (1, .iconst 0, 1, 0, 0), (2, .aload_n 0, 1, 0, 0), (3, .iload_n 1, 1, 0, 0), (4, .iload_n 2, 1, 0, 0), (5, .invokevirtual 86, 3, 0, 0), (8, .i2l, 1, 0, 0), (9, .lastore, 1, 0, 0), (10, .goto 11, 3, 0, 21), (13, .astore 4, 2, 0, 0), (15, .iconst 1, 1, 1, 0), (16, .ireturn, 1, 0, 0), (17, .astore 4, 2, 0, 0), (19, .iconst 2, 1, 2, 0), (20, .ireturn, 1, 0, 0), (21, .iconst 0, 1, 0, 0), (22, .ireturn, 1, 0, 0)]
theorem tk_L_splitOf : q_tb cL_splitOf 5 tb_L_splitOf = true := by decide +kernel
abbrev hh_L_splitOf : List (Nat × Nat × Nat × Nat) := [(0, 10, 13, 19), (0, 10, 17, 58)]
set_option maxRecDepth 100000 in
theorem kw_splitOf {α β : Nat → Nat} {D : va_G} {κ : Nat → ClassId} (g0 : Int32) (g1 : Int32) (σ : q_M) (hP : P_X8_splitOf g0 g1 σ) (hE : ∀ E, (F_X8_splitOf g0 g1 σ) = .inr E → E ∈ nx_splitOf) : q_CW α β D κ yL_splitOf cL_splitOf 5 (some .int) hh_L_splitOf 9 158 3 18 [.ref 220, .int g0, .int g1, .ref 237] σ (some (.int (W_splitOf g0 g1 σ).1)) (W_splitOf g0 g1 σ).2 := by
  have hk := k_X8_splitOf (α := α) (β := β) (D := D) (κ := κ) g0 g1 σ hP
  rcases hx : (F_X8_splitOf g0 g1 σ) with v | E
  · have hw : W_splitOf g0 g1 σ = (0, (q_up σ 237 0 v)) := by unfold W_splitOf; rw [hx]
    rw [hw]
    rw [hx] at hk
    refine q_enterW (own := RL) (F := fun _ => none) (G := fun _ => none) (by decide +kernel) rfl Fok_L Gok_L (Nat.le_of_ble_eq_true rfl) (fun p l e s m args below meth c A hfl C hr hT => ?_)
    refine q_go C tk_L_splitOf [(0, 5)] [] (pc1 := 5) (σ1 := σ) (lv1 := [(0, .ref 220), (1, .int g0), (2, .int g1), (3, .ref 237)]) (st1 := [.int g1, .int g0, .ref 220, .int 0, .ref 237]) rfl trivial ?_
    refine q_callV (v := some (.int v)) C hfl mw_X8_splitOf mi_X8_splitOf me_X8_splitOf lk_L_86 hk (rest := [.int 0, .ref 237]) rfl rfl rfl (by decide) (by decide) rfl (q_dc (z := (5, .invokevirtual 86, 3, 0, 0)) tk_L_splitOf 5 rfl) (Nat.le_of_ble_eq_true rfl) ⟨(Nat.le_of_ble_eq_true rfl), (Nat.le_of_ble_eq_true rfl)⟩ ⟨(Nat.le_of_ble_eq_true rfl), (Nat.le_of_ble_eq_true rfl)⟩ ?_
    refine q_nrm 8 [.int v, .int 0, .ref 237] 3 18 rfl rfl rfl rfl ?_
    refine q_go C tk_L_splitOf [(6, 1)] [] (pc1 := 9) (σ1 := σ) (lv1 := [(0, .ref 220), (1, .int g0), (2, .int g1), (3, .ref 237)]) (st1 := [.long v.toInt64, .int 0, .ref 237]) rfl trivial ?_
    refine q_last C (q_dc (z := (9, .lastore, 1, 0, 0)) tk_L_splitOf 7 rfl) ?_
    refine q_go C tk_L_splitOf [(8, 1), (15, 1)] [] (pc1 := 22) (σ1 := (q_up σ 237 0 v)) (lv1 := [(0, .ref 220), (1, .int g0), (2, .int g1), (3, .ref 237)]) (st1 := [.int 0]) rfl trivial ?_
    exact q_iret C hr (q_dc (z := (22, .ireturn, 1, 0, 0)) tk_L_splitOf 16 rfl) rfl rfl (Nat.le_of_ble_eq_true rfl) (Nat.le_of_ble_eq_true rfl)
  · have hw : W_splitOf g0 g1 σ = (q_code nx_splitOf E, σ) := by unfold W_splitOf; rw [hx]
    have hE9 := hE E (by rw [hx])
    rw [hw]
    rw [hx] at hk
    by_cases e0 : E = "java/lang/IndexOutOfBoundsException"
    · subst e0
      have hq : q_code nx_splitOf "java/lang/IndexOutOfBoundsException" = 1 := by decide +kernel
      rw [hq]
      refine q_enterW (own := RL) (F := fun _ => none) (G := fun _ => none) (by decide +kernel) rfl Fok_L Gok_L (Nat.le_of_ble_eq_true rfl) (fun p l e s m args below meth c A hfl C hr hT => ?_)
      refine q_go C tk_L_splitOf [(0, 5)] [] (pc1 := 5) (σ1 := σ) (lv1 := [(0, .ref 220), (1, .int g0), (2, .int g1), (3, .ref 237)]) (st1 := [.int g1, .int g0, .ref 220, .int 0, .ref 237]) rfl trivial ?_
      refine q_callVx C hfl mw_X8_splitOf mi_X8_splitOf me_X8_splitOf lk_L_86 hk (rest := [.int 0, .ref 237]) rfl rfl rfl (by decide) (by decide) rfl (q_dc (z := (5, .invokevirtual 86, 3, 0, 0)) tk_L_splitOf 5 rfl) (Nat.le_of_ble_eq_true rfl) ⟨(Nat.le_of_ble_eq_true rfl), (Nat.le_of_ble_eq_true rfl)⟩ ⟨(Nat.le_of_ble_eq_true rfl), (Nat.le_of_ble_eq_true rfl)⟩ ?_
      refine q_catch C [] ⟨0, 10, 13, 19⟩ [⟨0, 10, 17, 58⟩] (hT.trans rfl) (by decide +kernel) (fun z hz => by cases hz) (by decide) (by decide) cl_L_19 (by decide +kernel) (i := 4) (len := 2) (q_dc (z := (13, .astore 4, 2, 0, 0)) tk_L_splitOf 9 rfl) (Or.inr ⟨rfl, rfl⟩) (by decide) ?_
      refine q_go C tk_L_splitOf [(10, 1)] [] (pc1 := 16) (σ1 := σ) (lv1 := [(0, .ref 220), (1, .int g0), (2, .int g1), (3, .ref 237)]) (st1 := [.int 1]) rfl trivial ?_
      exact q_iret C hr (q_dc (z := (16, .ireturn, 1, 0, 0)) tk_L_splitOf 11 rfl) rfl rfl (Nat.le_of_ble_eq_true rfl) (Nat.le_of_ble_eq_true rfl)
    by_cases e1 : E = "java/util/NoSuchElementException"
    · subst e1
      have hq : q_code nx_splitOf "java/util/NoSuchElementException" = 2 := by decide +kernel
      rw [hq]
      refine q_enterW (own := RL) (F := fun _ => none) (G := fun _ => none) (by decide +kernel) rfl Fok_L Gok_L (Nat.le_of_ble_eq_true rfl) (fun p l e s m args below meth c A hfl C hr hT => ?_)
      refine q_go C tk_L_splitOf [(0, 5)] [] (pc1 := 5) (σ1 := σ) (lv1 := [(0, .ref 220), (1, .int g0), (2, .int g1), (3, .ref 237)]) (st1 := [.int g1, .int g0, .ref 220, .int 0, .ref 237]) rfl trivial ?_
      refine q_callVx C hfl mw_X8_splitOf mi_X8_splitOf me_X8_splitOf lk_L_86 hk (rest := [.int 0, .ref 237]) rfl rfl rfl (by decide) (by decide) rfl (q_dc (z := (5, .invokevirtual 86, 3, 0, 0)) tk_L_splitOf 5 rfl) (Nat.le_of_ble_eq_true rfl) ⟨(Nat.le_of_ble_eq_true rfl), (Nat.le_of_ble_eq_true rfl)⟩ ⟨(Nat.le_of_ble_eq_true rfl), (Nat.le_of_ble_eq_true rfl)⟩ ?_
      refine q_catch C [⟨0, 10, 13, 19⟩] ⟨0, 10, 17, 58⟩ [] (hT.trans rfl) (by decide +kernel) (fun z hz => by simp only [List.mem_cons, List.not_mem_nil, or_false] at hz; rcases hz with rfl <;> first | exact ⟨by decide, _, (by decide +kernel : "java/lang/IndexOutOfBoundsException" ∈ q_XS), (by decide +kernel), cl_L_19⟩) (by decide) (by decide) cl_L_58 (by decide +kernel) (i := 4) (len := 2) (q_dc (z := (17, .astore 4, 2, 0, 0)) tk_L_splitOf 12 rfl) (Or.inr ⟨rfl, rfl⟩) (by decide) ?_
      refine q_go C tk_L_splitOf [(13, 1)] [] (pc1 := 20) (σ1 := σ) (lv1 := [(0, .ref 220), (1, .int g0), (2, .int g1), (3, .ref 237)]) (st1 := [.int 2]) rfl trivial ?_
      exact q_iret C hr (q_dc (z := (20, .ireturn, 1, 0, 0)) tk_L_splitOf 14 rfl) rfl rfl (Nat.le_of_ble_eq_true rfl) (Nat.le_of_ble_eq_true rfl)
    simp only [nx_splitOf, List.mem_cons, List.not_mem_nil, or_false] at hE9
    rcases hE9 with h | h
    · exact absurd h e0
    · exact absurd h e1
abbrev nx_splitSum : List String := ["java/lang/IndexOutOfBoundsException"]
def W_splitSum (g0 : Int32) (σ : q_M) : Int32 × q_M := match (F_X8_splitSum g0 σ) with | .inl v => (0, (q_up σ 237 0 v)) | .inr E => (q_code nx_splitSum E, σ)
def tb_L_splitSum : List q_E := [(0, .aload_n 2, 1, 0, 0), (1, .iconst 0, 1, 0, 0), (2, .aload_n 0, 1, 0, 0), (3, .iload_n 1, 1, 0, 0), (4, .invokevirtual 89, 3, 0, 0), (7, .i2l, 1, 0, 0), (8, .lastore, 1, 0, 0), (9, .goto 6, 3, 0, 15), (12, .astore_n 3, 1, 0, 0), (13, .iconst 1, 1, 1, 0), (14, .ireturn, 1, 0, 0), (15, .iconst 0, 1, 0, 0), (16, .ireturn, 1, 0, 0)]
theorem tk_L_splitSum : q_tb cL_splitSum 4 tb_L_splitSum = true := by decide +kernel
abbrev hh_L_splitSum : List (Nat × Nat × Nat × Nat) := [(0, 9, 12, 19)]
set_option maxRecDepth 100000 in
theorem kw_splitSum {α β : Nat → Nat} {D : va_G} {κ : Nat → ClassId} (g0 : Int32) (σ : q_M) (hP : P_X8_splitSum g0 σ) (hE : ∀ E, (F_X8_splitSum g0 σ) = .inr E → E ∈ nx_splitSum) : q_CW α β D κ yL_splitSum cL_splitSum 4 (some .int) hh_L_splitSum 8 138 1 6 [.ref 220, .int g0, .ref 237] σ (some (.int (W_splitSum g0 σ).1)) (W_splitSum g0 σ).2 := by
  have hk := k_X8_splitSum (α := α) (β := β) (D := D) (κ := κ) g0 σ hP
  rcases hx : (F_X8_splitSum g0 σ) with v | E
  · have hw : W_splitSum g0 σ = (0, (q_up σ 237 0 v)) := by unfold W_splitSum; rw [hx]
    rw [hw]
    rw [hx] at hk
    refine q_enterW (own := RL) (F := fun _ => none) (G := fun _ => none) (by decide +kernel) rfl Fok_L Gok_L (Nat.le_of_ble_eq_true rfl) (fun p l e s m args below meth c A hfl C hr hT => ?_)
    refine q_go C tk_L_splitSum [(0, 4)] [] (pc1 := 4) (σ1 := σ) (lv1 := [(0, .ref 220), (1, .int g0), (2, .ref 237)]) (st1 := [.int g0, .ref 220, .int 0, .ref 237]) rfl trivial ?_
    refine q_callV (v := some (.int v)) C hfl mw_X8_splitSum mi_X8_splitSum me_X8_splitSum lk_L_89 hk (rest := [.int 0, .ref 237]) rfl rfl rfl (by decide) (by decide) rfl (q_dc (z := (4, .invokevirtual 89, 3, 0, 0)) tk_L_splitSum 4 rfl) (Nat.le_of_ble_eq_true rfl) ⟨(Nat.le_of_ble_eq_true rfl), (Nat.le_of_ble_eq_true rfl)⟩ ⟨(Nat.le_of_ble_eq_true rfl), (Nat.le_of_ble_eq_true rfl)⟩ ?_
    refine q_nrm 7 [.int v, .int 0, .ref 237] 1 6 rfl rfl rfl rfl ?_
    refine q_go C tk_L_splitSum [(5, 1)] [] (pc1 := 8) (σ1 := σ) (lv1 := [(0, .ref 220), (1, .int g0), (2, .ref 237)]) (st1 := [.long v.toInt64, .int 0, .ref 237]) rfl trivial ?_
    refine q_last C (q_dc (z := (8, .lastore, 1, 0, 0)) tk_L_splitSum 6 rfl) ?_
    refine q_go C tk_L_splitSum [(7, 1), (11, 1)] [] (pc1 := 16) (σ1 := (q_up σ 237 0 v)) (lv1 := [(0, .ref 220), (1, .int g0), (2, .ref 237)]) (st1 := [.int 0]) rfl trivial ?_
    exact q_iret C hr (q_dc (z := (16, .ireturn, 1, 0, 0)) tk_L_splitSum 12 rfl) rfl rfl (Nat.le_of_ble_eq_true rfl) (Nat.le_of_ble_eq_true rfl)
  · have hw : W_splitSum g0 σ = (q_code nx_splitSum E, σ) := by unfold W_splitSum; rw [hx]
    have hE9 := hE E (by rw [hx])
    rw [hw]
    rw [hx] at hk
    by_cases e0 : E = "java/lang/IndexOutOfBoundsException"
    · subst e0
      have hq : q_code nx_splitSum "java/lang/IndexOutOfBoundsException" = 1 := by decide +kernel
      rw [hq]
      refine q_enterW (own := RL) (F := fun _ => none) (G := fun _ => none) (by decide +kernel) rfl Fok_L Gok_L (Nat.le_of_ble_eq_true rfl) (fun p l e s m args below meth c A hfl C hr hT => ?_)
      refine q_go C tk_L_splitSum [(0, 4)] [] (pc1 := 4) (σ1 := σ) (lv1 := [(0, .ref 220), (1, .int g0), (2, .ref 237)]) (st1 := [.int g0, .ref 220, .int 0, .ref 237]) rfl trivial ?_
      refine q_callVx C hfl mw_X8_splitSum mi_X8_splitSum me_X8_splitSum lk_L_89 hk (rest := [.int 0, .ref 237]) rfl rfl rfl (by decide) (by decide) rfl (q_dc (z := (4, .invokevirtual 89, 3, 0, 0)) tk_L_splitSum 4 rfl) (Nat.le_of_ble_eq_true rfl) ⟨(Nat.le_of_ble_eq_true rfl), (Nat.le_of_ble_eq_true rfl)⟩ ⟨(Nat.le_of_ble_eq_true rfl), (Nat.le_of_ble_eq_true rfl)⟩ ?_
      refine q_catch C [] ⟨0, 9, 12, 19⟩ [] (hT.trans rfl) (by decide +kernel) (fun z hz => by cases hz) (by decide) (by decide) cl_L_19 (by decide +kernel) (i := 3) (len := 1) (q_dc (z := (12, .astore_n 3, 1, 0, 0)) tk_L_splitSum 8 rfl) (Or.inl ⟨3, rfl, rfl, rfl⟩) (by decide) ?_
      refine q_go C tk_L_splitSum [(9, 1)] [] (pc1 := 14) (σ1 := σ) (lv1 := [(0, .ref 220), (1, .int g0), (2, .ref 237)]) (st1 := [.int 1]) rfl trivial ?_
      exact q_iret C hr (q_dc (z := (14, .ireturn, 1, 0, 0)) tk_L_splitSum 10 rfl) rfl rfl (Nat.le_of_ble_eq_true rfl) (Nat.le_of_ble_eq_true rfl)
    simp only [nx_splitSum, List.mem_cons, List.not_mem_nil, or_false] at hE9
    exact absurd hE9 e0
abbrev nx_timeOf : List String := ["java/lang/IndexOutOfBoundsException", "java/util/NoSuchElementException"]
def W_timeOf (g0 : Int32) (σ : q_M) : Int32 × q_M := match (F_X8_timeOf g0 σ) with | .inl v => (0, (q_up σ 237 0 v)) | .inr E => (q_code nx_timeOf E, σ)
def tb_L_timeOf : List q_E := [(0, .aload_n 2, 1, 0, 0), (1, .iconst 0, 1, 0, 0), (2, .aload_n 0, 1, 0, 0), (3, .iload_n 1, 1, 0, 0), (4, .invokevirtual 92, 3, 0, 0), (7, .i2l, 1, 0, 0), (8, .lastore, 1, 0, 0), (9, .goto 9, 3, 0, 18), (12, .astore_n 3, 1, 0, 0), (13, .iconst 1, 1, 1, 0), (14, .ireturn, 1, 0, 0), (15, .astore_n 3, 1, 0, 0), (16, .iconst 2, 1, 2, 0), (17, .ireturn, 1, 0, 0), (18, .iconst 0, 1, 0, 0), (19, .ireturn, 1, 0, 0)]
theorem tk_L_timeOf : q_tb cL_timeOf 4 tb_L_timeOf = true := by decide +kernel
abbrev hh_L_timeOf : List (Nat × Nat × Nat × Nat) := [(0, 9, 12, 19), (0, 9, 15, 58)]
set_option maxRecDepth 100000 in
theorem kw_timeOf {α β : Nat → Nat} {D : va_G} {κ : Nat → ClassId} (g0 : Int32) (σ : q_M) (hE : ∀ E, (F_X8_timeOf g0 σ) = .inr E → E ∈ nx_timeOf) : q_CW α β D κ yL_timeOf cL_timeOf 4 (some .int) hh_L_timeOf 9 155 2 12 [.ref 220, .int g0, .ref 237] σ (some (.int (W_timeOf g0 σ).1)) (W_timeOf g0 σ).2 := by
  have hk := k_X8_timeOf (α := α) (β := β) (D := D) (κ := κ) g0 σ
  rcases hx : (F_X8_timeOf g0 σ) with v | E
  · have hw : W_timeOf g0 σ = (0, (q_up σ 237 0 v)) := by unfold W_timeOf; rw [hx]
    rw [hw]
    rw [hx] at hk
    refine q_enterW (own := RL) (F := fun _ => none) (G := fun _ => none) (by decide +kernel) rfl Fok_L Gok_L (Nat.le_of_ble_eq_true rfl) (fun p l e s m args below meth c A hfl C hr hT => ?_)
    refine q_go C tk_L_timeOf [(0, 4)] [] (pc1 := 4) (σ1 := σ) (lv1 := [(0, .ref 220), (1, .int g0), (2, .ref 237)]) (st1 := [.int g0, .ref 220, .int 0, .ref 237]) rfl trivial ?_
    refine q_callV (v := some (.int v)) C hfl mw_X8_timeOf mi_X8_timeOf me_X8_timeOf lk_L_92 hk (rest := [.int 0, .ref 237]) rfl rfl rfl (by decide) (by decide) rfl (q_dc (z := (4, .invokevirtual 92, 3, 0, 0)) tk_L_timeOf 4 rfl) (Nat.le_of_ble_eq_true rfl) ⟨(Nat.le_of_ble_eq_true rfl), (Nat.le_of_ble_eq_true rfl)⟩ ⟨(Nat.le_of_ble_eq_true rfl), (Nat.le_of_ble_eq_true rfl)⟩ ?_
    refine q_nrm 7 [.int v, .int 0, .ref 237] 2 12 rfl rfl rfl rfl ?_
    refine q_go C tk_L_timeOf [(5, 1)] [] (pc1 := 8) (σ1 := σ) (lv1 := [(0, .ref 220), (1, .int g0), (2, .ref 237)]) (st1 := [.long v.toInt64, .int 0, .ref 237]) rfl trivial ?_
    refine q_last C (q_dc (z := (8, .lastore, 1, 0, 0)) tk_L_timeOf 6 rfl) ?_
    refine q_go C tk_L_timeOf [(7, 1), (14, 1)] [] (pc1 := 19) (σ1 := (q_up σ 237 0 v)) (lv1 := [(0, .ref 220), (1, .int g0), (2, .ref 237)]) (st1 := [.int 0]) rfl trivial ?_
    exact q_iret C hr (q_dc (z := (19, .ireturn, 1, 0, 0)) tk_L_timeOf 15 rfl) rfl rfl (Nat.le_of_ble_eq_true rfl) (Nat.le_of_ble_eq_true rfl)
  · have hw : W_timeOf g0 σ = (q_code nx_timeOf E, σ) := by unfold W_timeOf; rw [hx]
    have hE9 := hE E (by rw [hx])
    rw [hw]
    rw [hx] at hk
    by_cases e0 : E = "java/lang/IndexOutOfBoundsException"
    · subst e0
      have hq : q_code nx_timeOf "java/lang/IndexOutOfBoundsException" = 1 := by decide +kernel
      rw [hq]
      refine q_enterW (own := RL) (F := fun _ => none) (G := fun _ => none) (by decide +kernel) rfl Fok_L Gok_L (Nat.le_of_ble_eq_true rfl) (fun p l e s m args below meth c A hfl C hr hT => ?_)
      refine q_go C tk_L_timeOf [(0, 4)] [] (pc1 := 4) (σ1 := σ) (lv1 := [(0, .ref 220), (1, .int g0), (2, .ref 237)]) (st1 := [.int g0, .ref 220, .int 0, .ref 237]) rfl trivial ?_
      refine q_callVx C hfl mw_X8_timeOf mi_X8_timeOf me_X8_timeOf lk_L_92 hk (rest := [.int 0, .ref 237]) rfl rfl rfl (by decide) (by decide) rfl (q_dc (z := (4, .invokevirtual 92, 3, 0, 0)) tk_L_timeOf 4 rfl) (Nat.le_of_ble_eq_true rfl) ⟨(Nat.le_of_ble_eq_true rfl), (Nat.le_of_ble_eq_true rfl)⟩ ⟨(Nat.le_of_ble_eq_true rfl), (Nat.le_of_ble_eq_true rfl)⟩ ?_
      refine q_catch C [] ⟨0, 9, 12, 19⟩ [⟨0, 9, 15, 58⟩] (hT.trans rfl) (by decide +kernel) (fun z hz => by cases hz) (by decide) (by decide) cl_L_19 (by decide +kernel) (i := 3) (len := 1) (q_dc (z := (12, .astore_n 3, 1, 0, 0)) tk_L_timeOf 8 rfl) (Or.inl ⟨3, rfl, rfl, rfl⟩) (by decide) ?_
      refine q_go C tk_L_timeOf [(9, 1)] [] (pc1 := 14) (σ1 := σ) (lv1 := [(0, .ref 220), (1, .int g0), (2, .ref 237)]) (st1 := [.int 1]) rfl trivial ?_
      exact q_iret C hr (q_dc (z := (14, .ireturn, 1, 0, 0)) tk_L_timeOf 10 rfl) rfl rfl (Nat.le_of_ble_eq_true rfl) (Nat.le_of_ble_eq_true rfl)
    by_cases e1 : E = "java/util/NoSuchElementException"
    · subst e1
      have hq : q_code nx_timeOf "java/util/NoSuchElementException" = 2 := by decide +kernel
      rw [hq]
      refine q_enterW (own := RL) (F := fun _ => none) (G := fun _ => none) (by decide +kernel) rfl Fok_L Gok_L (Nat.le_of_ble_eq_true rfl) (fun p l e s m args below meth c A hfl C hr hT => ?_)
      refine q_go C tk_L_timeOf [(0, 4)] [] (pc1 := 4) (σ1 := σ) (lv1 := [(0, .ref 220), (1, .int g0), (2, .ref 237)]) (st1 := [.int g0, .ref 220, .int 0, .ref 237]) rfl trivial ?_
      refine q_callVx C hfl mw_X8_timeOf mi_X8_timeOf me_X8_timeOf lk_L_92 hk (rest := [.int 0, .ref 237]) rfl rfl rfl (by decide) (by decide) rfl (q_dc (z := (4, .invokevirtual 92, 3, 0, 0)) tk_L_timeOf 4 rfl) (Nat.le_of_ble_eq_true rfl) ⟨(Nat.le_of_ble_eq_true rfl), (Nat.le_of_ble_eq_true rfl)⟩ ⟨(Nat.le_of_ble_eq_true rfl), (Nat.le_of_ble_eq_true rfl)⟩ ?_
      refine q_catch C [⟨0, 9, 12, 19⟩] ⟨0, 9, 15, 58⟩ [] (hT.trans rfl) (by decide +kernel) (fun z hz => by simp only [List.mem_cons, List.not_mem_nil, or_false] at hz; rcases hz with rfl <;> first | exact ⟨by decide, _, (by decide +kernel : "java/lang/IndexOutOfBoundsException" ∈ q_XS), (by decide +kernel), cl_L_19⟩) (by decide) (by decide) cl_L_58 (by decide +kernel) (i := 3) (len := 1) (q_dc (z := (15, .astore_n 3, 1, 0, 0)) tk_L_timeOf 11 rfl) (Or.inl ⟨3, rfl, rfl, rfl⟩) (by decide) ?_
      refine q_go C tk_L_timeOf [(12, 1)] [] (pc1 := 17) (σ1 := σ) (lv1 := [(0, .ref 220), (1, .int g0), (2, .ref 237)]) (st1 := [.int 2]) rfl trivial ?_
      exact q_iret C hr (q_dc (z := (17, .ireturn, 1, 0, 0)) tk_L_timeOf 13 rfl) rfl rfl (Nat.le_of_ble_eq_true rfl) (Nat.le_of_ble_eq_true rfl)
    simp only [nx_timeOf, List.mem_cons, List.not_mem_nil, or_false] at hE9
    rcases hE9 with h | h
    · exact absurd h e0
    · exact absurd h e1
abbrev nx_resultOf : List String := ["java/lang/IndexOutOfBoundsException", "java/util/NoSuchElementException"]
def W_resultOf (g0 : Int32) (σ : q_M) : Int32 × q_M := match (F_X8_resultOf g0 σ) with | .inl v => (0, (q_up σ 237 0 v)) | .inr E => (q_code nx_resultOf E, σ)
def tb_L_resultOf : List q_E := [(0, .aload_n 2, 1, 0, 0), (1, .iconst 0, 1, 0, 0), (2, .aload_n 0, 1, 0, 0), (3, .iload_n 1, 1, 0, 0), (4, .invokevirtual 95, 3, 0, 0), (7, .i2l, 1, 0, 0), (8, .lastore, 1, 0, 0), (9, .goto 9, 3, 0, 18), (12, .astore_n 3, 1, 0, 0), (13, .iconst 1, 1, 1, 0), (14, .ireturn, 1, 0, 0), (15, .astore_n 3, 1, 0, 0), (16, .iconst 2, 1, 2, 0), (17, .ireturn, 1, 0, 0), (18, .iconst 0, 1, 0, 0), (19, .ireturn, 1, 0, 0)]
theorem tk_L_resultOf : q_tb cL_resultOf 4 tb_L_resultOf = true := by decide +kernel
abbrev hh_L_resultOf : List (Nat × Nat × Nat × Nat) := [(0, 9, 12, 19), (0, 9, 15, 58)]
set_option maxRecDepth 100000 in
theorem kw_resultOf {α β : Nat → Nat} {D : va_G} {κ : Nat → ClassId} (g0 : Int32) (σ : q_M) (hE : ∀ E, (F_X8_resultOf g0 σ) = .inr E → E ∈ nx_resultOf) : q_CW α β D κ yL_resultOf cL_resultOf 4 (some .int) hh_L_resultOf 9 155 2 12 [.ref 220, .int g0, .ref 237] σ (some (.int (W_resultOf g0 σ).1)) (W_resultOf g0 σ).2 := by
  have hk := k_X8_resultOf (α := α) (β := β) (D := D) (κ := κ) g0 σ
  rcases hx : (F_X8_resultOf g0 σ) with v | E
  · have hw : W_resultOf g0 σ = (0, (q_up σ 237 0 v)) := by unfold W_resultOf; rw [hx]
    rw [hw]
    rw [hx] at hk
    refine q_enterW (own := RL) (F := fun _ => none) (G := fun _ => none) (by decide +kernel) rfl Fok_L Gok_L (Nat.le_of_ble_eq_true rfl) (fun p l e s m args below meth c A hfl C hr hT => ?_)
    refine q_go C tk_L_resultOf [(0, 4)] [] (pc1 := 4) (σ1 := σ) (lv1 := [(0, .ref 220), (1, .int g0), (2, .ref 237)]) (st1 := [.int g0, .ref 220, .int 0, .ref 237]) rfl trivial ?_
    refine q_callV (v := some (.int v)) C hfl mw_X8_resultOf mi_X8_resultOf me_X8_resultOf lk_L_95 hk (rest := [.int 0, .ref 237]) rfl rfl rfl (by decide) (by decide) rfl (q_dc (z := (4, .invokevirtual 95, 3, 0, 0)) tk_L_resultOf 4 rfl) (Nat.le_of_ble_eq_true rfl) ⟨(Nat.le_of_ble_eq_true rfl), (Nat.le_of_ble_eq_true rfl)⟩ ⟨(Nat.le_of_ble_eq_true rfl), (Nat.le_of_ble_eq_true rfl)⟩ ?_
    refine q_nrm 7 [.int v, .int 0, .ref 237] 2 12 rfl rfl rfl rfl ?_
    refine q_go C tk_L_resultOf [(5, 1)] [] (pc1 := 8) (σ1 := σ) (lv1 := [(0, .ref 220), (1, .int g0), (2, .ref 237)]) (st1 := [.long v.toInt64, .int 0, .ref 237]) rfl trivial ?_
    refine q_last C (q_dc (z := (8, .lastore, 1, 0, 0)) tk_L_resultOf 6 rfl) ?_
    refine q_go C tk_L_resultOf [(7, 1), (14, 1)] [] (pc1 := 19) (σ1 := (q_up σ 237 0 v)) (lv1 := [(0, .ref 220), (1, .int g0), (2, .ref 237)]) (st1 := [.int 0]) rfl trivial ?_
    exact q_iret C hr (q_dc (z := (19, .ireturn, 1, 0, 0)) tk_L_resultOf 15 rfl) rfl rfl (Nat.le_of_ble_eq_true rfl) (Nat.le_of_ble_eq_true rfl)
  · have hw : W_resultOf g0 σ = (q_code nx_resultOf E, σ) := by unfold W_resultOf; rw [hx]
    have hE9 := hE E (by rw [hx])
    rw [hw]
    rw [hx] at hk
    by_cases e0 : E = "java/lang/IndexOutOfBoundsException"
    · subst e0
      have hq : q_code nx_resultOf "java/lang/IndexOutOfBoundsException" = 1 := by decide +kernel
      rw [hq]
      refine q_enterW (own := RL) (F := fun _ => none) (G := fun _ => none) (by decide +kernel) rfl Fok_L Gok_L (Nat.le_of_ble_eq_true rfl) (fun p l e s m args below meth c A hfl C hr hT => ?_)
      refine q_go C tk_L_resultOf [(0, 4)] [] (pc1 := 4) (σ1 := σ) (lv1 := [(0, .ref 220), (1, .int g0), (2, .ref 237)]) (st1 := [.int g0, .ref 220, .int 0, .ref 237]) rfl trivial ?_
      refine q_callVx C hfl mw_X8_resultOf mi_X8_resultOf me_X8_resultOf lk_L_95 hk (rest := [.int 0, .ref 237]) rfl rfl rfl (by decide) (by decide) rfl (q_dc (z := (4, .invokevirtual 95, 3, 0, 0)) tk_L_resultOf 4 rfl) (Nat.le_of_ble_eq_true rfl) ⟨(Nat.le_of_ble_eq_true rfl), (Nat.le_of_ble_eq_true rfl)⟩ ⟨(Nat.le_of_ble_eq_true rfl), (Nat.le_of_ble_eq_true rfl)⟩ ?_
      refine q_catch C [] ⟨0, 9, 12, 19⟩ [⟨0, 9, 15, 58⟩] (hT.trans rfl) (by decide +kernel) (fun z hz => by cases hz) (by decide) (by decide) cl_L_19 (by decide +kernel) (i := 3) (len := 1) (q_dc (z := (12, .astore_n 3, 1, 0, 0)) tk_L_resultOf 8 rfl) (Or.inl ⟨3, rfl, rfl, rfl⟩) (by decide) ?_
      refine q_go C tk_L_resultOf [(9, 1)] [] (pc1 := 14) (σ1 := σ) (lv1 := [(0, .ref 220), (1, .int g0), (2, .ref 237)]) (st1 := [.int 1]) rfl trivial ?_
      exact q_iret C hr (q_dc (z := (14, .ireturn, 1, 0, 0)) tk_L_resultOf 10 rfl) rfl rfl (Nat.le_of_ble_eq_true rfl) (Nat.le_of_ble_eq_true rfl)
    by_cases e1 : E = "java/util/NoSuchElementException"
    · subst e1
      have hq : q_code nx_resultOf "java/util/NoSuchElementException" = 2 := by decide +kernel
      rw [hq]
      refine q_enterW (own := RL) (F := fun _ => none) (G := fun _ => none) (by decide +kernel) rfl Fok_L Gok_L (Nat.le_of_ble_eq_true rfl) (fun p l e s m args below meth c A hfl C hr hT => ?_)
      refine q_go C tk_L_resultOf [(0, 4)] [] (pc1 := 4) (σ1 := σ) (lv1 := [(0, .ref 220), (1, .int g0), (2, .ref 237)]) (st1 := [.int g0, .ref 220, .int 0, .ref 237]) rfl trivial ?_
      refine q_callVx C hfl mw_X8_resultOf mi_X8_resultOf me_X8_resultOf lk_L_95 hk (rest := [.int 0, .ref 237]) rfl rfl rfl (by decide) (by decide) rfl (q_dc (z := (4, .invokevirtual 95, 3, 0, 0)) tk_L_resultOf 4 rfl) (Nat.le_of_ble_eq_true rfl) ⟨(Nat.le_of_ble_eq_true rfl), (Nat.le_of_ble_eq_true rfl)⟩ ⟨(Nat.le_of_ble_eq_true rfl), (Nat.le_of_ble_eq_true rfl)⟩ ?_
      refine q_catch C [⟨0, 9, 12, 19⟩] ⟨0, 9, 15, 58⟩ [] (hT.trans rfl) (by decide +kernel) (fun z hz => by simp only [List.mem_cons, List.not_mem_nil, or_false] at hz; rcases hz with rfl <;> first | exact ⟨by decide, _, (by decide +kernel : "java/lang/IndexOutOfBoundsException" ∈ q_XS), (by decide +kernel), cl_L_19⟩) (by decide) (by decide) cl_L_58 (by decide +kernel) (i := 3) (len := 1) (q_dc (z := (15, .astore_n 3, 1, 0, 0)) tk_L_resultOf 11 rfl) (Or.inl ⟨3, rfl, rfl, rfl⟩) (by decide) ?_
      refine q_go C tk_L_resultOf [(12, 1)] [] (pc1 := 17) (σ1 := σ) (lv1 := [(0, .ref 220), (1, .int g0), (2, .ref 237)]) (st1 := [.int 2]) rfl trivial ?_
      exact q_iret C hr (q_dc (z := (17, .ireturn, 1, 0, 0)) tk_L_resultOf 13 rfl) rfl rfl (Nat.le_of_ble_eq_true rfl) (Nat.le_of_ble_eq_true rfl)
    simp only [nx_resultOf, List.mem_cons, List.not_mem_nil, or_false] at hE9
    rcases hE9 with h | h
    · exact absurd h e0
    · exact absurd h e1
abbrev nx_teamAtRank : List String := ["java/util/NoSuchElementException"]
def W_teamAtRank (g0 : Int32) (σ : q_M) : Int32 × q_M := match (F_X8_teamAtRank g0 σ) with | .inl v => (0, (q_up σ 237 0 v)) | .inr E => (q_code nx_teamAtRank E, σ)
def tb_L_teamAtRank : List q_E := [(0, .aload_n 2, 1, 0, 0), (1, .iconst 0, 1, 0, 0), (2, .aload_n 0, 1, 0, 0), (3, .iload_n 1, 1, 0, 0), (4, .invokevirtual 98, 3, 0, 0), (7, .i2l, 1, 0, 0), (8, .lastore, 1, 0, 0), (9, .goto 6, 3, 0, 15), (12, .astore_n 3, 1, 0, 0), (13, .iconst 1, 1, 1, 0), (14, .ireturn, 1, 0, 0), (15, .iconst 0, 1, 0, 0), (16, .ireturn, 1, 0, 0)]
theorem tk_L_teamAtRank : q_tb cL_teamAtRank 4 tb_L_teamAtRank = true := by decide +kernel
abbrev hh_L_teamAtRank : List (Nat × Nat × Nat × Nat) := [(0, 9, 12, 58)]
set_option maxRecDepth 100000 in
theorem kw_teamAtRank {α β : Nat → Nat} {D : va_G} {κ : Nat → ClassId} (g0 : Int32) (σ : q_M) (hP : P_X8_teamAtRank g0 σ) (hE : ∀ E, (F_X8_teamAtRank g0 σ) = .inr E → E ∈ nx_teamAtRank) : q_CW α β D κ yL_teamAtRank cL_teamAtRank 4 (some .int) hh_L_teamAtRank 7 115 1 6 [.ref 220, .int g0, .ref 237] σ (some (.int (W_teamAtRank g0 σ).1)) (W_teamAtRank g0 σ).2 := by
  have hk := k_X8_teamAtRank (α := α) (β := β) (D := D) (κ := κ) g0 σ hP
  rcases hx : (F_X8_teamAtRank g0 σ) with v | E
  · have hw : W_teamAtRank g0 σ = (0, (q_up σ 237 0 v)) := by unfold W_teamAtRank; rw [hx]
    rw [hw]
    rw [hx] at hk
    refine q_enterW (own := RL) (F := fun _ => none) (G := fun _ => none) (by decide +kernel) rfl Fok_L Gok_L (Nat.le_of_ble_eq_true rfl) (fun p l e s m args below meth c A hfl C hr hT => ?_)
    refine q_go C tk_L_teamAtRank [(0, 4)] [] (pc1 := 4) (σ1 := σ) (lv1 := [(0, .ref 220), (1, .int g0), (2, .ref 237)]) (st1 := [.int g0, .ref 220, .int 0, .ref 237]) rfl trivial ?_
    refine q_callV (v := some (.int v)) C hfl mw_X8_teamAtRank mi_X8_teamAtRank me_X8_teamAtRank lk_L_98 hk (rest := [.int 0, .ref 237]) rfl rfl rfl (by decide) (by decide) rfl (q_dc (z := (4, .invokevirtual 98, 3, 0, 0)) tk_L_teamAtRank 4 rfl) (Nat.le_of_ble_eq_true rfl) ⟨(Nat.le_of_ble_eq_true rfl), (Nat.le_of_ble_eq_true rfl)⟩ ⟨(Nat.le_of_ble_eq_true rfl), (Nat.le_of_ble_eq_true rfl)⟩ ?_
    refine q_nrm 7 [.int v, .int 0, .ref 237] 1 6 rfl rfl rfl rfl ?_
    refine q_go C tk_L_teamAtRank [(5, 1)] [] (pc1 := 8) (σ1 := σ) (lv1 := [(0, .ref 220), (1, .int g0), (2, .ref 237)]) (st1 := [.long v.toInt64, .int 0, .ref 237]) rfl trivial ?_
    refine q_last C (q_dc (z := (8, .lastore, 1, 0, 0)) tk_L_teamAtRank 6 rfl) ?_
    refine q_go C tk_L_teamAtRank [(7, 1), (11, 1)] [] (pc1 := 16) (σ1 := (q_up σ 237 0 v)) (lv1 := [(0, .ref 220), (1, .int g0), (2, .ref 237)]) (st1 := [.int 0]) rfl trivial ?_
    exact q_iret C hr (q_dc (z := (16, .ireturn, 1, 0, 0)) tk_L_teamAtRank 12 rfl) rfl rfl (Nat.le_of_ble_eq_true rfl) (Nat.le_of_ble_eq_true rfl)
  · have hw : W_teamAtRank g0 σ = (q_code nx_teamAtRank E, σ) := by unfold W_teamAtRank; rw [hx]
    have hE9 := hE E (by rw [hx])
    rw [hw]
    rw [hx] at hk
    by_cases e0 : E = "java/util/NoSuchElementException"
    · subst e0
      have hq : q_code nx_teamAtRank "java/util/NoSuchElementException" = 1 := by decide +kernel
      rw [hq]
      refine q_enterW (own := RL) (F := fun _ => none) (G := fun _ => none) (by decide +kernel) rfl Fok_L Gok_L (Nat.le_of_ble_eq_true rfl) (fun p l e s m args below meth c A hfl C hr hT => ?_)
      refine q_go C tk_L_teamAtRank [(0, 4)] [] (pc1 := 4) (σ1 := σ) (lv1 := [(0, .ref 220), (1, .int g0), (2, .ref 237)]) (st1 := [.int g0, .ref 220, .int 0, .ref 237]) rfl trivial ?_
      refine q_callVx C hfl mw_X8_teamAtRank mi_X8_teamAtRank me_X8_teamAtRank lk_L_98 hk (rest := [.int 0, .ref 237]) rfl rfl rfl (by decide) (by decide) rfl (q_dc (z := (4, .invokevirtual 98, 3, 0, 0)) tk_L_teamAtRank 4 rfl) (Nat.le_of_ble_eq_true rfl) ⟨(Nat.le_of_ble_eq_true rfl), (Nat.le_of_ble_eq_true rfl)⟩ ⟨(Nat.le_of_ble_eq_true rfl), (Nat.le_of_ble_eq_true rfl)⟩ ?_
      refine q_catch C [] ⟨0, 9, 12, 58⟩ [] (hT.trans rfl) (by decide +kernel) (fun z hz => by cases hz) (by decide) (by decide) cl_L_58 (by decide +kernel) (i := 3) (len := 1) (q_dc (z := (12, .astore_n 3, 1, 0, 0)) tk_L_teamAtRank 8 rfl) (Or.inl ⟨3, rfl, rfl, rfl⟩) (by decide) ?_
      refine q_go C tk_L_teamAtRank [(9, 1)] [] (pc1 := 14) (σ1 := σ) (lv1 := [(0, .ref 220), (1, .int g0), (2, .ref 237)]) (st1 := [.int 1]) rfl trivial ?_
      exact q_iret C hr (q_dc (z := (14, .ireturn, 1, 0, 0)) tk_L_teamAtRank 10 rfl) rfl rfl (Nat.le_of_ble_eq_true rfl) (Nat.le_of_ble_eq_true rfl)
    simp only [nx_teamAtRank, List.mem_cons, List.not_mem_nil, or_false] at hE9
    exact absurd hE9 e0
abbrev nx_rankOf : List String := ["java/lang/IndexOutOfBoundsException"]
def W_rankOf (g0 : Int32) (σ : q_M) : Int32 × q_M := match (F_X8_rankOf g0 σ) with | .inl v => (0, (q_up σ 237 0 v)) | .inr E => (q_code nx_rankOf E, σ)
def tb_L_rankOf : List q_E := [(0, .aload_n 2, 1, 0, 0), (1, .iconst 0, 1, 0, 0), (2, .aload_n 0, 1, 0, 0), (3, .iload_n 1, 1, 0, 0), (4, .invokevirtual 101, 3, 0, 0), (7, .i2l, 1, 0, 0), (8, .lastore, 1, 0, 0), (9, .goto 6, 3, 0, 15), (12, .astore_n 3, 1, 0, 0), (13, .iconst 1, 1, 1, 0), (14, .ireturn, 1, 0, 0), (15, .iconst 0, 1, 0, 0), (16, .ireturn, 1, 0, 0)]
theorem tk_L_rankOf : q_tb cL_rankOf 4 tb_L_rankOf = true := by decide +kernel
abbrev hh_L_rankOf : List (Nat × Nat × Nat × Nat) := [(0, 9, 12, 19)]
set_option maxRecDepth 100000 in
theorem kw_rankOf {α β : Nat → Nat} {D : va_G} {κ : Nat → ClassId} (g0 : Int32) (σ : q_M) (hP : P_X8_rankOf g0 σ) (hE : ∀ E, (F_X8_rankOf g0 σ) = .inr E → E ∈ nx_rankOf) : q_CW α β D κ yL_rankOf cL_rankOf 4 (some .int) hh_L_rankOf 8 133 1 6 [.ref 220, .int g0, .ref 237] σ (some (.int (W_rankOf g0 σ).1)) (W_rankOf g0 σ).2 := by
  have hk := k_X8_rankOf (α := α) (β := β) (D := D) (κ := κ) g0 σ hP
  rcases hx : (F_X8_rankOf g0 σ) with v | E
  · have hw : W_rankOf g0 σ = (0, (q_up σ 237 0 v)) := by unfold W_rankOf; rw [hx]
    rw [hw]
    rw [hx] at hk
    refine q_enterW (own := RL) (F := fun _ => none) (G := fun _ => none) (by decide +kernel) rfl Fok_L Gok_L (Nat.le_of_ble_eq_true rfl) (fun p l e s m args below meth c A hfl C hr hT => ?_)
    refine q_go C tk_L_rankOf [(0, 4)] [] (pc1 := 4) (σ1 := σ) (lv1 := [(0, .ref 220), (1, .int g0), (2, .ref 237)]) (st1 := [.int g0, .ref 220, .int 0, .ref 237]) rfl trivial ?_
    refine q_callV (v := some (.int v)) C hfl mw_X8_rankOf mi_X8_rankOf me_X8_rankOf lk_L_101 hk (rest := [.int 0, .ref 237]) rfl rfl rfl (by decide) (by decide) rfl (q_dc (z := (4, .invokevirtual 101, 3, 0, 0)) tk_L_rankOf 4 rfl) (Nat.le_of_ble_eq_true rfl) ⟨(Nat.le_of_ble_eq_true rfl), (Nat.le_of_ble_eq_true rfl)⟩ ⟨(Nat.le_of_ble_eq_true rfl), (Nat.le_of_ble_eq_true rfl)⟩ ?_
    refine q_nrm 7 [.int v, .int 0, .ref 237] 1 6 rfl rfl rfl rfl ?_
    refine q_go C tk_L_rankOf [(5, 1)] [] (pc1 := 8) (σ1 := σ) (lv1 := [(0, .ref 220), (1, .int g0), (2, .ref 237)]) (st1 := [.long v.toInt64, .int 0, .ref 237]) rfl trivial ?_
    refine q_last C (q_dc (z := (8, .lastore, 1, 0, 0)) tk_L_rankOf 6 rfl) ?_
    refine q_go C tk_L_rankOf [(7, 1), (11, 1)] [] (pc1 := 16) (σ1 := (q_up σ 237 0 v)) (lv1 := [(0, .ref 220), (1, .int g0), (2, .ref 237)]) (st1 := [.int 0]) rfl trivial ?_
    exact q_iret C hr (q_dc (z := (16, .ireturn, 1, 0, 0)) tk_L_rankOf 12 rfl) rfl rfl (Nat.le_of_ble_eq_true rfl) (Nat.le_of_ble_eq_true rfl)
  · have hw : W_rankOf g0 σ = (q_code nx_rankOf E, σ) := by unfold W_rankOf; rw [hx]
    have hE9 := hE E (by rw [hx])
    rw [hw]
    rw [hx] at hk
    by_cases e0 : E = "java/lang/IndexOutOfBoundsException"
    · subst e0
      have hq : q_code nx_rankOf "java/lang/IndexOutOfBoundsException" = 1 := by decide +kernel
      rw [hq]
      refine q_enterW (own := RL) (F := fun _ => none) (G := fun _ => none) (by decide +kernel) rfl Fok_L Gok_L (Nat.le_of_ble_eq_true rfl) (fun p l e s m args below meth c A hfl C hr hT => ?_)
      refine q_go C tk_L_rankOf [(0, 4)] [] (pc1 := 4) (σ1 := σ) (lv1 := [(0, .ref 220), (1, .int g0), (2, .ref 237)]) (st1 := [.int g0, .ref 220, .int 0, .ref 237]) rfl trivial ?_
      refine q_callVx C hfl mw_X8_rankOf mi_X8_rankOf me_X8_rankOf lk_L_101 hk (rest := [.int 0, .ref 237]) rfl rfl rfl (by decide) (by decide) rfl (q_dc (z := (4, .invokevirtual 101, 3, 0, 0)) tk_L_rankOf 4 rfl) (Nat.le_of_ble_eq_true rfl) ⟨(Nat.le_of_ble_eq_true rfl), (Nat.le_of_ble_eq_true rfl)⟩ ⟨(Nat.le_of_ble_eq_true rfl), (Nat.le_of_ble_eq_true rfl)⟩ ?_
      refine q_catch C [] ⟨0, 9, 12, 19⟩ [] (hT.trans rfl) (by decide +kernel) (fun z hz => by cases hz) (by decide) (by decide) cl_L_19 (by decide +kernel) (i := 3) (len := 1) (q_dc (z := (12, .astore_n 3, 1, 0, 0)) tk_L_rankOf 8 rfl) (Or.inl ⟨3, rfl, rfl, rfl⟩) (by decide) ?_
      refine q_go C tk_L_rankOf [(9, 1)] [] (pc1 := 14) (σ1 := σ) (lv1 := [(0, .ref 220), (1, .int g0), (2, .ref 237)]) (st1 := [.int 1]) rfl trivial ?_
      exact q_iret C hr (q_dc (z := (14, .ireturn, 1, 0, 0)) tk_L_rankOf 10 rfl) rfl rfl (Nat.le_of_ble_eq_true rfl) (Nat.le_of_ble_eq_true rfl)
    simp only [nx_rankOf, List.mem_cons, List.not_mem_nil, or_false] at hE9
    exact absurd hE9 e0
abbrev nx_meanTime : List String := ["java/lang/ArithmeticException"]
def W_meanTime (σ : q_M) : Int32 × q_M := match (F_X8_meanTime σ) with | .inl v => (0, (q_up2 σ v)) | .inr E => (q_code nx_meanTime E, σ)
def tb_L_meanTime : List q_E := [(0, .aload_n 1, 1, 0, 0), (1, .iconst 0, 1, 0, 0), (2, .aload_n 0, 1, 0, 0), (3, .invokevirtual 104, 3, 0, 0), (6, .dastore, 1, 0, 0), (7, .goto 6, 3, 0, 13), (10, .astore_n 2, 1, 0, 0), (11, .iconst 1, 1, 1, 0), (12, .ireturn, 1, 0, 0), (13, .iconst 0, 1, 0, 0), (14, .ireturn, 1, 0, 0)]
theorem tk_L_meanTime : q_tb cL_meanTime 3 tb_L_meanTime = true := by decide +kernel
abbrev hh_L_meanTime : List (Nat × Nat × Nat × Nat) := [(0, 7, 10, 108)]
set_option maxRecDepth 100000 in
theorem kw_meanTime {α β : Nat → Nat} {D : va_G} {κ : Nat → ClassId} (σ : q_M) (hP : P_X8_meanTime σ) (hE : ∀ E, (F_X8_meanTime σ) = .inr E → E ∈ nx_meanTime) : q_CW α β D κ yL_meanTime cL_meanTime 3 (some .int) hh_L_meanTime 7 111 1 6 [.ref 220, .ref 238] σ (some (.int (W_meanTime σ).1)) (W_meanTime σ).2 := by
  have hk := k_X8_meanTime (α := α) (β := β) (D := D) (κ := κ) σ hP
  rcases hx : (F_X8_meanTime σ) with v | E
  · have hw : W_meanTime σ = (0, (q_up2 σ v)) := by unfold W_meanTime; rw [hx]
    rw [hw]
    rw [hx] at hk
    refine q_enterW (own := RL) (F := fun _ => none) (G := fun _ => none) (by decide +kernel) rfl Fok_L Gok_L (Nat.le_of_ble_eq_true rfl) (fun p l e s m args below meth c A hfl C hr hT => ?_)
    refine q_go C tk_L_meanTime [(0, 3)] [] (pc1 := 3) (σ1 := σ) (lv1 := [(0, .ref 220), (1, .ref 238)]) (st1 := [.ref 220, .int 0, .ref 238]) rfl trivial ?_
    refine q_callV (v := some (.double v)) C hfl mw_X8_meanTime mi_X8_meanTime me_X8_meanTime lk_L_104 hk (rest := [.int 0, .ref 238]) rfl rfl rfl (by decide) (by decide) rfl (q_dc (z := (3, .invokevirtual 104, 3, 0, 0)) tk_L_meanTime 3 rfl) (Nat.le_of_ble_eq_true rfl) ⟨(Nat.le_of_ble_eq_true rfl), (Nat.le_of_ble_eq_true rfl)⟩ ⟨(Nat.le_of_ble_eq_true rfl), (Nat.le_of_ble_eq_true rfl)⟩ ?_
    refine q_nrm 6 [.double v, .int 0, .ref 238] 1 6 rfl rfl rfl rfl ?_
    refine q_dast C (q_dc (z := (6, .dastore, 1, 0, 0)) tk_L_meanTime 4 rfl) ?_
    refine q_go C tk_L_meanTime [(5, 1), (9, 1)] [] (pc1 := 14) (σ1 := (q_up2 σ v)) (lv1 := [(0, .ref 220), (1, .ref 238)]) (st1 := [.int 0]) rfl trivial ?_
    exact q_iret C hr (q_dc (z := (14, .ireturn, 1, 0, 0)) tk_L_meanTime 10 rfl) rfl rfl (Nat.le_of_ble_eq_true rfl) (Nat.le_of_ble_eq_true rfl)
  · have hw : W_meanTime σ = (q_code nx_meanTime E, σ) := by unfold W_meanTime; rw [hx]
    have hE9 := hE E (by rw [hx])
    rw [hw]
    rw [hx] at hk
    by_cases e0 : E = "java/lang/ArithmeticException"
    · subst e0
      have hq : q_code nx_meanTime "java/lang/ArithmeticException" = 1 := by decide +kernel
      rw [hq]
      refine q_enterW (own := RL) (F := fun _ => none) (G := fun _ => none) (by decide +kernel) rfl Fok_L Gok_L (Nat.le_of_ble_eq_true rfl) (fun p l e s m args below meth c A hfl C hr hT => ?_)
      refine q_go C tk_L_meanTime [(0, 3)] [] (pc1 := 3) (σ1 := σ) (lv1 := [(0, .ref 220), (1, .ref 238)]) (st1 := [.ref 220, .int 0, .ref 238]) rfl trivial ?_
      refine q_callVx C hfl mw_X8_meanTime mi_X8_meanTime me_X8_meanTime lk_L_104 hk (rest := [.int 0, .ref 238]) rfl rfl rfl (by decide) (by decide) rfl (q_dc (z := (3, .invokevirtual 104, 3, 0, 0)) tk_L_meanTime 3 rfl) (Nat.le_of_ble_eq_true rfl) ⟨(Nat.le_of_ble_eq_true rfl), (Nat.le_of_ble_eq_true rfl)⟩ ⟨(Nat.le_of_ble_eq_true rfl), (Nat.le_of_ble_eq_true rfl)⟩ ?_
      refine q_catch C [] ⟨0, 7, 10, 108⟩ [] (hT.trans rfl) (by decide +kernel) (fun z hz => by cases hz) (by decide) (by decide) cl_L_108 (by decide +kernel) (i := 2) (len := 1) (q_dc (z := (10, .astore_n 2, 1, 0, 0)) tk_L_meanTime 6 rfl) (Or.inl ⟨2, rfl, rfl, rfl⟩) (by decide) ?_
      refine q_go C tk_L_meanTime [(7, 1)] [] (pc1 := 12) (σ1 := σ) (lv1 := [(0, .ref 220), (1, .ref 238)]) (st1 := [.int 1]) rfl trivial ?_
      exact q_iret C hr (q_dc (z := (12, .ireturn, 1, 0, 0)) tk_L_meanTime 8 rfl) rfl rfl (Nat.le_of_ble_eq_true rfl) (Nat.le_of_ble_eq_true rfl)
    simp only [nx_meanTime, List.mem_cons, List.not_mem_nil, or_false] at hE9
    exact absurd hE9 e0
abbrev nx_reach : List String := ["java/lang/IndexOutOfBoundsException", "java/lang/IllegalArgumentException"]
def W_reach (g0 : Int32) (g1 : Int32) (g2 : Int32) (σ : q_M) : Int32 × q_M := match (F_X8_reach g0 g1 g2 σ) with | .inl v => (0, (q_up σ 237 0 v)) | .inr E => (q_code nx_reach E, σ)
def tb_L_reach : List q_E := [(0, .aload 4, 2, 0, 0), (2, .iconst 0, 1, 0, 0), (3, .aload_n 0, 1, 0, 0), (4, .iload_n 1, 1, 0, 0), (5, .iload_n 2, 1, 0, 0), (6, .iload_n 3, 1, 0, 0), (7, .invokevirtual 110, 3, 0, 0), (10, .i2l, 1, 0, 0), (11, .lastore, 1, 0, 0), (12, .goto 11, 3, 0, 23), (15, .astore 5, 2, 0, 0), (17, .iconst 1, 1, 1, 0), (18, .ireturn, 1, 0, 0), (19, .astore 5, 2, 0, 0), (21, .iconst 2, 1, 2, 0), (22, .ireturn, 1, 0, 0), (23, .iconst 0, 1, 0, 0), (24, .ireturn, 1, 0, 0)]
theorem tk_L_reach : q_tb cL_reach 6 tb_L_reach = true := by decide +kernel
abbrev hh_L_reach : List (Nat × Nat × Nat × Nat) := [(0, 12, 15, 19), (0, 12, 19, 21)]
set_option maxRecDepth 100000 in
theorem kw_reach {α β : Nat → Nat} {D : va_G} {κ : Nat → ClassId} (g0 : Int32) (g1 : Int32) (g2 : Int32) (σ : q_M) (hP : P_X8_reach g0 g1 g2 σ) (hE : ∀ E, (F_X8_reach g0 g1 g2 σ) = .inr E → E ∈ nx_reach) : q_CW α β D κ yL_reach cL_reach 6 (some .int) hh_L_reach 10 185 3 18 [.ref 220, .int g0, .int g1, .int g2, .ref 237] σ (some (.int (W_reach g0 g1 g2 σ).1)) (W_reach g0 g1 g2 σ).2 := by
  have hk := k_X8_reach (α := α) (β := β) (D := D) (κ := κ) g0 g1 g2 σ hP
  rcases hx : (F_X8_reach g0 g1 g2 σ) with v | E
  · have hw : W_reach g0 g1 g2 σ = (0, (q_up σ 237 0 v)) := by unfold W_reach; rw [hx]
    rw [hw]
    rw [hx] at hk
    refine q_enterW (own := RL) (F := fun _ => none) (G := fun _ => none) (by decide +kernel) rfl Fok_L Gok_L (Nat.le_of_ble_eq_true rfl) (fun p l e s m args below meth c A hfl C hr hT => ?_)
    refine q_go C tk_L_reach [(0, 6)] [] (pc1 := 7) (σ1 := σ) (lv1 := [(0, .ref 220), (1, .int g0), (2, .int g1), (3, .int g2), (4, .ref 237)]) (st1 := [.int g2, .int g1, .int g0, .ref 220, .int 0, .ref 237]) rfl trivial ?_
    refine q_callV (v := some (.int v)) C hfl mw_X8_reach mi_X8_reach me_X8_reach lk_L_110 hk (rest := [.int 0, .ref 237]) rfl rfl rfl (by decide) (by decide) rfl (q_dc (z := (7, .invokevirtual 110, 3, 0, 0)) tk_L_reach 6 rfl) (Nat.le_of_ble_eq_true rfl) ⟨(Nat.le_of_ble_eq_true rfl), (Nat.le_of_ble_eq_true rfl)⟩ ⟨(Nat.le_of_ble_eq_true rfl), (Nat.le_of_ble_eq_true rfl)⟩ ?_
    refine q_nrm 10 [.int v, .int 0, .ref 237] 3 18 rfl rfl rfl rfl ?_
    refine q_go C tk_L_reach [(7, 1)] [] (pc1 := 11) (σ1 := σ) (lv1 := [(0, .ref 220), (1, .int g0), (2, .int g1), (3, .int g2), (4, .ref 237)]) (st1 := [.long v.toInt64, .int 0, .ref 237]) rfl trivial ?_
    refine q_last C (q_dc (z := (11, .lastore, 1, 0, 0)) tk_L_reach 8 rfl) ?_
    refine q_go C tk_L_reach [(9, 1), (16, 1)] [] (pc1 := 24) (σ1 := (q_up σ 237 0 v)) (lv1 := [(0, .ref 220), (1, .int g0), (2, .int g1), (3, .int g2), (4, .ref 237)]) (st1 := [.int 0]) rfl trivial ?_
    exact q_iret C hr (q_dc (z := (24, .ireturn, 1, 0, 0)) tk_L_reach 17 rfl) rfl rfl (Nat.le_of_ble_eq_true rfl) (Nat.le_of_ble_eq_true rfl)
  · have hw : W_reach g0 g1 g2 σ = (q_code nx_reach E, σ) := by unfold W_reach; rw [hx]
    have hE9 := hE E (by rw [hx])
    rw [hw]
    rw [hx] at hk
    by_cases e0 : E = "java/lang/IndexOutOfBoundsException"
    · subst e0
      have hq : q_code nx_reach "java/lang/IndexOutOfBoundsException" = 1 := by decide +kernel
      rw [hq]
      refine q_enterW (own := RL) (F := fun _ => none) (G := fun _ => none) (by decide +kernel) rfl Fok_L Gok_L (Nat.le_of_ble_eq_true rfl) (fun p l e s m args below meth c A hfl C hr hT => ?_)
      refine q_go C tk_L_reach [(0, 6)] [] (pc1 := 7) (σ1 := σ) (lv1 := [(0, .ref 220), (1, .int g0), (2, .int g1), (3, .int g2), (4, .ref 237)]) (st1 := [.int g2, .int g1, .int g0, .ref 220, .int 0, .ref 237]) rfl trivial ?_
      refine q_callVx C hfl mw_X8_reach mi_X8_reach me_X8_reach lk_L_110 hk (rest := [.int 0, .ref 237]) rfl rfl rfl (by decide) (by decide) rfl (q_dc (z := (7, .invokevirtual 110, 3, 0, 0)) tk_L_reach 6 rfl) (Nat.le_of_ble_eq_true rfl) ⟨(Nat.le_of_ble_eq_true rfl), (Nat.le_of_ble_eq_true rfl)⟩ ⟨(Nat.le_of_ble_eq_true rfl), (Nat.le_of_ble_eq_true rfl)⟩ ?_
      refine q_catch C [] ⟨0, 12, 15, 19⟩ [⟨0, 12, 19, 21⟩] (hT.trans rfl) (by decide +kernel) (fun z hz => by cases hz) (by decide) (by decide) cl_L_19 (by decide +kernel) (i := 5) (len := 2) (q_dc (z := (15, .astore 5, 2, 0, 0)) tk_L_reach 10 rfl) (Or.inr ⟨rfl, rfl⟩) (by decide) ?_
      refine q_go C tk_L_reach [(11, 1)] [] (pc1 := 18) (σ1 := σ) (lv1 := [(0, .ref 220), (1, .int g0), (2, .int g1), (3, .int g2), (4, .ref 237)]) (st1 := [.int 1]) rfl trivial ?_
      exact q_iret C hr (q_dc (z := (18, .ireturn, 1, 0, 0)) tk_L_reach 12 rfl) rfl rfl (Nat.le_of_ble_eq_true rfl) (Nat.le_of_ble_eq_true rfl)
    by_cases e1 : E = "java/lang/IllegalArgumentException"
    · subst e1
      have hq : q_code nx_reach "java/lang/IllegalArgumentException" = 2 := by decide +kernel
      rw [hq]
      refine q_enterW (own := RL) (F := fun _ => none) (G := fun _ => none) (by decide +kernel) rfl Fok_L Gok_L (Nat.le_of_ble_eq_true rfl) (fun p l e s m args below meth c A hfl C hr hT => ?_)
      refine q_go C tk_L_reach [(0, 6)] [] (pc1 := 7) (σ1 := σ) (lv1 := [(0, .ref 220), (1, .int g0), (2, .int g1), (3, .int g2), (4, .ref 237)]) (st1 := [.int g2, .int g1, .int g0, .ref 220, .int 0, .ref 237]) rfl trivial ?_
      refine q_callVx C hfl mw_X8_reach mi_X8_reach me_X8_reach lk_L_110 hk (rest := [.int 0, .ref 237]) rfl rfl rfl (by decide) (by decide) rfl (q_dc (z := (7, .invokevirtual 110, 3, 0, 0)) tk_L_reach 6 rfl) (Nat.le_of_ble_eq_true rfl) ⟨(Nat.le_of_ble_eq_true rfl), (Nat.le_of_ble_eq_true rfl)⟩ ⟨(Nat.le_of_ble_eq_true rfl), (Nat.le_of_ble_eq_true rfl)⟩ ?_
      refine q_catch C [⟨0, 12, 15, 19⟩] ⟨0, 12, 19, 21⟩ [] (hT.trans rfl) (by decide +kernel) (fun z hz => by simp only [List.mem_cons, List.not_mem_nil, or_false] at hz; rcases hz with rfl <;> first | exact ⟨by decide, _, (by decide +kernel : "java/lang/IndexOutOfBoundsException" ∈ q_XS), (by decide +kernel), cl_L_19⟩) (by decide) (by decide) cl_L_21 (by decide +kernel) (i := 5) (len := 2) (q_dc (z := (19, .astore 5, 2, 0, 0)) tk_L_reach 13 rfl) (Or.inr ⟨rfl, rfl⟩) (by decide) ?_
      refine q_go C tk_L_reach [(14, 1)] [] (pc1 := 22) (σ1 := σ) (lv1 := [(0, .ref 220), (1, .int g0), (2, .int g1), (3, .int g2), (4, .ref 237)]) (st1 := [.int 2]) rfl trivial ?_
      exact q_iret C hr (q_dc (z := (22, .ireturn, 1, 0, 0)) tk_L_reach 15 rfl) rfl rfl (Nat.le_of_ble_eq_true rfl) (Nat.le_of_ble_eq_true rfl)
    simp only [nx_reach, List.mem_cons, List.not_mem_nil, or_false] at hE9
    rcases hE9 with h | h
    · exact absurd h e0
    · exact absurd h e1
abbrev nx_reachByStretches : List String := ["java/lang/IndexOutOfBoundsException", "java/lang/IllegalArgumentException"]
def W_reachByStretches (g0 : Int32) (g1 : Int32) (g2 : Int32) (σ : q_M) : Int32 × q_M := match (F_X8_reachByStretches g0 g1 g2 σ) with | .inl v => (0, (q_up σ 237 0 v)) | .inr E => (q_code nx_reachByStretches E, σ)
def tb_L_reachByStretches : List q_E := [(0, .aload 4, 2, 0, 0), (2, .iconst 0, 1, 0, 0), (3, .aload_n 0, 1, 0, 0), (4, .iload_n 1, 1, 0, 0), (5, .iload_n 2, 1, 0, 0), (6, .iload_n 3, 1, 0, 0), (7, .invokevirtual 113, 3, 0, 0), (10, .i2l, 1, 0, 0), (11, .lastore, 1, 0, 0), (12, .goto 11, 3, 0, 23), (15, .astore 5, 2, 0, 0), (17, .iconst 1, 1, 1, 0), (18, .ireturn, 1, 0, 0), (19, .astore 5, 2, 0, 0), (21, .iconst 2, 1, 2, 0), (22, .ireturn, 1, 0, 0), (23, .iconst 0, 1, 0, 0), (24, .ireturn, 1, 0, 0)]
theorem tk_L_reachByStretches : q_tb cL_reachByStretches 6 tb_L_reachByStretches = true := by decide +kernel
abbrev hh_L_reachByStretches : List (Nat × Nat × Nat × Nat) := [(0, 12, 15, 19), (0, 12, 19, 21)]
set_option maxRecDepth 100000 in
theorem kw_reachByStretches {α β : Nat → Nat} {D : va_G} {κ : Nat → ClassId} (g0 : Int32) (g1 : Int32) (g2 : Int32) (σ : q_M) (hP : P_X8_reachByStretches g0 g1 g2 σ) (hE : ∀ E, (F_X8_reachByStretches g0 g1 g2 σ) = .inr E → E ∈ nx_reachByStretches) : q_CW α β D κ yL_reachByStretches cL_reachByStretches 6 (some .int) hh_L_reachByStretches 10 186 3 18 [.ref 220, .int g0, .int g1, .int g2, .ref 237] σ (some (.int (W_reachByStretches g0 g1 g2 σ).1)) (W_reachByStretches g0 g1 g2 σ).2 := by
  have hk := k_X8_reachByStretches (α := α) (β := β) (D := D) (κ := κ) g0 g1 g2 σ hP
  rcases hx : (F_X8_reachByStretches g0 g1 g2 σ) with v | E
  · have hw : W_reachByStretches g0 g1 g2 σ = (0, (q_up σ 237 0 v)) := by unfold W_reachByStretches; rw [hx]
    rw [hw]
    rw [hx] at hk
    refine q_enterW (own := RL) (F := fun _ => none) (G := fun _ => none) (by decide +kernel) rfl Fok_L Gok_L (Nat.le_of_ble_eq_true rfl) (fun p l e s m args below meth c A hfl C hr hT => ?_)
    refine q_go C tk_L_reachByStretches [(0, 6)] [] (pc1 := 7) (σ1 := σ) (lv1 := [(0, .ref 220), (1, .int g0), (2, .int g1), (3, .int g2), (4, .ref 237)]) (st1 := [.int g2, .int g1, .int g0, .ref 220, .int 0, .ref 237]) rfl trivial ?_
    refine q_callV (v := some (.int v)) C hfl mw_X8_reachByStretches mi_X8_reachByStretches me_X8_reachByStretches lk_L_113 hk (rest := [.int 0, .ref 237]) rfl rfl rfl (by decide) (by decide) rfl (q_dc (z := (7, .invokevirtual 113, 3, 0, 0)) tk_L_reachByStretches 6 rfl) (Nat.le_of_ble_eq_true rfl) ⟨(Nat.le_of_ble_eq_true rfl), (Nat.le_of_ble_eq_true rfl)⟩ ⟨(Nat.le_of_ble_eq_true rfl), (Nat.le_of_ble_eq_true rfl)⟩ ?_
    refine q_nrm 10 [.int v, .int 0, .ref 237] 3 18 rfl rfl rfl rfl ?_
    refine q_go C tk_L_reachByStretches [(7, 1)] [] (pc1 := 11) (σ1 := σ) (lv1 := [(0, .ref 220), (1, .int g0), (2, .int g1), (3, .int g2), (4, .ref 237)]) (st1 := [.long v.toInt64, .int 0, .ref 237]) rfl trivial ?_
    refine q_last C (q_dc (z := (11, .lastore, 1, 0, 0)) tk_L_reachByStretches 8 rfl) ?_
    refine q_go C tk_L_reachByStretches [(9, 1), (16, 1)] [] (pc1 := 24) (σ1 := (q_up σ 237 0 v)) (lv1 := [(0, .ref 220), (1, .int g0), (2, .int g1), (3, .int g2), (4, .ref 237)]) (st1 := [.int 0]) rfl trivial ?_
    exact q_iret C hr (q_dc (z := (24, .ireturn, 1, 0, 0)) tk_L_reachByStretches 17 rfl) rfl rfl (Nat.le_of_ble_eq_true rfl) (Nat.le_of_ble_eq_true rfl)
  · have hw : W_reachByStretches g0 g1 g2 σ = (q_code nx_reachByStretches E, σ) := by unfold W_reachByStretches; rw [hx]
    have hE9 := hE E (by rw [hx])
    rw [hw]
    rw [hx] at hk
    by_cases e0 : E = "java/lang/IndexOutOfBoundsException"
    · subst e0
      have hq : q_code nx_reachByStretches "java/lang/IndexOutOfBoundsException" = 1 := by decide +kernel
      rw [hq]
      refine q_enterW (own := RL) (F := fun _ => none) (G := fun _ => none) (by decide +kernel) rfl Fok_L Gok_L (Nat.le_of_ble_eq_true rfl) (fun p l e s m args below meth c A hfl C hr hT => ?_)
      refine q_go C tk_L_reachByStretches [(0, 6)] [] (pc1 := 7) (σ1 := σ) (lv1 := [(0, .ref 220), (1, .int g0), (2, .int g1), (3, .int g2), (4, .ref 237)]) (st1 := [.int g2, .int g1, .int g0, .ref 220, .int 0, .ref 237]) rfl trivial ?_
      refine q_callVx C hfl mw_X8_reachByStretches mi_X8_reachByStretches me_X8_reachByStretches lk_L_113 hk (rest := [.int 0, .ref 237]) rfl rfl rfl (by decide) (by decide) rfl (q_dc (z := (7, .invokevirtual 113, 3, 0, 0)) tk_L_reachByStretches 6 rfl) (Nat.le_of_ble_eq_true rfl) ⟨(Nat.le_of_ble_eq_true rfl), (Nat.le_of_ble_eq_true rfl)⟩ ⟨(Nat.le_of_ble_eq_true rfl), (Nat.le_of_ble_eq_true rfl)⟩ ?_
      refine q_catch C [] ⟨0, 12, 15, 19⟩ [⟨0, 12, 19, 21⟩] (hT.trans rfl) (by decide +kernel) (fun z hz => by cases hz) (by decide) (by decide) cl_L_19 (by decide +kernel) (i := 5) (len := 2) (q_dc (z := (15, .astore 5, 2, 0, 0)) tk_L_reachByStretches 10 rfl) (Or.inr ⟨rfl, rfl⟩) (by decide) ?_
      refine q_go C tk_L_reachByStretches [(11, 1)] [] (pc1 := 18) (σ1 := σ) (lv1 := [(0, .ref 220), (1, .int g0), (2, .int g1), (3, .int g2), (4, .ref 237)]) (st1 := [.int 1]) rfl trivial ?_
      exact q_iret C hr (q_dc (z := (18, .ireturn, 1, 0, 0)) tk_L_reachByStretches 12 rfl) rfl rfl (Nat.le_of_ble_eq_true rfl) (Nat.le_of_ble_eq_true rfl)
    by_cases e1 : E = "java/lang/IllegalArgumentException"
    · subst e1
      have hq : q_code nx_reachByStretches "java/lang/IllegalArgumentException" = 2 := by decide +kernel
      rw [hq]
      refine q_enterW (own := RL) (F := fun _ => none) (G := fun _ => none) (by decide +kernel) rfl Fok_L Gok_L (Nat.le_of_ble_eq_true rfl) (fun p l e s m args below meth c A hfl C hr hT => ?_)
      refine q_go C tk_L_reachByStretches [(0, 6)] [] (pc1 := 7) (σ1 := σ) (lv1 := [(0, .ref 220), (1, .int g0), (2, .int g1), (3, .int g2), (4, .ref 237)]) (st1 := [.int g2, .int g1, .int g0, .ref 220, .int 0, .ref 237]) rfl trivial ?_
      refine q_callVx C hfl mw_X8_reachByStretches mi_X8_reachByStretches me_X8_reachByStretches lk_L_113 hk (rest := [.int 0, .ref 237]) rfl rfl rfl (by decide) (by decide) rfl (q_dc (z := (7, .invokevirtual 113, 3, 0, 0)) tk_L_reachByStretches 6 rfl) (Nat.le_of_ble_eq_true rfl) ⟨(Nat.le_of_ble_eq_true rfl), (Nat.le_of_ble_eq_true rfl)⟩ ⟨(Nat.le_of_ble_eq_true rfl), (Nat.le_of_ble_eq_true rfl)⟩ ?_
      refine q_catch C [⟨0, 12, 15, 19⟩] ⟨0, 12, 19, 21⟩ [] (hT.trans rfl) (by decide +kernel) (fun z hz => by simp only [List.mem_cons, List.not_mem_nil, or_false] at hz; rcases hz with rfl <;> first | exact ⟨by decide, _, (by decide +kernel : "java/lang/IndexOutOfBoundsException" ∈ q_XS), (by decide +kernel), cl_L_19⟩) (by decide) (by decide) cl_L_21 (by decide +kernel) (i := 5) (len := 2) (q_dc (z := (19, .astore 5, 2, 0, 0)) tk_L_reachByStretches 13 rfl) (Or.inr ⟨rfl, rfl⟩) (by decide) ?_
      refine q_go C tk_L_reachByStretches [(14, 1)] [] (pc1 := 22) (σ1 := σ) (lv1 := [(0, .ref 220), (1, .int g0), (2, .int g1), (3, .int g2), (4, .ref 237)]) (st1 := [.int 2]) rfl trivial ?_
      exact q_iret C hr (q_dc (z := (22, .ireturn, 1, 0, 0)) tk_L_reachByStretches 15 rfl) rfl rfl (Nat.le_of_ble_eq_true rfl) (Nat.le_of_ble_eq_true rfl)
    simp only [nx_reachByStretches, List.mem_cons, List.not_mem_nil, or_false] at hE9
    rcases hE9 with h | h
    · exact absurd h e0
    · exact absurd h e1
abbrev nx_secondsToZone : List String := ["java/lang/IndexOutOfBoundsException", "java/lang/IllegalStateException", "java/lang/UnsupportedOperationException"]
def W_secondsToZone (g0 : Int32) (σ : q_M) : Int32 × q_M := match (F_X8_secondsToZone g0 σ) with | .inl v => (0, (q_up σ 237 0 v)) | .inr E => (q_code nx_secondsToZone E, σ)
def tb_L_secondsToZone : List q_E := [(0, .aload_n 2, 1, 0, 0), (1, .iconst 0, 1, 0, 0), (2, .aload_n 0, 1, 0, 0), (3, .iload_n 1, 1, 0, 0), (4, .invokevirtual 116, 3, 0, 0), (7, .i2l, 1, 0, 0), (8, .lastore, 1, 0, 0), (9, .goto 12, 3, 0, 21), (12, .astore_n 3, 1, 0, 0), (13, .iconst 1, 1, 1, 0), (14, .ireturn, 1, 0, 0), (15, .astore_n 3, 1, 0, 0), (16, .iconst 2, 1, 2, 0), (17, .ireturn, 1, 0, 0), (18, .astore_n 3, 1, 0, 0), (19, .iconst 3, 1, 3, 0), (20, .ireturn, 1, 0, 0), (21, .iconst 0, 1, 0, 0), (22, .ireturn, 1, 0, 0)]
theorem tk_L_secondsToZone : q_tb cL_secondsToZone 4 tb_L_secondsToZone = true := by decide +kernel
abbrev hh_L_secondsToZone : List (Nat × Nat × Nat × Nat) := [(0, 9, 12, 19), (0, 9, 15, 13), (0, 9, 18, 39)]
set_option maxRecDepth 100000 in
theorem kw_secondsToZone {α β : Nat → Nat} {D : va_G} {κ : Nat → ClassId} (g0 : Int32) (σ : q_M) (hP : P_X8_secondsToZone g0 σ) (hE : ∀ E, (F_X8_secondsToZone g0 σ) = .inr E → E ∈ nx_secondsToZone) : q_CW α β D κ yL_secondsToZone cL_secondsToZone 4 (some .int) hh_L_secondsToZone 8 134 2 12 [.ref 220, .int g0, .ref 237] σ (some (.int (W_secondsToZone g0 σ).1)) (W_secondsToZone g0 σ).2 := by
  have hk := k_X8_secondsToZone (α := α) (β := β) (D := D) (κ := κ) g0 σ hP
  rcases hx : (F_X8_secondsToZone g0 σ) with v | E
  · have hw : W_secondsToZone g0 σ = (0, (q_up σ 237 0 v)) := by unfold W_secondsToZone; rw [hx]
    rw [hw]
    rw [hx] at hk
    refine q_enterW (own := RL) (F := fun _ => none) (G := fun _ => none) (by decide +kernel) rfl Fok_L Gok_L (Nat.le_of_ble_eq_true rfl) (fun p l e s m args below meth c A hfl C hr hT => ?_)
    refine q_go C tk_L_secondsToZone [(0, 4)] [] (pc1 := 4) (σ1 := σ) (lv1 := [(0, .ref 220), (1, .int g0), (2, .ref 237)]) (st1 := [.int g0, .ref 220, .int 0, .ref 237]) rfl trivial ?_
    refine q_callV (v := some (.int v)) C hfl mw_X8_secondsToZone mi_X8_secondsToZone me_X8_secondsToZone lk_L_116 hk (rest := [.int 0, .ref 237]) rfl rfl rfl (by decide) (by decide) rfl (q_dc (z := (4, .invokevirtual 116, 3, 0, 0)) tk_L_secondsToZone 4 rfl) (Nat.le_of_ble_eq_true rfl) ⟨(Nat.le_of_ble_eq_true rfl), (Nat.le_of_ble_eq_true rfl)⟩ ⟨(Nat.le_of_ble_eq_true rfl), (Nat.le_of_ble_eq_true rfl)⟩ ?_
    refine q_nrm 7 [.int v, .int 0, .ref 237] 2 12 rfl rfl rfl rfl ?_
    refine q_go C tk_L_secondsToZone [(5, 1)] [] (pc1 := 8) (σ1 := σ) (lv1 := [(0, .ref 220), (1, .int g0), (2, .ref 237)]) (st1 := [.long v.toInt64, .int 0, .ref 237]) rfl trivial ?_
    refine q_last C (q_dc (z := (8, .lastore, 1, 0, 0)) tk_L_secondsToZone 6 rfl) ?_
    refine q_go C tk_L_secondsToZone [(7, 1), (17, 1)] [] (pc1 := 22) (σ1 := (q_up σ 237 0 v)) (lv1 := [(0, .ref 220), (1, .int g0), (2, .ref 237)]) (st1 := [.int 0]) rfl trivial ?_
    exact q_iret C hr (q_dc (z := (22, .ireturn, 1, 0, 0)) tk_L_secondsToZone 18 rfl) rfl rfl (Nat.le_of_ble_eq_true rfl) (Nat.le_of_ble_eq_true rfl)
  · have hw : W_secondsToZone g0 σ = (q_code nx_secondsToZone E, σ) := by unfold W_secondsToZone; rw [hx]
    have hE9 := hE E (by rw [hx])
    rw [hw]
    rw [hx] at hk
    by_cases e0 : E = "java/lang/IndexOutOfBoundsException"
    · subst e0
      have hq : q_code nx_secondsToZone "java/lang/IndexOutOfBoundsException" = 1 := by decide +kernel
      rw [hq]
      refine q_enterW (own := RL) (F := fun _ => none) (G := fun _ => none) (by decide +kernel) rfl Fok_L Gok_L (Nat.le_of_ble_eq_true rfl) (fun p l e s m args below meth c A hfl C hr hT => ?_)
      refine q_go C tk_L_secondsToZone [(0, 4)] [] (pc1 := 4) (σ1 := σ) (lv1 := [(0, .ref 220), (1, .int g0), (2, .ref 237)]) (st1 := [.int g0, .ref 220, .int 0, .ref 237]) rfl trivial ?_
      refine q_callVx C hfl mw_X8_secondsToZone mi_X8_secondsToZone me_X8_secondsToZone lk_L_116 hk (rest := [.int 0, .ref 237]) rfl rfl rfl (by decide) (by decide) rfl (q_dc (z := (4, .invokevirtual 116, 3, 0, 0)) tk_L_secondsToZone 4 rfl) (Nat.le_of_ble_eq_true rfl) ⟨(Nat.le_of_ble_eq_true rfl), (Nat.le_of_ble_eq_true rfl)⟩ ⟨(Nat.le_of_ble_eq_true rfl), (Nat.le_of_ble_eq_true rfl)⟩ ?_
      refine q_catch C [] ⟨0, 9, 12, 19⟩ [⟨0, 9, 15, 13⟩, ⟨0, 9, 18, 39⟩] (hT.trans rfl) (by decide +kernel) (fun z hz => by cases hz) (by decide) (by decide) cl_L_19 (by decide +kernel) (i := 3) (len := 1) (q_dc (z := (12, .astore_n 3, 1, 0, 0)) tk_L_secondsToZone 8 rfl) (Or.inl ⟨3, rfl, rfl, rfl⟩) (by decide) ?_
      refine q_go C tk_L_secondsToZone [(9, 1)] [] (pc1 := 14) (σ1 := σ) (lv1 := [(0, .ref 220), (1, .int g0), (2, .ref 237)]) (st1 := [.int 1]) rfl trivial ?_
      exact q_iret C hr (q_dc (z := (14, .ireturn, 1, 0, 0)) tk_L_secondsToZone 10 rfl) rfl rfl (Nat.le_of_ble_eq_true rfl) (Nat.le_of_ble_eq_true rfl)
    by_cases e1 : E = "java/lang/IllegalStateException"
    · subst e1
      have hq : q_code nx_secondsToZone "java/lang/IllegalStateException" = 2 := by decide +kernel
      rw [hq]
      refine q_enterW (own := RL) (F := fun _ => none) (G := fun _ => none) (by decide +kernel) rfl Fok_L Gok_L (Nat.le_of_ble_eq_true rfl) (fun p l e s m args below meth c A hfl C hr hT => ?_)
      refine q_go C tk_L_secondsToZone [(0, 4)] [] (pc1 := 4) (σ1 := σ) (lv1 := [(0, .ref 220), (1, .int g0), (2, .ref 237)]) (st1 := [.int g0, .ref 220, .int 0, .ref 237]) rfl trivial ?_
      refine q_callVx C hfl mw_X8_secondsToZone mi_X8_secondsToZone me_X8_secondsToZone lk_L_116 hk (rest := [.int 0, .ref 237]) rfl rfl rfl (by decide) (by decide) rfl (q_dc (z := (4, .invokevirtual 116, 3, 0, 0)) tk_L_secondsToZone 4 rfl) (Nat.le_of_ble_eq_true rfl) ⟨(Nat.le_of_ble_eq_true rfl), (Nat.le_of_ble_eq_true rfl)⟩ ⟨(Nat.le_of_ble_eq_true rfl), (Nat.le_of_ble_eq_true rfl)⟩ ?_
      refine q_catch C [⟨0, 9, 12, 19⟩] ⟨0, 9, 15, 13⟩ [⟨0, 9, 18, 39⟩] (hT.trans rfl) (by decide +kernel) (fun z hz => by simp only [List.mem_cons, List.not_mem_nil, or_false] at hz; rcases hz with rfl <;> first | exact ⟨by decide, _, (by decide +kernel : "java/lang/IndexOutOfBoundsException" ∈ q_XS), (by decide +kernel), cl_L_19⟩) (by decide) (by decide) cl_L_13 (by decide +kernel) (i := 3) (len := 1) (q_dc (z := (15, .astore_n 3, 1, 0, 0)) tk_L_secondsToZone 11 rfl) (Or.inl ⟨3, rfl, rfl, rfl⟩) (by decide) ?_
      refine q_go C tk_L_secondsToZone [(12, 1)] [] (pc1 := 17) (σ1 := σ) (lv1 := [(0, .ref 220), (1, .int g0), (2, .ref 237)]) (st1 := [.int 2]) rfl trivial ?_
      exact q_iret C hr (q_dc (z := (17, .ireturn, 1, 0, 0)) tk_L_secondsToZone 13 rfl) rfl rfl (Nat.le_of_ble_eq_true rfl) (Nat.le_of_ble_eq_true rfl)
    by_cases e2 : E = "java/lang/UnsupportedOperationException"
    · subst e2
      have hq : q_code nx_secondsToZone "java/lang/UnsupportedOperationException" = 3 := by decide +kernel
      rw [hq]
      refine q_enterW (own := RL) (F := fun _ => none) (G := fun _ => none) (by decide +kernel) rfl Fok_L Gok_L (Nat.le_of_ble_eq_true rfl) (fun p l e s m args below meth c A hfl C hr hT => ?_)
      refine q_go C tk_L_secondsToZone [(0, 4)] [] (pc1 := 4) (σ1 := σ) (lv1 := [(0, .ref 220), (1, .int g0), (2, .ref 237)]) (st1 := [.int g0, .ref 220, .int 0, .ref 237]) rfl trivial ?_
      refine q_callVx C hfl mw_X8_secondsToZone mi_X8_secondsToZone me_X8_secondsToZone lk_L_116 hk (rest := [.int 0, .ref 237]) rfl rfl rfl (by decide) (by decide) rfl (q_dc (z := (4, .invokevirtual 116, 3, 0, 0)) tk_L_secondsToZone 4 rfl) (Nat.le_of_ble_eq_true rfl) ⟨(Nat.le_of_ble_eq_true rfl), (Nat.le_of_ble_eq_true rfl)⟩ ⟨(Nat.le_of_ble_eq_true rfl), (Nat.le_of_ble_eq_true rfl)⟩ ?_
      refine q_catch C [⟨0, 9, 12, 19⟩, ⟨0, 9, 15, 13⟩] ⟨0, 9, 18, 39⟩ [] (hT.trans rfl) (by decide +kernel) (fun z hz => by simp only [List.mem_cons, List.not_mem_nil, or_false] at hz; rcases hz with rfl | rfl <;> first | exact ⟨by decide, _, (by decide +kernel : "java/lang/IndexOutOfBoundsException" ∈ q_XS), (by decide +kernel), cl_L_19⟩ | exact ⟨by decide, _, (by decide +kernel : "java/lang/IllegalStateException" ∈ q_XS), (by decide +kernel), cl_L_13⟩) (by decide) (by decide) cl_L_39 (by decide +kernel) (i := 3) (len := 1) (q_dc (z := (18, .astore_n 3, 1, 0, 0)) tk_L_secondsToZone 14 rfl) (Or.inl ⟨3, rfl, rfl, rfl⟩) (by decide) ?_
      refine q_go C tk_L_secondsToZone [(15, 1)] [] (pc1 := 20) (σ1 := σ) (lv1 := [(0, .ref 220), (1, .int g0), (2, .ref 237)]) (st1 := [.int 3]) rfl trivial ?_
      exact q_iret C hr (q_dc (z := (20, .ireturn, 1, 0, 0)) tk_L_secondsToZone 16 rfl) rfl rfl (Nat.le_of_ble_eq_true rfl) (Nat.le_of_ble_eq_true rfl)
    simp only [nx_secondsToZone, List.mem_cons, List.not_mem_nil, or_false] at hE9
    rcases hE9 with h | h | h
    · exact absurd h e0
    · exact absurd h e1
    · exact absurd h e2
abbrev nx_refusalReason : List String := ["java/util/NoSuchElementException"]
def W_refusalReason (σ : q_M) : Int32 × q_M := match (F_X8_refusalReason σ) with | .inl v => (0, (q_up σ 237 0 v)) | .inr E => (q_code nx_refusalReason E, σ)
def tb_L_refusalReason : List q_E := [(0, .aload_n 1, 1, 0, 0), (1, .iconst 0, 1, 0, 0), (2, .aload_n 0, 1, 0, 0), (3, .invokevirtual 119, 3, 0, 0), (6, .i2l, 1, 0, 0), (7, .lastore, 1, 0, 0), (8, .goto 6, 3, 0, 14), (11, .astore_n 2, 1, 0, 0), (12, .iconst 1, 1, 1, 0), (13, .ireturn, 1, 0, 0), (14, .iconst 0, 1, 0, 0), (15, .ireturn, 1, 0, 0)]
theorem tk_L_refusalReason : q_tb cL_refusalReason 3 tb_L_refusalReason = true := by decide +kernel
abbrev hh_L_refusalReason : List (Nat × Nat × Nat × Nat) := [(0, 8, 11, 58)]
set_option maxRecDepth 100000 in
theorem kw_refusalReason {α β : Nat → Nat} {D : va_G} {κ : Nat → ClassId} (σ : q_M) (hE : ∀ E, (F_X8_refusalReason σ) = .inr E → E ∈ nx_refusalReason) : q_CW α β D κ yL_refusalReason cL_refusalReason 3 (some .int) hh_L_refusalReason 7 110 1 6 [.ref 220, .ref 237] σ (some (.int (W_refusalReason σ).1)) (W_refusalReason σ).2 := by
  have hk := k_X8_refusalReason (α := α) (β := β) (D := D) (κ := κ) σ
  rcases hx : (F_X8_refusalReason σ) with v | E
  · have hw : W_refusalReason σ = (0, (q_up σ 237 0 v)) := by unfold W_refusalReason; rw [hx]
    rw [hw]
    rw [hx] at hk
    refine q_enterW (own := RL) (F := fun _ => none) (G := fun _ => none) (by decide +kernel) rfl Fok_L Gok_L (Nat.le_of_ble_eq_true rfl) (fun p l e s m args below meth c A hfl C hr hT => ?_)
    refine q_go C tk_L_refusalReason [(0, 3)] [] (pc1 := 3) (σ1 := σ) (lv1 := [(0, .ref 220), (1, .ref 237)]) (st1 := [.ref 220, .int 0, .ref 237]) rfl trivial ?_
    refine q_callV (v := some (.int v)) C hfl mw_X8_refusalReason mi_X8_refusalReason me_X8_refusalReason lk_L_119 hk (rest := [.int 0, .ref 237]) rfl rfl rfl (by decide) (by decide) rfl (q_dc (z := (3, .invokevirtual 119, 3, 0, 0)) tk_L_refusalReason 3 rfl) (Nat.le_of_ble_eq_true rfl) ⟨(Nat.le_of_ble_eq_true rfl), (Nat.le_of_ble_eq_true rfl)⟩ ⟨(Nat.le_of_ble_eq_true rfl), (Nat.le_of_ble_eq_true rfl)⟩ ?_
    refine q_nrm 6 [.int v, .int 0, .ref 237] 1 6 rfl rfl rfl rfl ?_
    refine q_go C tk_L_refusalReason [(4, 1)] [] (pc1 := 7) (σ1 := σ) (lv1 := [(0, .ref 220), (1, .ref 237)]) (st1 := [.long v.toInt64, .int 0, .ref 237]) rfl trivial ?_
    refine q_last C (q_dc (z := (7, .lastore, 1, 0, 0)) tk_L_refusalReason 5 rfl) ?_
    refine q_go C tk_L_refusalReason [(6, 1), (10, 1)] [] (pc1 := 15) (σ1 := (q_up σ 237 0 v)) (lv1 := [(0, .ref 220), (1, .ref 237)]) (st1 := [.int 0]) rfl trivial ?_
    exact q_iret C hr (q_dc (z := (15, .ireturn, 1, 0, 0)) tk_L_refusalReason 11 rfl) rfl rfl (Nat.le_of_ble_eq_true rfl) (Nat.le_of_ble_eq_true rfl)
  · have hw : W_refusalReason σ = (q_code nx_refusalReason E, σ) := by unfold W_refusalReason; rw [hx]
    have hE9 := hE E (by rw [hx])
    rw [hw]
    rw [hx] at hk
    by_cases e0 : E = "java/util/NoSuchElementException"
    · subst e0
      have hq : q_code nx_refusalReason "java/util/NoSuchElementException" = 1 := by decide +kernel
      rw [hq]
      refine q_enterW (own := RL) (F := fun _ => none) (G := fun _ => none) (by decide +kernel) rfl Fok_L Gok_L (Nat.le_of_ble_eq_true rfl) (fun p l e s m args below meth c A hfl C hr hT => ?_)
      refine q_go C tk_L_refusalReason [(0, 3)] [] (pc1 := 3) (σ1 := σ) (lv1 := [(0, .ref 220), (1, .ref 237)]) (st1 := [.ref 220, .int 0, .ref 237]) rfl trivial ?_
      refine q_callVx C hfl mw_X8_refusalReason mi_X8_refusalReason me_X8_refusalReason lk_L_119 hk (rest := [.int 0, .ref 237]) rfl rfl rfl (by decide) (by decide) rfl (q_dc (z := (3, .invokevirtual 119, 3, 0, 0)) tk_L_refusalReason 3 rfl) (Nat.le_of_ble_eq_true rfl) ⟨(Nat.le_of_ble_eq_true rfl), (Nat.le_of_ble_eq_true rfl)⟩ ⟨(Nat.le_of_ble_eq_true rfl), (Nat.le_of_ble_eq_true rfl)⟩ ?_
      refine q_catch C [] ⟨0, 8, 11, 58⟩ [] (hT.trans rfl) (by decide +kernel) (fun z hz => by cases hz) (by decide) (by decide) cl_L_58 (by decide +kernel) (i := 2) (len := 1) (q_dc (z := (11, .astore_n 2, 1, 0, 0)) tk_L_refusalReason 7 rfl) (Or.inl ⟨2, rfl, rfl, rfl⟩) (by decide) ?_
      refine q_go C tk_L_refusalReason [(8, 1)] [] (pc1 := 13) (σ1 := σ) (lv1 := [(0, .ref 220), (1, .ref 237)]) (st1 := [.int 1]) rfl trivial ?_
      exact q_iret C hr (q_dc (z := (13, .ireturn, 1, 0, 0)) tk_L_refusalReason 9 rfl) rfl rfl (Nat.le_of_ble_eq_true rfl) (Nat.le_of_ble_eq_true rfl)
    simp only [nx_refusalReason, List.mem_cons, List.not_mem_nil, or_false] at hE9
    exact absurd hE9 e0
abbrev nx_refusedTeam : List String := ["java/util/NoSuchElementException"]
def W_refusedTeam (σ : q_M) : Int32 × q_M := match (F_X8_refusedTeam σ) with | .inl v => (0, (q_up σ 237 0 v)) | .inr E => (q_code nx_refusedTeam E, σ)
def tb_L_refusedTeam : List q_E := [(0, .aload_n 1, 1, 0, 0), (1, .iconst 0, 1, 0, 0), (2, .aload_n 0, 1, 0, 0), (3, .invokevirtual 122, 3, 0, 0), (6, .i2l, 1, 0, 0), (7, .lastore, 1, 0, 0), (8, .goto 6, 3, 0, 14), (11, .astore_n 2, 1, 0, 0), (12, .iconst 1, 1, 1, 0), (13, .ireturn, 1, 0, 0), (14, .iconst 0, 1, 0, 0), (15, .ireturn, 1, 0, 0)]
theorem tk_L_refusedTeam : q_tb cL_refusedTeam 3 tb_L_refusedTeam = true := by decide +kernel
abbrev hh_L_refusedTeam : List (Nat × Nat × Nat × Nat) := [(0, 8, 11, 58)]
set_option maxRecDepth 100000 in
theorem kw_refusedTeam {α β : Nat → Nat} {D : va_G} {κ : Nat → ClassId} (σ : q_M) (hE : ∀ E, (F_X8_refusedTeam σ) = .inr E → E ∈ nx_refusedTeam) : q_CW α β D κ yL_refusedTeam cL_refusedTeam 3 (some .int) hh_L_refusedTeam 7 110 1 6 [.ref 220, .ref 237] σ (some (.int (W_refusedTeam σ).1)) (W_refusedTeam σ).2 := by
  have hk := k_X8_refusedTeam (α := α) (β := β) (D := D) (κ := κ) σ
  rcases hx : (F_X8_refusedTeam σ) with v | E
  · have hw : W_refusedTeam σ = (0, (q_up σ 237 0 v)) := by unfold W_refusedTeam; rw [hx]
    rw [hw]
    rw [hx] at hk
    refine q_enterW (own := RL) (F := fun _ => none) (G := fun _ => none) (by decide +kernel) rfl Fok_L Gok_L (Nat.le_of_ble_eq_true rfl) (fun p l e s m args below meth c A hfl C hr hT => ?_)
    refine q_go C tk_L_refusedTeam [(0, 3)] [] (pc1 := 3) (σ1 := σ) (lv1 := [(0, .ref 220), (1, .ref 237)]) (st1 := [.ref 220, .int 0, .ref 237]) rfl trivial ?_
    refine q_callV (v := some (.int v)) C hfl mw_X8_refusedTeam mi_X8_refusedTeam me_X8_refusedTeam lk_L_122 hk (rest := [.int 0, .ref 237]) rfl rfl rfl (by decide) (by decide) rfl (q_dc (z := (3, .invokevirtual 122, 3, 0, 0)) tk_L_refusedTeam 3 rfl) (Nat.le_of_ble_eq_true rfl) ⟨(Nat.le_of_ble_eq_true rfl), (Nat.le_of_ble_eq_true rfl)⟩ ⟨(Nat.le_of_ble_eq_true rfl), (Nat.le_of_ble_eq_true rfl)⟩ ?_
    refine q_nrm 6 [.int v, .int 0, .ref 237] 1 6 rfl rfl rfl rfl ?_
    refine q_go C tk_L_refusedTeam [(4, 1)] [] (pc1 := 7) (σ1 := σ) (lv1 := [(0, .ref 220), (1, .ref 237)]) (st1 := [.long v.toInt64, .int 0, .ref 237]) rfl trivial ?_
    refine q_last C (q_dc (z := (7, .lastore, 1, 0, 0)) tk_L_refusedTeam 5 rfl) ?_
    refine q_go C tk_L_refusedTeam [(6, 1), (10, 1)] [] (pc1 := 15) (σ1 := (q_up σ 237 0 v)) (lv1 := [(0, .ref 220), (1, .ref 237)]) (st1 := [.int 0]) rfl trivial ?_
    exact q_iret C hr (q_dc (z := (15, .ireturn, 1, 0, 0)) tk_L_refusedTeam 11 rfl) rfl rfl (Nat.le_of_ble_eq_true rfl) (Nat.le_of_ble_eq_true rfl)
  · have hw : W_refusedTeam σ = (q_code nx_refusedTeam E, σ) := by unfold W_refusedTeam; rw [hx]
    have hE9 := hE E (by rw [hx])
    rw [hw]
    rw [hx] at hk
    by_cases e0 : E = "java/util/NoSuchElementException"
    · subst e0
      have hq : q_code nx_refusedTeam "java/util/NoSuchElementException" = 1 := by decide +kernel
      rw [hq]
      refine q_enterW (own := RL) (F := fun _ => none) (G := fun _ => none) (by decide +kernel) rfl Fok_L Gok_L (Nat.le_of_ble_eq_true rfl) (fun p l e s m args below meth c A hfl C hr hT => ?_)
      refine q_go C tk_L_refusedTeam [(0, 3)] [] (pc1 := 3) (σ1 := σ) (lv1 := [(0, .ref 220), (1, .ref 237)]) (st1 := [.ref 220, .int 0, .ref 237]) rfl trivial ?_
      refine q_callVx C hfl mw_X8_refusedTeam mi_X8_refusedTeam me_X8_refusedTeam lk_L_122 hk (rest := [.int 0, .ref 237]) rfl rfl rfl (by decide) (by decide) rfl (q_dc (z := (3, .invokevirtual 122, 3, 0, 0)) tk_L_refusedTeam 3 rfl) (Nat.le_of_ble_eq_true rfl) ⟨(Nat.le_of_ble_eq_true rfl), (Nat.le_of_ble_eq_true rfl)⟩ ⟨(Nat.le_of_ble_eq_true rfl), (Nat.le_of_ble_eq_true rfl)⟩ ?_
      refine q_catch C [] ⟨0, 8, 11, 58⟩ [] (hT.trans rfl) (by decide +kernel) (fun z hz => by cases hz) (by decide) (by decide) cl_L_58 (by decide +kernel) (i := 2) (len := 1) (q_dc (z := (11, .astore_n 2, 1, 0, 0)) tk_L_refusedTeam 7 rfl) (Or.inl ⟨2, rfl, rfl, rfl⟩) (by decide) ?_
      refine q_go C tk_L_refusedTeam [(8, 1)] [] (pc1 := 13) (σ1 := σ) (lv1 := [(0, .ref 220), (1, .ref 237)]) (st1 := [.int 1]) rfl trivial ?_
      exact q_iret C hr (q_dc (z := (13, .ireturn, 1, 0, 0)) tk_L_refusedTeam 9 rfl) rfl rfl (Nat.le_of_ble_eq_true rfl) (Nat.le_of_ble_eq_true rfl)
    simp only [nx_refusedTeam, List.mem_cons, List.not_mem_nil, or_false] at hE9
    exact absurd hE9 e0
abbrev nx_writeBanner : List String := ["java/lang/IndexOutOfBoundsException"]
def W_writeBanner (g0 : Int32) (σ : q_M) : Int32 × q_M := match (F_X8_writeBanner g0 σ) with | (.inl v, τ) => (0, (q_up τ 237 0 v)) | (.inr E, τ) => (q_code nx_writeBanner E, τ)
def tb_L_writeBanner : List q_E := [(0, .aload_n 2, 1, 0, 0), (1, .iconst 0, 1, 0, 0), (2, .aload_n 0, 1, 0, 0), (3, .iload_n 1, 1, 0, 0), (4, .invokevirtual 125, 3, 0, 0), (7, .i2l, 1, 0, 0), (8, .lastore, 1, 0, 0), (9, .goto 6, 3, 0, 15), (12, .astore_n 3, 1, 0, 0), (13, .iconst 1, 1, 1, 0), (14, .ireturn, 1, 0, 0), (15, .iconst 0, 1, 0, 0), (16, .ireturn, 1, 0, 0)]
theorem tk_L_writeBanner : q_tb cL_writeBanner 4 tb_L_writeBanner = true := by decide +kernel
abbrev hh_L_writeBanner : List (Nat × Nat × Nat × Nat) := [(0, 9, 12, 19)]
set_option maxRecDepth 100000 in
theorem kw_writeBanner {α β : Nat → Nat} {D : va_G} {κ : Nat → ClassId} (g0 : Int32) (σ : q_M) (hP : P_X8_writeBanner g0 σ) (hE : ∀ E, (F_X8_writeBanner g0 σ).1 = .inr E → E ∈ nx_writeBanner) : q_CW α β D κ yL_writeBanner cL_writeBanner 4 (some .int) hh_L_writeBanner 8 204 10 1922 [.ref 220, .int g0, .ref 237] σ (some (.int (W_writeBanner g0 σ).1)) (W_writeBanner g0 σ).2 := by
  have hk := k_X8_writeBanner (α := α) (β := β) (D := D) (κ := κ) g0 σ hP
  rcases hx : (F_X8_writeBanner g0 σ) with ⟨v | E, τ⟩
  · have hw : W_writeBanner g0 σ = (0, (q_up τ 237 0 v)) := by unfold W_writeBanner; rw [hx]
    rw [hw]
    rw [hx] at hk
    refine q_enterW (own := RL) (F := fun _ => none) (G := fun _ => none) (by decide +kernel) rfl Fok_L Gok_L (Nat.le_of_ble_eq_true rfl) (fun p l e s m args below meth c A hfl C hr hT => ?_)
    refine q_go C tk_L_writeBanner [(0, 4)] [] (pc1 := 4) (σ1 := σ) (lv1 := [(0, .ref 220), (1, .int g0), (2, .ref 237)]) (st1 := [.int g0, .ref 220, .int 0, .ref 237]) rfl trivial ?_
    refine q_callV (v := some (.int v)) C hfl mw_X8_writeBanner mi_X8_writeBanner me_X8_writeBanner lk_L_125 hk (rest := [.int 0, .ref 237]) rfl rfl rfl (by decide) (by decide) rfl (q_dc (z := (4, .invokevirtual 125, 3, 0, 0)) tk_L_writeBanner 4 rfl) (Nat.le_of_ble_eq_true rfl) ⟨(Nat.le_of_ble_eq_true rfl), (Nat.le_of_ble_eq_true rfl)⟩ ⟨(Nat.le_of_ble_eq_true rfl), (Nat.le_of_ble_eq_true rfl)⟩ ?_
    refine q_nrm 7 [.int v, .int 0, .ref 237] 10 1922 rfl rfl rfl rfl ?_
    refine q_go C tk_L_writeBanner [(5, 1)] [] (pc1 := 8) (σ1 := τ) (lv1 := [(0, .ref 220), (1, .int g0), (2, .ref 237)]) (st1 := [.long v.toInt64, .int 0, .ref 237]) rfl trivial ?_
    refine q_last C (q_dc (z := (8, .lastore, 1, 0, 0)) tk_L_writeBanner 6 rfl) ?_
    refine q_go C tk_L_writeBanner [(7, 1), (11, 1)] [] (pc1 := 16) (σ1 := (q_up τ 237 0 v)) (lv1 := [(0, .ref 220), (1, .int g0), (2, .ref 237)]) (st1 := [.int 0]) rfl trivial ?_
    exact q_iret C hr (q_dc (z := (16, .ireturn, 1, 0, 0)) tk_L_writeBanner 12 rfl) rfl rfl (Nat.le_of_ble_eq_true rfl) (Nat.le_of_ble_eq_true rfl)
  · have hw : W_writeBanner g0 σ = (q_code nx_writeBanner E, τ) := by unfold W_writeBanner; rw [hx]
    have hE9 := hE E (by rw [hx])
    rw [hw]
    rw [hx] at hk
    by_cases e0 : E = "java/lang/IndexOutOfBoundsException"
    · subst e0
      have hq : q_code nx_writeBanner "java/lang/IndexOutOfBoundsException" = 1 := by decide +kernel
      rw [hq]
      refine q_enterW (own := RL) (F := fun _ => none) (G := fun _ => none) (by decide +kernel) rfl Fok_L Gok_L (Nat.le_of_ble_eq_true rfl) (fun p l e s m args below meth c A hfl C hr hT => ?_)
      refine q_go C tk_L_writeBanner [(0, 4)] [] (pc1 := 4) (σ1 := σ) (lv1 := [(0, .ref 220), (1, .int g0), (2, .ref 237)]) (st1 := [.int g0, .ref 220, .int 0, .ref 237]) rfl trivial ?_
      refine q_callVx C hfl mw_X8_writeBanner mi_X8_writeBanner me_X8_writeBanner lk_L_125 hk (rest := [.int 0, .ref 237]) rfl rfl rfl (by decide) (by decide) rfl (q_dc (z := (4, .invokevirtual 125, 3, 0, 0)) tk_L_writeBanner 4 rfl) (Nat.le_of_ble_eq_true rfl) ⟨(Nat.le_of_ble_eq_true rfl), (Nat.le_of_ble_eq_true rfl)⟩ ⟨(Nat.le_of_ble_eq_true rfl), (Nat.le_of_ble_eq_true rfl)⟩ ?_
      refine q_catch C [] ⟨0, 9, 12, 19⟩ [] (hT.trans rfl) (by decide +kernel) (fun z hz => by cases hz) (by decide) (by decide) cl_L_19 (by decide +kernel) (i := 3) (len := 1) (q_dc (z := (12, .astore_n 3, 1, 0, 0)) tk_L_writeBanner 8 rfl) (Or.inl ⟨3, rfl, rfl, rfl⟩) (by decide) ?_
      refine q_go C tk_L_writeBanner [(9, 1)] [] (pc1 := 14) (σ1 := τ) (lv1 := [(0, .ref 220), (1, .int g0), (2, .ref 237)]) (st1 := [.int 1]) rfl trivial ?_
      exact q_iret C hr (q_dc (z := (14, .ireturn, 1, 0, 0)) tk_L_writeBanner 10 rfl) rfl rfl (Nat.le_of_ble_eq_true rfl) (Nat.le_of_ble_eq_true rfl)
    simp only [nx_writeBanner, List.mem_cons, List.not_mem_nil, or_false] at hE9
    exact absurd hE9 e0
abbrev nx_bannerAt : List String := ["java/lang/IndexOutOfBoundsException"]
def W_bannerAt (g0 : Int32) (σ : q_M) : Int32 × q_M := match (F_X8_bannerAt g0 σ) with | .inl v => (0, (q_up σ 237 0 v)) | .inr E => (q_code nx_bannerAt E, σ)
def tb_L_bannerAt : List q_E := [(0, .aload_n 2, 1, 0, 0), (1, .iconst 0, 1, 0, 0), (2, .aload_n 0, 1, 0, 0), (3, .iload_n 1, 1, 0, 0), (4, .invokevirtual 128, 3, 0, 0), (7, .i2l, 1, 0, 0), (8, .lastore, 1, 0, 0), (9, .goto 6, 3, 0, 15), (12, .astore_n 3, 1, 0, 0), (13, .iconst 1, 1, 1, 0), (14, .ireturn, 1, 0, 0), (15, .iconst 0, 1, 0, 0), (16, .ireturn, 1, 0, 0)]
theorem tk_L_bannerAt : q_tb cL_bannerAt 4 tb_L_bannerAt = true := by decide +kernel
abbrev hh_L_bannerAt : List (Nat × Nat × Nat × Nat) := [(0, 9, 12, 19)]
set_option maxRecDepth 100000 in
theorem kw_bannerAt {α β : Nat → Nat} {D : va_G} {κ : Nat → ClassId} (g0 : Int32) (σ : q_M) (hP : P_X8_bannerAt g0 σ) (hE : ∀ E, (F_X8_bannerAt g0 σ) = .inr E → E ∈ nx_bannerAt) : q_CW α β D κ yL_bannerAt cL_bannerAt 4 (some .int) hh_L_bannerAt 7 117 1 6 [.ref 220, .int g0, .ref 237] σ (some (.int (W_bannerAt g0 σ).1)) (W_bannerAt g0 σ).2 := by
  have hk := k_X8_bannerAt (α := α) (β := β) (D := D) (κ := κ) g0 σ hP
  rcases hx : (F_X8_bannerAt g0 σ) with v | E
  · have hw : W_bannerAt g0 σ = (0, (q_up σ 237 0 v)) := by unfold W_bannerAt; rw [hx]
    rw [hw]
    rw [hx] at hk
    refine q_enterW (own := RL) (F := fun _ => none) (G := fun _ => none) (by decide +kernel) rfl Fok_L Gok_L (Nat.le_of_ble_eq_true rfl) (fun p l e s m args below meth c A hfl C hr hT => ?_)
    refine q_go C tk_L_bannerAt [(0, 4)] [] (pc1 := 4) (σ1 := σ) (lv1 := [(0, .ref 220), (1, .int g0), (2, .ref 237)]) (st1 := [.int g0, .ref 220, .int 0, .ref 237]) rfl trivial ?_
    refine q_callV (v := some (.int v)) C hfl mw_X8_bannerAt mi_X8_bannerAt me_X8_bannerAt lk_L_128 hk (rest := [.int 0, .ref 237]) rfl rfl rfl (by decide) (by decide) rfl (q_dc (z := (4, .invokevirtual 128, 3, 0, 0)) tk_L_bannerAt 4 rfl) (Nat.le_of_ble_eq_true rfl) ⟨(Nat.le_of_ble_eq_true rfl), (Nat.le_of_ble_eq_true rfl)⟩ ⟨(Nat.le_of_ble_eq_true rfl), (Nat.le_of_ble_eq_true rfl)⟩ ?_
    refine q_nrm 7 [.int v, .int 0, .ref 237] 1 6 rfl rfl rfl rfl ?_
    refine q_go C tk_L_bannerAt [(5, 1)] [] (pc1 := 8) (σ1 := σ) (lv1 := [(0, .ref 220), (1, .int g0), (2, .ref 237)]) (st1 := [.long v.toInt64, .int 0, .ref 237]) rfl trivial ?_
    refine q_last C (q_dc (z := (8, .lastore, 1, 0, 0)) tk_L_bannerAt 6 rfl) ?_
    refine q_go C tk_L_bannerAt [(7, 1), (11, 1)] [] (pc1 := 16) (σ1 := (q_up σ 237 0 v)) (lv1 := [(0, .ref 220), (1, .int g0), (2, .ref 237)]) (st1 := [.int 0]) rfl trivial ?_
    exact q_iret C hr (q_dc (z := (16, .ireturn, 1, 0, 0)) tk_L_bannerAt 12 rfl) rfl rfl (Nat.le_of_ble_eq_true rfl) (Nat.le_of_ble_eq_true rfl)
  · have hw : W_bannerAt g0 σ = (q_code nx_bannerAt E, σ) := by unfold W_bannerAt; rw [hx]
    have hE9 := hE E (by rw [hx])
    rw [hw]
    rw [hx] at hk
    by_cases e0 : E = "java/lang/IndexOutOfBoundsException"
    · subst e0
      have hq : q_code nx_bannerAt "java/lang/IndexOutOfBoundsException" = 1 := by decide +kernel
      rw [hq]
      refine q_enterW (own := RL) (F := fun _ => none) (G := fun _ => none) (by decide +kernel) rfl Fok_L Gok_L (Nat.le_of_ble_eq_true rfl) (fun p l e s m args below meth c A hfl C hr hT => ?_)
      refine q_go C tk_L_bannerAt [(0, 4)] [] (pc1 := 4) (σ1 := σ) (lv1 := [(0, .ref 220), (1, .int g0), (2, .ref 237)]) (st1 := [.int g0, .ref 220, .int 0, .ref 237]) rfl trivial ?_
      refine q_callVx C hfl mw_X8_bannerAt mi_X8_bannerAt me_X8_bannerAt lk_L_128 hk (rest := [.int 0, .ref 237]) rfl rfl rfl (by decide) (by decide) rfl (q_dc (z := (4, .invokevirtual 128, 3, 0, 0)) tk_L_bannerAt 4 rfl) (Nat.le_of_ble_eq_true rfl) ⟨(Nat.le_of_ble_eq_true rfl), (Nat.le_of_ble_eq_true rfl)⟩ ⟨(Nat.le_of_ble_eq_true rfl), (Nat.le_of_ble_eq_true rfl)⟩ ?_
      refine q_catch C [] ⟨0, 9, 12, 19⟩ [] (hT.trans rfl) (by decide +kernel) (fun z hz => by cases hz) (by decide) (by decide) cl_L_19 (by decide +kernel) (i := 3) (len := 1) (q_dc (z := (12, .astore_n 3, 1, 0, 0)) tk_L_bannerAt 8 rfl) (Or.inl ⟨3, rfl, rfl, rfl⟩) (by decide) ?_
      refine q_go C tk_L_bannerAt [(9, 1)] [] (pc1 := 14) (σ1 := σ) (lv1 := [(0, .ref 220), (1, .int g0), (2, .ref 237)]) (st1 := [.int 1]) rfl trivial ?_
      exact q_iret C hr (q_dc (z := (14, .ireturn, 1, 0, 0)) tk_L_bannerAt 10 rfl) rfl rfl (Nat.le_of_ble_eq_true rfl) (Nat.le_of_ble_eq_true rfl)
    simp only [nx_bannerAt, List.mem_cons, List.not_mem_nil, or_false] at hE9
    exact absurd hE9 e0
abbrev nx_type : List String := ["java/lang/IllegalArgumentException", "java/lang/IllegalStateException"]
def W_type (g0 : Int32) (σ : q_M) : Int32 × q_M := match (F_X8_type g0 σ) with | (.inl v, τ) => (0, (q_up τ 237 0 v)) | (.inr E, τ) => (q_code nx_type E, τ)
def tb_L_type : List q_E := [(0, .aload_n 2, 1, 0, 0), (1, .iconst 0, 1, 0, 0), (2, .aload_n 0, 1, 0, 0), (3, .iload_n 1, 1, 0, 0), (4, .invokevirtual 132, 3, 0, 0), (7, .i2l, 1, 0, 0), (8, .lastore, 1, 0, 0), (9, .goto 9, 3, 0, 18), (12, .astore_n 3, 1, 0, 0), (13, .iconst 1, 1, 1, 0), (14, .ireturn, 1, 0, 0), (15, .astore_n 3, 1, 0, 0), (16, .iconst 2, 1, 2, 0), (17, .ireturn, 1, 0, 0), (18, .iconst 0, 1, 0, 0), (19, .ireturn, 1, 0, 0)]
theorem tk_L_type : q_tb cL_type 4 tb_L_type = true := by decide +kernel
abbrev hh_L_type : List (Nat × Nat × Nat × Nat) := [(0, 9, 12, 21), (0, 9, 15, 13)]
set_option maxRecDepth 100000 in
theorem kw_type {α β : Nat → Nat} {D : va_G} {κ : Nat → ClassId} (g0 : Int32) (σ : q_M) (hP : P_X8_type g0 σ) (hE : ∀ E, (F_X8_type g0 σ).1 = .inr E → E ∈ nx_type) : q_CW α β D κ yL_type cL_type 4 (some .int) hh_L_type 7 182 1 204 [.ref 220, .int g0, .ref 237] σ (some (.int (W_type g0 σ).1)) (W_type g0 σ).2 := by
  have hk := k_X8_type (α := α) (β := β) (D := D) (κ := κ) g0 σ hP
  rcases hx : (F_X8_type g0 σ) with ⟨v | E, τ⟩
  · have hw : W_type g0 σ = (0, (q_up τ 237 0 v)) := by unfold W_type; rw [hx]
    rw [hw]
    rw [hx] at hk
    refine q_enterW (own := RL) (F := fun _ => none) (G := fun _ => none) (by decide +kernel) rfl Fok_L Gok_L (Nat.le_of_ble_eq_true rfl) (fun p l e s m args below meth c A hfl C hr hT => ?_)
    refine q_go C tk_L_type [(0, 4)] [] (pc1 := 4) (σ1 := σ) (lv1 := [(0, .ref 220), (1, .int g0), (2, .ref 237)]) (st1 := [.int g0, .ref 220, .int 0, .ref 237]) rfl trivial ?_
    refine q_callV (v := some (.int v)) C hfl mw_X8_type mi_X8_type me_X8_type lk_L_132 hk (rest := [.int 0, .ref 237]) rfl rfl rfl (by decide) (by decide) rfl (q_dc (z := (4, .invokevirtual 132, 3, 0, 0)) tk_L_type 4 rfl) (Nat.le_of_ble_eq_true rfl) ⟨(Nat.le_of_ble_eq_true rfl), (Nat.le_of_ble_eq_true rfl)⟩ ⟨(Nat.le_of_ble_eq_true rfl), (Nat.le_of_ble_eq_true rfl)⟩ ?_
    refine q_nrm 7 [.int v, .int 0, .ref 237] 1 204 rfl rfl rfl rfl ?_
    refine q_go C tk_L_type [(5, 1)] [] (pc1 := 8) (σ1 := τ) (lv1 := [(0, .ref 220), (1, .int g0), (2, .ref 237)]) (st1 := [.long v.toInt64, .int 0, .ref 237]) rfl trivial ?_
    refine q_last C (q_dc (z := (8, .lastore, 1, 0, 0)) tk_L_type 6 rfl) ?_
    refine q_go C tk_L_type [(7, 1), (14, 1)] [] (pc1 := 19) (σ1 := (q_up τ 237 0 v)) (lv1 := [(0, .ref 220), (1, .int g0), (2, .ref 237)]) (st1 := [.int 0]) rfl trivial ?_
    exact q_iret C hr (q_dc (z := (19, .ireturn, 1, 0, 0)) tk_L_type 15 rfl) rfl rfl (Nat.le_of_ble_eq_true rfl) (Nat.le_of_ble_eq_true rfl)
  · have hw : W_type g0 σ = (q_code nx_type E, τ) := by unfold W_type; rw [hx]
    have hE9 := hE E (by rw [hx])
    rw [hw]
    rw [hx] at hk
    by_cases e0 : E = "java/lang/IllegalArgumentException"
    · subst e0
      have hq : q_code nx_type "java/lang/IllegalArgumentException" = 1 := by decide +kernel
      rw [hq]
      refine q_enterW (own := RL) (F := fun _ => none) (G := fun _ => none) (by decide +kernel) rfl Fok_L Gok_L (Nat.le_of_ble_eq_true rfl) (fun p l e s m args below meth c A hfl C hr hT => ?_)
      refine q_go C tk_L_type [(0, 4)] [] (pc1 := 4) (σ1 := σ) (lv1 := [(0, .ref 220), (1, .int g0), (2, .ref 237)]) (st1 := [.int g0, .ref 220, .int 0, .ref 237]) rfl trivial ?_
      refine q_callVx C hfl mw_X8_type mi_X8_type me_X8_type lk_L_132 hk (rest := [.int 0, .ref 237]) rfl rfl rfl (by decide) (by decide) rfl (q_dc (z := (4, .invokevirtual 132, 3, 0, 0)) tk_L_type 4 rfl) (Nat.le_of_ble_eq_true rfl) ⟨(Nat.le_of_ble_eq_true rfl), (Nat.le_of_ble_eq_true rfl)⟩ ⟨(Nat.le_of_ble_eq_true rfl), (Nat.le_of_ble_eq_true rfl)⟩ ?_
      refine q_catch C [] ⟨0, 9, 12, 21⟩ [⟨0, 9, 15, 13⟩] (hT.trans rfl) (by decide +kernel) (fun z hz => by cases hz) (by decide) (by decide) cl_L_21 (by decide +kernel) (i := 3) (len := 1) (q_dc (z := (12, .astore_n 3, 1, 0, 0)) tk_L_type 8 rfl) (Or.inl ⟨3, rfl, rfl, rfl⟩) (by decide) ?_
      refine q_go C tk_L_type [(9, 1)] [] (pc1 := 14) (σ1 := τ) (lv1 := [(0, .ref 220), (1, .int g0), (2, .ref 237)]) (st1 := [.int 1]) rfl trivial ?_
      exact q_iret C hr (q_dc (z := (14, .ireturn, 1, 0, 0)) tk_L_type 10 rfl) rfl rfl (Nat.le_of_ble_eq_true rfl) (Nat.le_of_ble_eq_true rfl)
    by_cases e1 : E = "java/lang/IllegalStateException"
    · subst e1
      have hq : q_code nx_type "java/lang/IllegalStateException" = 2 := by decide +kernel
      rw [hq]
      refine q_enterW (own := RL) (F := fun _ => none) (G := fun _ => none) (by decide +kernel) rfl Fok_L Gok_L (Nat.le_of_ble_eq_true rfl) (fun p l e s m args below meth c A hfl C hr hT => ?_)
      refine q_go C tk_L_type [(0, 4)] [] (pc1 := 4) (σ1 := σ) (lv1 := [(0, .ref 220), (1, .int g0), (2, .ref 237)]) (st1 := [.int g0, .ref 220, .int 0, .ref 237]) rfl trivial ?_
      refine q_callVx C hfl mw_X8_type mi_X8_type me_X8_type lk_L_132 hk (rest := [.int 0, .ref 237]) rfl rfl rfl (by decide) (by decide) rfl (q_dc (z := (4, .invokevirtual 132, 3, 0, 0)) tk_L_type 4 rfl) (Nat.le_of_ble_eq_true rfl) ⟨(Nat.le_of_ble_eq_true rfl), (Nat.le_of_ble_eq_true rfl)⟩ ⟨(Nat.le_of_ble_eq_true rfl), (Nat.le_of_ble_eq_true rfl)⟩ ?_
      refine q_catch C [⟨0, 9, 12, 21⟩] ⟨0, 9, 15, 13⟩ [] (hT.trans rfl) (by decide +kernel) (fun z hz => by simp only [List.mem_cons, List.not_mem_nil, or_false] at hz; rcases hz with rfl <;> first | exact ⟨by decide, _, (by decide +kernel : "java/lang/IllegalArgumentException" ∈ q_XS), (by decide +kernel), cl_L_21⟩) (by decide) (by decide) cl_L_13 (by decide +kernel) (i := 3) (len := 1) (q_dc (z := (15, .astore_n 3, 1, 0, 0)) tk_L_type 11 rfl) (Or.inl ⟨3, rfl, rfl, rfl⟩) (by decide) ?_
      refine q_go C tk_L_type [(12, 1)] [] (pc1 := 17) (σ1 := τ) (lv1 := [(0, .ref 220), (1, .int g0), (2, .ref 237)]) (st1 := [.int 2]) rfl trivial ?_
      exact q_iret C hr (q_dc (z := (17, .ireturn, 1, 0, 0)) tk_L_type 13 rfl) rfl rfl (Nat.le_of_ble_eq_true rfl) (Nat.le_of_ble_eq_true rfl)
    simp only [nx_type, List.mem_cons, List.not_mem_nil, or_false] at hE9
    rcases hE9 with h | h
    · exact absurd h e0
    · exact absurd h e1
abbrev nx_execute : List String := ["java/lang/IllegalArgumentException", "java/lang/IllegalStateException"]
def W_execute (σ : q_M) : Int32 × q_M := match (F_X8_execute σ) with | (.inl v, τ) => (0, (q_up τ 237 0 v)) | (.inr E, τ) => (q_code nx_execute E, τ)
def tb_L_execute : List q_E := [(0, .aload_n 1, 1, 0, 0), (1, .iconst 0, 1, 0, 0), (2, .aload_n 0, 1, 0, 0), (3, .invokevirtual 136, 3, 0, 0), (6, .i2l, 1, 0, 0), (7, .lastore, 1, 0, 0), (8, .goto 9, 3, 0, 17), (11, .astore_n 2, 1, 0, 0), (12, .iconst 1, 1, 1, 0), (13, .ireturn, 1, 0, 0), (14, .astore_n 2, 1, 0, 0), (15, .iconst 2, 1, 2, 0), (16, .ireturn, 1, 0, 0), (17, .iconst 0, 1, 0, 0), (18, .ireturn, 1, 0, 0)]
theorem tk_L_execute : q_tb cL_execute 3 tb_L_execute = true := by decide +kernel
abbrev hh_L_execute : List (Nat × Nat × Nat × Nat) := [(0, 8, 11, 21), (0, 8, 14, 13)]
set_option maxRecDepth 100000 in
theorem kw_execute {α β : Nat → Nat} {D : va_G} {κ : Nat → ClassId} (σ : q_M) (hP : P_X8_execute σ) (hE : ∀ E, (F_X8_execute σ).1 = .inr E → E ∈ nx_execute) : q_CW α β D κ yL_execute cL_execute 3 (some .int) hh_L_execute 11 254 1 6 [.ref 220, .ref 237] σ (some (.int (W_execute σ).1)) (W_execute σ).2 := by
  have hk := k_X8_execute (α := α) (β := β) (D := D) (κ := κ) σ hP
  rcases hx : (F_X8_execute σ) with ⟨v | E, τ⟩
  · have hw : W_execute σ = (0, (q_up τ 237 0 v)) := by unfold W_execute; rw [hx]
    rw [hw]
    rw [hx] at hk
    refine q_enterW (own := RL) (F := fun _ => none) (G := fun _ => none) (by decide +kernel) rfl Fok_L Gok_L (Nat.le_of_ble_eq_true rfl) (fun p l e s m args below meth c A hfl C hr hT => ?_)
    refine q_go C tk_L_execute [(0, 3)] [] (pc1 := 3) (σ1 := σ) (lv1 := [(0, .ref 220), (1, .ref 237)]) (st1 := [.ref 220, .int 0, .ref 237]) rfl trivial ?_
    refine q_callV (v := some (.int v)) C hfl mw_X8_execute mi_X8_execute me_X8_execute lk_L_136 hk (rest := [.int 0, .ref 237]) rfl rfl rfl (by decide) (by decide) rfl (q_dc (z := (3, .invokevirtual 136, 3, 0, 0)) tk_L_execute 3 rfl) (Nat.le_of_ble_eq_true rfl) ⟨(Nat.le_of_ble_eq_true rfl), (Nat.le_of_ble_eq_true rfl)⟩ ⟨(Nat.le_of_ble_eq_true rfl), (Nat.le_of_ble_eq_true rfl)⟩ ?_
    refine q_nrm 6 [.int v, .int 0, .ref 237] 1 6 rfl rfl rfl rfl ?_
    refine q_go C tk_L_execute [(4, 1)] [] (pc1 := 7) (σ1 := τ) (lv1 := [(0, .ref 220), (1, .ref 237)]) (st1 := [.long v.toInt64, .int 0, .ref 237]) rfl trivial ?_
    refine q_last C (q_dc (z := (7, .lastore, 1, 0, 0)) tk_L_execute 5 rfl) ?_
    refine q_go C tk_L_execute [(6, 1), (13, 1)] [] (pc1 := 18) (σ1 := (q_up τ 237 0 v)) (lv1 := [(0, .ref 220), (1, .ref 237)]) (st1 := [.int 0]) rfl trivial ?_
    exact q_iret C hr (q_dc (z := (18, .ireturn, 1, 0, 0)) tk_L_execute 14 rfl) rfl rfl (Nat.le_of_ble_eq_true rfl) (Nat.le_of_ble_eq_true rfl)
  · have hw : W_execute σ = (q_code nx_execute E, τ) := by unfold W_execute; rw [hx]
    have hE9 := hE E (by rw [hx])
    rw [hw]
    rw [hx] at hk
    by_cases e0 : E = "java/lang/IllegalArgumentException"
    · subst e0
      have hq : q_code nx_execute "java/lang/IllegalArgumentException" = 1 := by decide +kernel
      rw [hq]
      refine q_enterW (own := RL) (F := fun _ => none) (G := fun _ => none) (by decide +kernel) rfl Fok_L Gok_L (Nat.le_of_ble_eq_true rfl) (fun p l e s m args below meth c A hfl C hr hT => ?_)
      refine q_go C tk_L_execute [(0, 3)] [] (pc1 := 3) (σ1 := σ) (lv1 := [(0, .ref 220), (1, .ref 237)]) (st1 := [.ref 220, .int 0, .ref 237]) rfl trivial ?_
      refine q_callVx C hfl mw_X8_execute mi_X8_execute me_X8_execute lk_L_136 hk (rest := [.int 0, .ref 237]) rfl rfl rfl (by decide) (by decide) rfl (q_dc (z := (3, .invokevirtual 136, 3, 0, 0)) tk_L_execute 3 rfl) (Nat.le_of_ble_eq_true rfl) ⟨(Nat.le_of_ble_eq_true rfl), (Nat.le_of_ble_eq_true rfl)⟩ ⟨(Nat.le_of_ble_eq_true rfl), (Nat.le_of_ble_eq_true rfl)⟩ ?_
      refine q_catch C [] ⟨0, 8, 11, 21⟩ [⟨0, 8, 14, 13⟩] (hT.trans rfl) (by decide +kernel) (fun z hz => by cases hz) (by decide) (by decide) cl_L_21 (by decide +kernel) (i := 2) (len := 1) (q_dc (z := (11, .astore_n 2, 1, 0, 0)) tk_L_execute 7 rfl) (Or.inl ⟨2, rfl, rfl, rfl⟩) (by decide) ?_
      refine q_go C tk_L_execute [(8, 1)] [] (pc1 := 13) (σ1 := τ) (lv1 := [(0, .ref 220), (1, .ref 237)]) (st1 := [.int 1]) rfl trivial ?_
      exact q_iret C hr (q_dc (z := (13, .ireturn, 1, 0, 0)) tk_L_execute 9 rfl) rfl rfl (Nat.le_of_ble_eq_true rfl) (Nat.le_of_ble_eq_true rfl)
    by_cases e1 : E = "java/lang/IllegalStateException"
    · subst e1
      have hq : q_code nx_execute "java/lang/IllegalStateException" = 2 := by decide +kernel
      rw [hq]
      refine q_enterW (own := RL) (F := fun _ => none) (G := fun _ => none) (by decide +kernel) rfl Fok_L Gok_L (Nat.le_of_ble_eq_true rfl) (fun p l e s m args below meth c A hfl C hr hT => ?_)
      refine q_go C tk_L_execute [(0, 3)] [] (pc1 := 3) (σ1 := σ) (lv1 := [(0, .ref 220), (1, .ref 237)]) (st1 := [.ref 220, .int 0, .ref 237]) rfl trivial ?_
      refine q_callVx C hfl mw_X8_execute mi_X8_execute me_X8_execute lk_L_136 hk (rest := [.int 0, .ref 237]) rfl rfl rfl (by decide) (by decide) rfl (q_dc (z := (3, .invokevirtual 136, 3, 0, 0)) tk_L_execute 3 rfl) (Nat.le_of_ble_eq_true rfl) ⟨(Nat.le_of_ble_eq_true rfl), (Nat.le_of_ble_eq_true rfl)⟩ ⟨(Nat.le_of_ble_eq_true rfl), (Nat.le_of_ble_eq_true rfl)⟩ ?_
      refine q_catch C [⟨0, 8, 11, 21⟩] ⟨0, 8, 14, 13⟩ [] (hT.trans rfl) (by decide +kernel) (fun z hz => by simp only [List.mem_cons, List.not_mem_nil, or_false] at hz; rcases hz with rfl <;> first | exact ⟨by decide, _, (by decide +kernel : "java/lang/IllegalArgumentException" ∈ q_XS), (by decide +kernel), cl_L_21⟩) (by decide) (by decide) cl_L_13 (by decide +kernel) (i := 2) (len := 1) (q_dc (z := (14, .astore_n 2, 1, 0, 0)) tk_L_execute 10 rfl) (Or.inl ⟨2, rfl, rfl, rfl⟩) (by decide) ?_
      refine q_go C tk_L_execute [(11, 1)] [] (pc1 := 16) (σ1 := τ) (lv1 := [(0, .ref 220), (1, .ref 237)]) (st1 := [.int 2]) rfl trivial ?_
      exact q_iret C hr (q_dc (z := (16, .ireturn, 1, 0, 0)) tk_L_execute 12 rfl) rfl rfl (Nat.le_of_ble_eq_true rfl) (Nat.le_of_ble_eq_true rfl)
    simp only [nx_execute, List.mem_cons, List.not_mem_nil, or_false] at hE9
    rcases hE9 with h | h
    · exact absurd h e0
    · exact absurd h e1
abbrev nx_errorPosition : List String := ["java/util/NoSuchElementException"]
def W_errorPosition (σ : q_M) : Int32 × q_M := match (F_X8_errorPosition σ) with | .inl v => (0, (q_up σ 237 0 v)) | .inr E => (q_code nx_errorPosition E, σ)
def tb_L_errorPosition : List q_E := [(0, .aload_n 1, 1, 0, 0), (1, .iconst 0, 1, 0, 0), (2, .aload_n 0, 1, 0, 0), (3, .invokevirtual 139, 3, 0, 0), (6, .i2l, 1, 0, 0), (7, .lastore, 1, 0, 0), (8, .goto 6, 3, 0, 14), (11, .astore_n 2, 1, 0, 0), (12, .iconst 1, 1, 1, 0), (13, .ireturn, 1, 0, 0), (14, .iconst 0, 1, 0, 0), (15, .ireturn, 1, 0, 0)]
theorem tk_L_errorPosition : q_tb cL_errorPosition 3 tb_L_errorPosition = true := by decide +kernel
abbrev hh_L_errorPosition : List (Nat × Nat × Nat × Nat) := [(0, 8, 11, 58)]
set_option maxRecDepth 100000 in
theorem kw_errorPosition {α β : Nat → Nat} {D : va_G} {κ : Nat → ClassId} (σ : q_M) (hE : ∀ E, (F_X8_errorPosition σ) = .inr E → E ∈ nx_errorPosition) : q_CW α β D κ yL_errorPosition cL_errorPosition 3 (some .int) hh_L_errorPosition 7 110 1 6 [.ref 220, .ref 237] σ (some (.int (W_errorPosition σ).1)) (W_errorPosition σ).2 := by
  have hk := k_X8_errorPosition (α := α) (β := β) (D := D) (κ := κ) σ
  rcases hx : (F_X8_errorPosition σ) with v | E
  · have hw : W_errorPosition σ = (0, (q_up σ 237 0 v)) := by unfold W_errorPosition; rw [hx]
    rw [hw]
    rw [hx] at hk
    refine q_enterW (own := RL) (F := fun _ => none) (G := fun _ => none) (by decide +kernel) rfl Fok_L Gok_L (Nat.le_of_ble_eq_true rfl) (fun p l e s m args below meth c A hfl C hr hT => ?_)
    refine q_go C tk_L_errorPosition [(0, 3)] [] (pc1 := 3) (σ1 := σ) (lv1 := [(0, .ref 220), (1, .ref 237)]) (st1 := [.ref 220, .int 0, .ref 237]) rfl trivial ?_
    refine q_callV (v := some (.int v)) C hfl mw_X8_errorPosition mi_X8_errorPosition me_X8_errorPosition lk_L_139 hk (rest := [.int 0, .ref 237]) rfl rfl rfl (by decide) (by decide) rfl (q_dc (z := (3, .invokevirtual 139, 3, 0, 0)) tk_L_errorPosition 3 rfl) (Nat.le_of_ble_eq_true rfl) ⟨(Nat.le_of_ble_eq_true rfl), (Nat.le_of_ble_eq_true rfl)⟩ ⟨(Nat.le_of_ble_eq_true rfl), (Nat.le_of_ble_eq_true rfl)⟩ ?_
    refine q_nrm 6 [.int v, .int 0, .ref 237] 1 6 rfl rfl rfl rfl ?_
    refine q_go C tk_L_errorPosition [(4, 1)] [] (pc1 := 7) (σ1 := σ) (lv1 := [(0, .ref 220), (1, .ref 237)]) (st1 := [.long v.toInt64, .int 0, .ref 237]) rfl trivial ?_
    refine q_last C (q_dc (z := (7, .lastore, 1, 0, 0)) tk_L_errorPosition 5 rfl) ?_
    refine q_go C tk_L_errorPosition [(6, 1), (10, 1)] [] (pc1 := 15) (σ1 := (q_up σ 237 0 v)) (lv1 := [(0, .ref 220), (1, .ref 237)]) (st1 := [.int 0]) rfl trivial ?_
    exact q_iret C hr (q_dc (z := (15, .ireturn, 1, 0, 0)) tk_L_errorPosition 11 rfl) rfl rfl (Nat.le_of_ble_eq_true rfl) (Nat.le_of_ble_eq_true rfl)
  · have hw : W_errorPosition σ = (q_code nx_errorPosition E, σ) := by unfold W_errorPosition; rw [hx]
    have hE9 := hE E (by rw [hx])
    rw [hw]
    rw [hx] at hk
    by_cases e0 : E = "java/util/NoSuchElementException"
    · subst e0
      have hq : q_code nx_errorPosition "java/util/NoSuchElementException" = 1 := by decide +kernel
      rw [hq]
      refine q_enterW (own := RL) (F := fun _ => none) (G := fun _ => none) (by decide +kernel) rfl Fok_L Gok_L (Nat.le_of_ble_eq_true rfl) (fun p l e s m args below meth c A hfl C hr hT => ?_)
      refine q_go C tk_L_errorPosition [(0, 3)] [] (pc1 := 3) (σ1 := σ) (lv1 := [(0, .ref 220), (1, .ref 237)]) (st1 := [.ref 220, .int 0, .ref 237]) rfl trivial ?_
      refine q_callVx C hfl mw_X8_errorPosition mi_X8_errorPosition me_X8_errorPosition lk_L_139 hk (rest := [.int 0, .ref 237]) rfl rfl rfl (by decide) (by decide) rfl (q_dc (z := (3, .invokevirtual 139, 3, 0, 0)) tk_L_errorPosition 3 rfl) (Nat.le_of_ble_eq_true rfl) ⟨(Nat.le_of_ble_eq_true rfl), (Nat.le_of_ble_eq_true rfl)⟩ ⟨(Nat.le_of_ble_eq_true rfl), (Nat.le_of_ble_eq_true rfl)⟩ ?_
      refine q_catch C [] ⟨0, 8, 11, 58⟩ [] (hT.trans rfl) (by decide +kernel) (fun z hz => by cases hz) (by decide) (by decide) cl_L_58 (by decide +kernel) (i := 2) (len := 1) (q_dc (z := (11, .astore_n 2, 1, 0, 0)) tk_L_errorPosition 7 rfl) (Or.inl ⟨2, rfl, rfl, rfl⟩) (by decide) ?_
      refine q_go C tk_L_errorPosition [(8, 1)] [] (pc1 := 13) (σ1 := σ) (lv1 := [(0, .ref 220), (1, .ref 237)]) (st1 := [.int 1]) rfl trivial ?_
      exact q_iret C hr (q_dc (z := (13, .ireturn, 1, 0, 0)) tk_L_errorPosition 9 rfl) rfl rfl (Nat.le_of_ble_eq_true rfl) (Nat.le_of_ble_eq_true rfl)
    simp only [nx_errorPosition, List.mem_cons, List.not_mem_nil, or_false] at hE9
    exact absurd hE9 e0
abbrev nx_failedCommand : List String := ["java/util/NoSuchElementException"]
def W_failedCommand (σ : q_M) : Int32 × q_M := match (F_X8_failedCommand σ) with | .inl v => (0, (q_up σ 237 0 v)) | .inr E => (q_code nx_failedCommand E, σ)
def tb_L_failedCommand : List q_E := [(0, .aload_n 1, 1, 0, 0), (1, .iconst 0, 1, 0, 0), (2, .aload_n 0, 1, 0, 0), (3, .invokevirtual 142, 3, 0, 0), (6, .i2l, 1, 0, 0), (7, .lastore, 1, 0, 0), (8, .goto 6, 3, 0, 14), (11, .astore_n 2, 1, 0, 0), (12, .iconst 1, 1, 1, 0), (13, .ireturn, 1, 0, 0), (14, .iconst 0, 1, 0, 0), (15, .ireturn, 1, 0, 0)]
theorem tk_L_failedCommand : q_tb cL_failedCommand 3 tb_L_failedCommand = true := by decide +kernel
abbrev hh_L_failedCommand : List (Nat × Nat × Nat × Nat) := [(0, 8, 11, 58)]
set_option maxRecDepth 100000 in
theorem kw_failedCommand {α β : Nat → Nat} {D : va_G} {κ : Nat → ClassId} (σ : q_M) (hE : ∀ E, (F_X8_failedCommand σ) = .inr E → E ∈ nx_failedCommand) : q_CW α β D κ yL_failedCommand cL_failedCommand 3 (some .int) hh_L_failedCommand 7 110 1 6 [.ref 220, .ref 237] σ (some (.int (W_failedCommand σ).1)) (W_failedCommand σ).2 := by
  have hk := k_X8_failedCommand (α := α) (β := β) (D := D) (κ := κ) σ
  rcases hx : (F_X8_failedCommand σ) with v | E
  · have hw : W_failedCommand σ = (0, (q_up σ 237 0 v)) := by unfold W_failedCommand; rw [hx]
    rw [hw]
    rw [hx] at hk
    refine q_enterW (own := RL) (F := fun _ => none) (G := fun _ => none) (by decide +kernel) rfl Fok_L Gok_L (Nat.le_of_ble_eq_true rfl) (fun p l e s m args below meth c A hfl C hr hT => ?_)
    refine q_go C tk_L_failedCommand [(0, 3)] [] (pc1 := 3) (σ1 := σ) (lv1 := [(0, .ref 220), (1, .ref 237)]) (st1 := [.ref 220, .int 0, .ref 237]) rfl trivial ?_
    refine q_callV (v := some (.int v)) C hfl mw_X8_failedCommand mi_X8_failedCommand me_X8_failedCommand lk_L_142 hk (rest := [.int 0, .ref 237]) rfl rfl rfl (by decide) (by decide) rfl (q_dc (z := (3, .invokevirtual 142, 3, 0, 0)) tk_L_failedCommand 3 rfl) (Nat.le_of_ble_eq_true rfl) ⟨(Nat.le_of_ble_eq_true rfl), (Nat.le_of_ble_eq_true rfl)⟩ ⟨(Nat.le_of_ble_eq_true rfl), (Nat.le_of_ble_eq_true rfl)⟩ ?_
    refine q_nrm 6 [.int v, .int 0, .ref 237] 1 6 rfl rfl rfl rfl ?_
    refine q_go C tk_L_failedCommand [(4, 1)] [] (pc1 := 7) (σ1 := σ) (lv1 := [(0, .ref 220), (1, .ref 237)]) (st1 := [.long v.toInt64, .int 0, .ref 237]) rfl trivial ?_
    refine q_last C (q_dc (z := (7, .lastore, 1, 0, 0)) tk_L_failedCommand 5 rfl) ?_
    refine q_go C tk_L_failedCommand [(6, 1), (10, 1)] [] (pc1 := 15) (σ1 := (q_up σ 237 0 v)) (lv1 := [(0, .ref 220), (1, .ref 237)]) (st1 := [.int 0]) rfl trivial ?_
    exact q_iret C hr (q_dc (z := (15, .ireturn, 1, 0, 0)) tk_L_failedCommand 11 rfl) rfl rfl (Nat.le_of_ble_eq_true rfl) (Nat.le_of_ble_eq_true rfl)
  · have hw : W_failedCommand σ = (q_code nx_failedCommand E, σ) := by unfold W_failedCommand; rw [hx]
    have hE9 := hE E (by rw [hx])
    rw [hw]
    rw [hx] at hk
    by_cases e0 : E = "java/util/NoSuchElementException"
    · subst e0
      have hq : q_code nx_failedCommand "java/util/NoSuchElementException" = 1 := by decide +kernel
      rw [hq]
      refine q_enterW (own := RL) (F := fun _ => none) (G := fun _ => none) (by decide +kernel) rfl Fok_L Gok_L (Nat.le_of_ble_eq_true rfl) (fun p l e s m args below meth c A hfl C hr hT => ?_)
      refine q_go C tk_L_failedCommand [(0, 3)] [] (pc1 := 3) (σ1 := σ) (lv1 := [(0, .ref 220), (1, .ref 237)]) (st1 := [.ref 220, .int 0, .ref 237]) rfl trivial ?_
      refine q_callVx C hfl mw_X8_failedCommand mi_X8_failedCommand me_X8_failedCommand lk_L_142 hk (rest := [.int 0, .ref 237]) rfl rfl rfl (by decide) (by decide) rfl (q_dc (z := (3, .invokevirtual 142, 3, 0, 0)) tk_L_failedCommand 3 rfl) (Nat.le_of_ble_eq_true rfl) ⟨(Nat.le_of_ble_eq_true rfl), (Nat.le_of_ble_eq_true rfl)⟩ ⟨(Nat.le_of_ble_eq_true rfl), (Nat.le_of_ble_eq_true rfl)⟩ ?_
      refine q_catch C [] ⟨0, 8, 11, 58⟩ [] (hT.trans rfl) (by decide +kernel) (fun z hz => by cases hz) (by decide) (by decide) cl_L_58 (by decide +kernel) (i := 2) (len := 1) (q_dc (z := (11, .astore_n 2, 1, 0, 0)) tk_L_failedCommand 7 rfl) (Or.inl ⟨2, rfl, rfl, rfl⟩) (by decide) ?_
      refine q_go C tk_L_failedCommand [(8, 1)] [] (pc1 := 13) (σ1 := σ) (lv1 := [(0, .ref 220), (1, .ref 237)]) (st1 := [.int 1]) rfl trivial ?_
      exact q_iret C hr (q_dc (z := (13, .ireturn, 1, 0, 0)) tk_L_failedCommand 9 rfl) rfl rfl (Nat.le_of_ble_eq_true rfl) (Nat.le_of_ble_eq_true rfl)
    simp only [nx_failedCommand, List.mem_cons, List.not_mem_nil, or_false] at hE9
    exact absurd hE9 e0
abbrev nx_undo : List String := ["java/lang/IllegalStateException"]
def W_undo (σ : q_M) : Int32 × q_M := match (F_X8_undo σ) with | (.inl v, τ) => (0, (q_up τ 237 0 v)) | (.inr E, τ) => (q_code nx_undo E, τ)
def tb_L_undo : List q_E := [(0, .aload_n 1, 1, 0, 0), (1, .iconst 0, 1, 0, 0), (2, .aload_n 0, 1, 0, 0), (3, .invokevirtual 145, 3, 0, 0), (6, .i2l, 1, 0, 0), (7, .lastore, 1, 0, 0), (8, .goto 6, 3, 0, 14), (11, .astore_n 2, 1, 0, 0), (12, .iconst 1, 1, 1, 0), (13, .ireturn, 1, 0, 0), (14, .iconst 0, 1, 0, 0), (15, .ireturn, 1, 0, 0)]
theorem tk_L_undo : q_tb cL_undo 3 tb_L_undo = true := by decide +kernel
abbrev hh_L_undo : List (Nat × Nat × Nat × Nat) := [(0, 8, 11, 13)]
set_option maxRecDepth 100000 in
theorem kw_undo {α β : Nat → Nat} {D : va_G} {κ : Nat → ClassId} (σ : q_M) (hP : P_X8_undo σ) (hE : ∀ E, (F_X8_undo σ).1 = .inr E → E ∈ nx_undo) : q_CW α β D κ yL_undo cL_undo 3 (some .int) hh_L_undo 7 127 1 6 [.ref 220, .ref 237] σ (some (.int (W_undo σ).1)) (W_undo σ).2 := by
  have hk := k_X8_undo (α := α) (β := β) (D := D) (κ := κ) σ hP
  rcases hx : (F_X8_undo σ) with ⟨v | E, τ⟩
  · have hw : W_undo σ = (0, (q_up τ 237 0 v)) := by unfold W_undo; rw [hx]
    rw [hw]
    rw [hx] at hk
    refine q_enterW (own := RL) (F := fun _ => none) (G := fun _ => none) (by decide +kernel) rfl Fok_L Gok_L (Nat.le_of_ble_eq_true rfl) (fun p l e s m args below meth c A hfl C hr hT => ?_)
    refine q_go C tk_L_undo [(0, 3)] [] (pc1 := 3) (σ1 := σ) (lv1 := [(0, .ref 220), (1, .ref 237)]) (st1 := [.ref 220, .int 0, .ref 237]) rfl trivial ?_
    refine q_callV (v := some (.int v)) C hfl mw_X8_undo mi_X8_undo me_X8_undo lk_L_145 hk (rest := [.int 0, .ref 237]) rfl rfl rfl (by decide) (by decide) rfl (q_dc (z := (3, .invokevirtual 145, 3, 0, 0)) tk_L_undo 3 rfl) (Nat.le_of_ble_eq_true rfl) ⟨(Nat.le_of_ble_eq_true rfl), (Nat.le_of_ble_eq_true rfl)⟩ ⟨(Nat.le_of_ble_eq_true rfl), (Nat.le_of_ble_eq_true rfl)⟩ ?_
    refine q_nrm 6 [.int v, .int 0, .ref 237] 1 6 rfl rfl rfl rfl ?_
    refine q_go C tk_L_undo [(4, 1)] [] (pc1 := 7) (σ1 := τ) (lv1 := [(0, .ref 220), (1, .ref 237)]) (st1 := [.long v.toInt64, .int 0, .ref 237]) rfl trivial ?_
    refine q_last C (q_dc (z := (7, .lastore, 1, 0, 0)) tk_L_undo 5 rfl) ?_
    refine q_go C tk_L_undo [(6, 1), (10, 1)] [] (pc1 := 15) (σ1 := (q_up τ 237 0 v)) (lv1 := [(0, .ref 220), (1, .ref 237)]) (st1 := [.int 0]) rfl trivial ?_
    exact q_iret C hr (q_dc (z := (15, .ireturn, 1, 0, 0)) tk_L_undo 11 rfl) rfl rfl (Nat.le_of_ble_eq_true rfl) (Nat.le_of_ble_eq_true rfl)
  · have hw : W_undo σ = (q_code nx_undo E, τ) := by unfold W_undo; rw [hx]
    have hE9 := hE E (by rw [hx])
    rw [hw]
    rw [hx] at hk
    by_cases e0 : E = "java/lang/IllegalStateException"
    · subst e0
      have hq : q_code nx_undo "java/lang/IllegalStateException" = 1 := by decide +kernel
      rw [hq]
      refine q_enterW (own := RL) (F := fun _ => none) (G := fun _ => none) (by decide +kernel) rfl Fok_L Gok_L (Nat.le_of_ble_eq_true rfl) (fun p l e s m args below meth c A hfl C hr hT => ?_)
      refine q_go C tk_L_undo [(0, 3)] [] (pc1 := 3) (σ1 := σ) (lv1 := [(0, .ref 220), (1, .ref 237)]) (st1 := [.ref 220, .int 0, .ref 237]) rfl trivial ?_
      refine q_callVx C hfl mw_X8_undo mi_X8_undo me_X8_undo lk_L_145 hk (rest := [.int 0, .ref 237]) rfl rfl rfl (by decide) (by decide) rfl (q_dc (z := (3, .invokevirtual 145, 3, 0, 0)) tk_L_undo 3 rfl) (Nat.le_of_ble_eq_true rfl) ⟨(Nat.le_of_ble_eq_true rfl), (Nat.le_of_ble_eq_true rfl)⟩ ⟨(Nat.le_of_ble_eq_true rfl), (Nat.le_of_ble_eq_true rfl)⟩ ?_
      refine q_catch C [] ⟨0, 8, 11, 13⟩ [] (hT.trans rfl) (by decide +kernel) (fun z hz => by cases hz) (by decide) (by decide) cl_L_13 (by decide +kernel) (i := 2) (len := 1) (q_dc (z := (11, .astore_n 2, 1, 0, 0)) tk_L_undo 7 rfl) (Or.inl ⟨2, rfl, rfl, rfl⟩) (by decide) ?_
      refine q_go C tk_L_undo [(8, 1)] [] (pc1 := 13) (σ1 := τ) (lv1 := [(0, .ref 220), (1, .ref 237)]) (st1 := [.int 1]) rfl trivial ?_
      exact q_iret C hr (q_dc (z := (13, .ireturn, 1, 0, 0)) tk_L_undo 9 rfl) rfl rfl (Nat.le_of_ble_eq_true rfl) (Nat.le_of_ble_eq_true rfl)
    simp only [nx_undo, List.mem_cons, List.not_mem_nil, or_false] at hE9
    exact absurd hE9 e0
abbrev nx_restore : List String := ["java/lang/IllegalStateException"]
def W_restore (σ : q_M) : Int32 × q_M := match (F_X8_restore σ) with | (.inl v, τ) => (0, (q_up τ 237 0 v)) | (.inr E, τ) => (q_code nx_restore E, τ)
def tb_L_restore : List q_E := [(0, .aload_n 1, 1, 0, 0), (1, .iconst 0, 1, 0, 0), (2, .aload_n 0, 1, 0, 0), (3, .invokevirtual 148, 3, 0, 0), (6, .i2l, 1, 0, 0), (7, .lastore, 1, 0, 0), (8, .goto 6, 3, 0, 14), (11, .astore_n 2, 1, 0, 0), (12, .iconst 1, 1, 1, 0), (13, .ireturn, 1, 0, 0), (14, .iconst 0, 1, 0, 0), (15, .ireturn, 1, 0, 0)]
theorem tk_L_restore : q_tb cL_restore 3 tb_L_restore = true := by decide +kernel
abbrev hh_L_restore : List (Nat × Nat × Nat × Nat) := [(0, 8, 11, 13)]
set_option maxRecDepth 100000 in
theorem kw_restore {α β : Nat → Nat} {D : va_G} {κ : Nat → ClassId} (σ : q_M) (hP : P_X8_restore σ) (hE : ∀ E, (F_X8_restore σ).1 = .inr E → E ∈ nx_restore) : q_CW α β D κ yL_restore cL_restore 3 (some .int) hh_L_restore 7 110 1 6 [.ref 220, .ref 237] σ (some (.int (W_restore σ).1)) (W_restore σ).2 := by
  have hk := k_X8_restore (α := α) (β := β) (D := D) (κ := κ) σ hP
  rcases hx : (F_X8_restore σ) with ⟨v | E, τ⟩
  · have hw : W_restore σ = (0, (q_up τ 237 0 v)) := by unfold W_restore; rw [hx]
    rw [hw]
    rw [hx] at hk
    refine q_enterW (own := RL) (F := fun _ => none) (G := fun _ => none) (by decide +kernel) rfl Fok_L Gok_L (Nat.le_of_ble_eq_true rfl) (fun p l e s m args below meth c A hfl C hr hT => ?_)
    refine q_go C tk_L_restore [(0, 3)] [] (pc1 := 3) (σ1 := σ) (lv1 := [(0, .ref 220), (1, .ref 237)]) (st1 := [.ref 220, .int 0, .ref 237]) rfl trivial ?_
    refine q_callV (v := some (.int v)) C hfl mw_X8_restore mi_X8_restore me_X8_restore lk_L_148 hk (rest := [.int 0, .ref 237]) rfl rfl rfl (by decide) (by decide) rfl (q_dc (z := (3, .invokevirtual 148, 3, 0, 0)) tk_L_restore 3 rfl) (Nat.le_of_ble_eq_true rfl) ⟨(Nat.le_of_ble_eq_true rfl), (Nat.le_of_ble_eq_true rfl)⟩ ⟨(Nat.le_of_ble_eq_true rfl), (Nat.le_of_ble_eq_true rfl)⟩ ?_
    refine q_nrm 6 [.int v, .int 0, .ref 237] 1 6 rfl rfl rfl rfl ?_
    refine q_go C tk_L_restore [(4, 1)] [] (pc1 := 7) (σ1 := τ) (lv1 := [(0, .ref 220), (1, .ref 237)]) (st1 := [.long v.toInt64, .int 0, .ref 237]) rfl trivial ?_
    refine q_last C (q_dc (z := (7, .lastore, 1, 0, 0)) tk_L_restore 5 rfl) ?_
    refine q_go C tk_L_restore [(6, 1), (10, 1)] [] (pc1 := 15) (σ1 := (q_up τ 237 0 v)) (lv1 := [(0, .ref 220), (1, .ref 237)]) (st1 := [.int 0]) rfl trivial ?_
    exact q_iret C hr (q_dc (z := (15, .ireturn, 1, 0, 0)) tk_L_restore 11 rfl) rfl rfl (Nat.le_of_ble_eq_true rfl) (Nat.le_of_ble_eq_true rfl)
  · have hw : W_restore σ = (q_code nx_restore E, τ) := by unfold W_restore; rw [hx]
    have hE9 := hE E (by rw [hx])
    rw [hw]
    rw [hx] at hk
    by_cases e0 : E = "java/lang/IllegalStateException"
    · subst e0
      have hq : q_code nx_restore "java/lang/IllegalStateException" = 1 := by decide +kernel
      rw [hq]
      refine q_enterW (own := RL) (F := fun _ => none) (G := fun _ => none) (by decide +kernel) rfl Fok_L Gok_L (Nat.le_of_ble_eq_true rfl) (fun p l e s m args below meth c A hfl C hr hT => ?_)
      refine q_go C tk_L_restore [(0, 3)] [] (pc1 := 3) (σ1 := σ) (lv1 := [(0, .ref 220), (1, .ref 237)]) (st1 := [.ref 220, .int 0, .ref 237]) rfl trivial ?_
      refine q_callVx C hfl mw_X8_restore mi_X8_restore me_X8_restore lk_L_148 hk (rest := [.int 0, .ref 237]) rfl rfl rfl (by decide) (by decide) rfl (q_dc (z := (3, .invokevirtual 148, 3, 0, 0)) tk_L_restore 3 rfl) (Nat.le_of_ble_eq_true rfl) ⟨(Nat.le_of_ble_eq_true rfl), (Nat.le_of_ble_eq_true rfl)⟩ ⟨(Nat.le_of_ble_eq_true rfl), (Nat.le_of_ble_eq_true rfl)⟩ ?_
      refine q_catch C [] ⟨0, 8, 11, 13⟩ [] (hT.trans rfl) (by decide +kernel) (fun z hz => by cases hz) (by decide) (by decide) cl_L_13 (by decide +kernel) (i := 2) (len := 1) (q_dc (z := (11, .astore_n 2, 1, 0, 0)) tk_L_restore 7 rfl) (Or.inl ⟨2, rfl, rfl, rfl⟩) (by decide) ?_
      refine q_go C tk_L_restore [(8, 1)] [] (pc1 := 13) (σ1 := τ) (lv1 := [(0, .ref 220), (1, .ref 237)]) (st1 := [.int 1]) rfl trivial ?_
      exact q_iret C hr (q_dc (z := (13, .ireturn, 1, 0, 0)) tk_L_restore 9 rfl) rfl rfl (Nat.le_of_ble_eq_true rfl) (Nat.le_of_ble_eq_true rfl)
    simp only [nx_restore, List.mem_cons, List.not_mem_nil, or_false] at hE9
    exact absurd hE9 e0
