/-! The commands of the face. -/
theorem z_tw {n : Int32} {σ : q_M} (h : P_X8_team0 n σ) : F_X8_teamWith n σ = .inl (F_X8_team0 n σ) := by
  unfold F_X8_teamWith F_X8_team0
  unfold P_X8_team0 at h
  cases e : F_X4_find 0 n σ with
  | none => exact absurd e h
  | some v => rfl
theorem z_j01 (u w : Nat) (v : Int32) (τ : q_M) : (F_X4_judge 0 u w v τ).1 = 0 ∨ (F_X4_judge 0 u w v τ).1 = 1 := by
  unfold F_X4_judge q_L
  by_cases z : F_X6_committed w v τ = 0
  · rw [if_pos z]; exact .inl rfl
  · rw [if_neg z]; exact .inr rfl
theorem c_addTeam {k : Nat} {σ : q_M} {b : Nat → Nat} {t : Nat → Nat → Nat} {nw sz : Nat} {hb : Nat → Nat → Nat} {ht : Nat → Nat → Nat → Nat} {sb : Nat → Nat} {st : Nat → Nat → Nat} (hk : k < 20000) (hC : z_C k σ b t nw sz hb ht sb st) : Q_addTeam σ ∧ z_wo k b t nw sz hb ht sb st (W_addTeam σ) := by
  have hV := hC.2.2.2.1
  obtain ⟨a1, a2, a3, w7⟩ := z_cfc nx_addTeam nc_addTeam hC (z_enter hV) rfl (fun c h1 h2 => by
    have e : c = 1 := by omega
    subst e
    exact ⟨"java/lang/IllegalStateException", fun _ => rfl, by simp, by unfold z_bad; decide +kernel⟩)
  (try dsimp only at a2)
  have eF : F_X8_addTeam σ = z_fC (fun σ => (F_X4_faultOfEntering 0 σ, σ)) (F_X4_enterTeam 0) σ := by
    unfold F_X8_addTeam z_fC
    (try dsimp only [q_L])
    cases hr : F_X8_raise (F_X4_faultOfEntering 0 σ) σ with
    | none =>
      obtain ⟨a4, a5⟩ := a2 hr
      (try dsimp only [q_L])
    | some E => rfl
  have hP : P_X8_addTeam σ := by
    refine ⟨a1, fun r hr => ?_⟩
    cases r with
    | none =>
      obtain ⟨a4, a5⟩ := a2 hr
      exact ⟨a4, fun σ3 h3 => by subst h3; exact ⟨a5, trivial⟩⟩
    | some E => trivial
  have eW : W_addTeam σ = z_gC nc_addTeam (z_fC (fun σ => (F_X4_faultOfEntering 0 σ, σ)) (F_X4_enterTeam 0) σ) := by
    rw [← eF]
    unfold W_addTeam z_gC
    rcases F_X8_addTeam σ with ⟨x | x, τ⟩ <;> rfl
  exact ⟨⟨hP, fun E q => a3 E (by rw [← eF]; exact q)⟩, by rw [eW]; exact w7⟩
theorem c_setLength {k : Nat} {σ : q_M} {b : Nat → Nat} {t : Nat → Nat → Nat} {nw sz : Nat} {hb : Nat → Nat → Nat} {ht : Nat → Nat → Nat → Nat} {sb : Nat → Nat} {st : Nat → Nat → Nat} (hk : k < 20000) (hC : z_C k σ b t nw sz hb ht sb st) (g : Int32) : Q_setLength g σ ∧ z_wo k b t nw sz hb ht sb st (W_setLength g σ) := by
  have hV := hC.2.2.2.1
  obtain ⟨a1, a2, a3, w7⟩ := z_cfc nx_setLength nc_setLength hC (z_length hV g) rfl (fun c h1 h2 => by
    rcases (show c = 1 ∨ c = 2 by omega) with rfl | rfl
    · exact ⟨"java/lang/IllegalArgumentException", fun _ => rfl, by simp, by unfold z_bad; decide +kernel⟩
    · exact ⟨"java/lang/IllegalStateException", fun _ => rfl, by simp, by unfold z_bad; decide +kernel⟩)
  (try dsimp only at a2)
  have eF : F_X8_setLength g σ = z_fC (fun σ => (F_X4_faultOfLength 0 g σ, σ)) (fun σ => (σ 0 3, q_up σ 0 3 g)) σ := by
    unfold F_X8_setLength z_fC
    (try dsimp only [q_L])
    cases hr : F_X8_raise (F_X4_faultOfLength 0 g σ) σ with
    | none =>
      obtain ⟨a4, a5⟩ := a2 hr
      (try dsimp only [q_L])
    | some E => rfl
  have hP : P_X8_setLength g σ := by
    refine fun r hr => ?_
    cases r with
    | none =>
      obtain ⟨a4, a5⟩ := a2 hr
      exact ⟨a4, trivial⟩
    | some E => trivial
  have eW : W_setLength g σ = z_gC nc_setLength (z_fC (fun σ => (F_X4_faultOfLength 0 g σ, σ)) (fun σ => (σ 0 3, q_up σ 0 3 g)) σ) := by
    rw [← eF]
    unfold W_setLength z_gC
    rcases F_X8_setLength g σ with ⟨x | x, τ⟩ <;> rfl
  exact ⟨⟨hP, fun E q => a3 E (by rw [← eF]; exact q)⟩, by rw [eW]; exact w7⟩
theorem c_setSpeed {k : Nat} {σ : q_M} {b : Nat → Nat} {t : Nat → Nat → Nat} {nw sz : Nat} {hb : Nat → Nat → Nat} {ht : Nat → Nat → Nat → Nat} {sb : Nat → Nat} {st : Nat → Nat → Nat} (hk : k < 20000) (hC : z_C k σ b t nw sz hb ht sb st) (g : Int32) (l : Int32) (v : Int32) : Q_setSpeed g l v σ ∧ z_wo k b t nw sz hb ht sb st (W_setSpeed g l v σ) := by
  have hV := hC.2.2.2.1
  obtain ⟨a1, a2, a3, w7⟩ := z_cfc nx_setSpeed nc_setSpeed hC (z_speed hV g l v) rfl (fun c h1 h2 => by
    rcases (show c = 1 ∨ c = 2 ∨ c = 3 by omega) with rfl | rfl | rfl
    · exact ⟨"java/lang/IndexOutOfBoundsException", fun _ => rfl, by simp, by unfold z_bad; decide +kernel⟩
    · exact ⟨"java/lang/IllegalArgumentException", fun _ => rfl, by simp, by unfold z_bad; decide +kernel⟩
    · exact ⟨"java/lang/IllegalStateException", fun _ => rfl, by simp, by unfold z_bad; decide +kernel⟩)
  (try dsimp only at a2)
  have eF : F_X8_setSpeed g l v σ = z_fC (fun σ => (F_X4_faultOfSpeed 0 g l v σ, σ)) (fun σ => F_X6_changeSpeed (F_X8_team0 g σ) l v σ) σ := by
    unfold F_X8_setSpeed z_fC
    (try dsimp only [q_L])
    cases hr : F_X8_raise (F_X4_faultOfSpeed 0 g l v σ) σ with
    | none =>
      obtain ⟨a4, a5⟩ := a2 hr
      (try dsimp only [q_L])
      rw [z_tw a5.1]
    | some E => rfl
  have hP : P_X8_setSpeed g l v σ := by
    refine fun r hr => ?_
    cases r with
    | none =>
      obtain ⟨a4, a5⟩ := a2 hr
      refine ⟨a4, ?_⟩
      intro σ3 h3 r hr
      subst h3
      rw [z_tw a5.1] at hr
      subst hr
      exact ⟨a5.2, trivial⟩
    | some E => trivial
  have eW : W_setSpeed g l v σ = z_gC nc_setSpeed (z_fC (fun σ => (F_X4_faultOfSpeed 0 g l v σ, σ)) (fun σ => F_X6_changeSpeed (F_X8_team0 g σ) l v σ) σ) := by
    rw [← eF]
    unfold W_setSpeed z_gC
    rcases F_X8_setSpeed g l v σ with ⟨x | x, τ⟩ <;> rfl
  exact ⟨⟨hP, fun E q => a3 E (by rw [← eF]; exact q)⟩, by rw [eW]; exact w7⟩
theorem c_drawLanes {k : Nat} {σ : q_M} {b : Nat → Nat} {t : Nat → Nat → Nat} {nw sz : Nat} {hb : Nat → Nat → Nat} {ht : Nat → Nat → Nat → Nat} {sb : Nat → Nat} {st : Nat → Nat → Nat} (hk : k < 20000) (hC : z_C k σ b t nw sz hb ht sb st) (g : Int32) : Q_drawLanes g σ ∧ z_wo k b t nw sz hb ht sb st (W_drawLanes g σ) := by
  have hV := hC.2.2.2.1
  obtain ⟨a1, a2, a3, w7⟩ := z_cfc nx_drawLanes nc_drawLanes hC (z_draw hV g) rfl (fun c h1 h2 => by
    rcases (show c = 1 ∨ c = 2 by omega) with rfl | rfl
    · exact ⟨"java/lang/IllegalArgumentException", fun _ => rfl, by simp, by unfold z_bad; decide +kernel⟩
    · exact ⟨"java/lang/IllegalStateException", fun _ => rfl, by simp, by unfold z_bad; decide +kernel⟩)
  (try dsimp only at a2)
  have eF : F_X8_drawLanes g σ = z_fC (fun σ => (F_X4_faultOfDrawing 0 g σ, σ)) (fun σ => ((F_X4_shuffleLanes 0 g σ) (F_X8_team0 0 (F_X4_shuffleLanes 0 g σ)) 4, F_X4_shuffleLanes 0 g σ)) σ := by
    unfold F_X8_drawLanes z_fC
    (try dsimp only [q_L])
    cases hr : F_X8_raise (F_X4_faultOfDrawing 0 g σ) σ with
    | none =>
      obtain ⟨a4, a5⟩ := a2 hr
      (try dsimp only [q_L])
      rw [z_tw a5.2]
    | some E => rfl
  have hP : P_X8_drawLanes g σ := by
    refine ⟨a1, fun r hr => ?_⟩
    cases r with
    | none =>
      obtain ⟨a4, a5⟩ := a2 hr
      exact ⟨a4, fun σ3 h3 => by subst h3; exact ⟨a5.1, trivial⟩⟩
    | some E => trivial
  have eW : W_drawLanes g σ = z_gC nc_drawLanes (z_fC (fun σ => (F_X4_faultOfDrawing 0 g σ, σ)) (fun σ => ((F_X4_shuffleLanes 0 g σ) (F_X8_team0 0 (F_X4_shuffleLanes 0 g σ)) 4, F_X4_shuffleLanes 0 g σ)) σ) := by
    rw [← eF]
    unfold W_drawLanes z_gC
    rcases F_X8_drawLanes g σ with ⟨x | x, τ⟩ <;> rfl
  exact ⟨⟨hP, fun E q => a3 E (by rw [← eF]; exact q)⟩, by rw [eW]; exact w7⟩
theorem c_start {k : Nat} {σ : q_M} {b : Nat → Nat} {t : Nat → Nat → Nat} {nw sz : Nat} {hb : Nat → Nat → Nat} {ht : Nat → Nat → Nat → Nat} {sb : Nat → Nat} {st : Nat → Nat → Nat} (hk : k < 20000) (hC : z_C k σ b t nw sz hb ht sb st) : Q_start σ ∧ z_wo k b t nw sz hb ht sb st (W_start σ) := by
  have hV := hC.2.2.2.1
  obtain ⟨a1, a2, a3, w7⟩ := z_cfc nx_start nc_start hC (z_start hV) rfl (fun c h1 h2 => by
    have e : c = 1 := by omega
    subst e
    exact ⟨"java/lang/IllegalStateException", fun _ => rfl, by simp, by unfold z_bad; decide +kernel⟩)
  (try dsimp only at a2)
  have eF : F_X8_start σ = z_fC (fun σ => (F_X4_faultOfStarting 0 σ, σ)) (fun σ => (F_X4_countEntered 0 (F_X4_begin 0 σ), F_X4_begin 0 σ)) σ := by
    unfold F_X8_start z_fC
    (try dsimp only [q_L])
    cases hr : F_X8_raise (F_X4_faultOfStarting 0 σ) σ with
    | none =>
      obtain ⟨a4, a5⟩ := a2 hr
      (try dsimp only [q_L])
    | some E => rfl
  have hP : P_X8_start σ := by
    refine ⟨a1, fun r hr => ?_⟩
    cases r with
    | none =>
      obtain ⟨a4, a5⟩ := a2 hr
      exact ⟨a4, fun σ3 h3 => by subst h3; exact ⟨a5.1, fun σ5 h5 => by subst h5; exact ⟨a5.2, trivial⟩⟩⟩
    | some E => trivial
  have eW : W_start σ = z_gC nc_start (z_fC (fun σ => (F_X4_faultOfStarting 0 σ, σ)) (fun σ => (F_X4_countEntered 0 (F_X4_begin 0 σ), F_X4_begin 0 σ)) σ) := by
    rw [← eF]
    unfold W_start z_gC
    rcases F_X8_start σ with ⟨x | x, τ⟩ <;> rfl
  exact ⟨⟨hP, fun E q => a3 E (by rw [← eF]; exact q)⟩, by rw [eW]; exact w7⟩
theorem c_run {k : Nat} {σ : q_M} {b : Nat → Nat} {t : Nat → Nat → Nat} {nw sz : Nat} {hb : Nat → Nat → Nat} {ht : Nat → Nat → Nat → Nat} {sb : Nat → Nat} {st : Nat → Nat → Nat} (hk : k < 20000) (hC : z_C k σ b t nw sz hb ht sb st) (g : Int32) : Q_run g σ ∧ z_wo k b t nw sz hb ht sb st (W_run g σ) := by
  have hV := hC.2.2.2.1
  obtain ⟨a1, a2, a3, w7⟩ := z_cfc nx_run nc_run hC (z_run hV (by omega) g) rfl (fun c h1 h2 => by
    rcases (show c = 1 ∨ c = 2 by omega) with rfl | rfl
    · exact ⟨"java/lang/IllegalArgumentException", fun _ => rfl, by simp, by unfold z_bad; decide +kernel⟩
    · exact ⟨"java/lang/IllegalStateException", fun _ => rfl, by simp, by unfold z_bad; decide +kernel⟩)
  (try dsimp only at a2)
  have eF : F_X8_run g σ = z_fC (fun σ => (F_X4_faultOfRunning 0 g σ, σ)) (F_X4_letSecondsPass 0 g) σ := by
    unfold F_X8_run z_fC
    (try dsimp only [q_L])
    cases hr : F_X8_raise (F_X4_faultOfRunning 0 g σ) σ with
    | none =>
      obtain ⟨a4, a5⟩ := a2 hr
      (try dsimp only [q_L])
    | some E => rfl
  have hP : P_X8_run g σ := by
    refine fun r hr => ?_
    cases r with
    | none =>
      obtain ⟨a4, a5⟩ := a2 hr
      exact ⟨a4, fun σ3 h3 => by subst h3; exact ⟨a5, trivial⟩⟩
    | some E => trivial
  have eW : W_run g σ = z_gC nc_run (z_fC (fun σ => (F_X4_faultOfRunning 0 g σ, σ)) (F_X4_letSecondsPass 0 g) σ) := by
    rw [← eF]
    unfold W_run z_gC
    rcases F_X8_run g σ with ⟨x | x, τ⟩ <;> rfl
  exact ⟨⟨hP, fun E q => a3 E (by rw [← eF]; exact q)⟩, by rw [eW]; exact w7⟩
theorem c_pass {k : Nat} {σ : q_M} {b : Nat → Nat} {t : Nat → Nat → Nat} {nw sz : Nat} {hb : Nat → Nat → Nat} {ht : Nat → Nat → Nat → Nat} {sb : Nat → Nat} {st : Nat → Nat → Nat} (hk : k < 20000) (hC : z_C k σ b t nw sz hb ht sb st) (g : Int32) : Q_pass g σ ∧ z_wo k b t nw sz hb ht sb st (W_pass g σ) := by
  have hV := hC.2.2.2.1
  obtain ⟨a1, a2, a3, w7⟩ := z_cfc nx_pass nc_pass hC (z_pass hV (by omega) g) rfl (fun c h1 h2 => by
    rcases (show c = 1 ∨ c = 2 ∨ c = 3 by omega) with rfl | rfl | rfl
    · exact ⟨"java/lang/IndexOutOfBoundsException", fun _ => rfl, by simp, by unfold z_bad; decide +kernel⟩
    · exact ⟨"java/lang/IllegalStateException", fun _ => rfl, by simp, by unfold z_bad; decide +kernel⟩
    · exact ⟨"java/lang/UnsupportedOperationException", fun _ => rfl, by simp, by unfold z_bad; decide +kernel⟩)
  (try dsimp only at a2)
  have eF : F_X8_pass g σ = z_fC (F_X8_faultOfPassing g) (fun σ => F_X4_handOver 0 (F_X8_team0 g σ) σ) σ := by
    unfold F_X8_pass z_fC
    (try dsimp only [q_L])
    cases hr : F_X8_raise (F_X8_faultOfPassing g σ).1 (F_X8_faultOfPassing g σ).2 with
    | none =>
      obtain ⟨a4, a5⟩ := a2 hr
      (try dsimp only [q_L])
      rw [z_tw a5.1]
    | some E => rfl
  have hP : P_X8_pass g σ := by
    refine fun σ1 h1 => h1 ▸ fun r hr => ?_
    cases r with
    | none =>
      obtain ⟨a4, a5⟩ := a2 hr
      refine ⟨a4, ?_⟩
      intro σ3 h3 r hr
      subst h3
      rw [z_tw a5.1] at hr
      subst hr
      exact ⟨a5.2, trivial⟩
    | some E => trivial
  have eW : W_pass g σ = z_gC nc_pass (z_fC (F_X8_faultOfPassing g) (fun σ => F_X4_handOver 0 (F_X8_team0 g σ) σ) σ) := by
    rw [← eF]
    unfold W_pass z_gC
    rcases F_X8_pass g σ with ⟨x | x, τ⟩ <;> rfl
  exact ⟨⟨hP, fun E q => a3 E (by rw [← eF]; exact q)⟩, by rw [eW]; exact w7⟩
theorem c_drop {k : Nat} {σ : q_M} {b : Nat → Nat} {t : Nat → Nat → Nat} {nw sz : Nat} {hb : Nat → Nat → Nat} {ht : Nat → Nat → Nat → Nat} {sb : Nat → Nat} {st : Nat → Nat → Nat} (hk : k < 20000) (hC : z_C k σ b t nw sz hb ht sb st) (g : Int32) (v : Int32) : Q_drop g v σ ∧ z_wo k b t nw sz hb ht sb st (W_drop g v σ) := by
  have hV := hC.2.2.2.1
  obtain ⟨a1, a2, a3, w7⟩ := z_cfc nx_drop nc_drop hC (z_drop hV (by omega) g v) rfl (fun c h1 h2 => by
    rcases (show c = 1 ∨ c = 2 ∨ c = 3 by omega) with rfl | rfl | rfl
    · exact ⟨"java/lang/IndexOutOfBoundsException", fun _ => rfl, by simp, by unfold z_bad; decide +kernel⟩
    · exact ⟨"java/lang/IllegalArgumentException", fun _ => rfl, by simp, by unfold z_bad; decide +kernel⟩
    · exact ⟨"java/lang/IllegalStateException", fun _ => rfl, by simp, by unfold z_bad; decide +kernel⟩)
  (try dsimp only at a2)
  have eF : F_X8_drop g v σ = z_fC (fun σ => (F_X4_faultOfDropping 0 g v σ, σ)) (fun σ => F_X4_dropQuill 0 (F_X8_team0 g σ) v σ) σ := by
    unfold F_X8_drop z_fC
    (try dsimp only [q_L])
    cases hr : F_X8_raise (F_X4_faultOfDropping 0 g v σ) σ with
    | none =>
      obtain ⟨a4, a5⟩ := a2 hr
      (try dsimp only [q_L])
      rw [z_tw a5]
    | some E => rfl
  have hP : P_X8_drop g v σ := by
    refine fun r hr => ?_
    cases r with
    | none =>
      obtain ⟨a4, a5⟩ := a2 hr
      exact ⟨a4, trivial⟩
    | some E => trivial
  have eW : W_drop g v σ = z_gC nc_drop (z_fC (fun σ => (F_X4_faultOfDropping 0 g v σ, σ)) (fun σ => F_X4_dropQuill 0 (F_X8_team0 g σ) v σ) σ) := by
    rw [← eF]
    unfold W_drop z_gC
    rcases F_X8_drop g v σ with ⟨x | x, τ⟩ <;> rfl
  exact ⟨⟨hP, fun E q => a3 E (by rw [← eF]; exact q)⟩, by rw [eW]; exact w7⟩
theorem c_withdraw {k : Nat} {σ : q_M} {b : Nat → Nat} {t : Nat → Nat → Nat} {nw sz : Nat} {hb : Nat → Nat → Nat} {ht : Nat → Nat → Nat → Nat} {sb : Nat → Nat} {st : Nat → Nat → Nat} (hk : k < 20000) (hC : z_C k σ b t nw sz hb ht sb st) (g : Int32) : Q_withdraw g σ ∧ z_wo k b t nw sz hb ht sb st (W_withdraw g σ) := by
  have hV := hC.2.2.2.1
  obtain ⟨a1, a2, a3, w7⟩ := z_cfc nx_withdraw nc_withdraw hC (z_quit hV g) rfl (fun c h1 h2 => by
    rcases (show c = 1 ∨ c = 2 by omega) with rfl | rfl
    · exact ⟨"java/lang/IndexOutOfBoundsException", fun _ => rfl, by simp, by unfold z_bad; decide +kernel⟩
    · exact ⟨"java/lang/IllegalStateException", fun _ => rfl, by simp, by unfold z_bad; decide +kernel⟩)
  (try dsimp only at a2)
  have eF : F_X8_withdraw g σ = z_fC (fun σ => (F_X4_faultOfWithdrawing 0 g σ, σ)) (fun σ => (F_X4_countRunning 0 (q_up σ (F_X8_team0 g σ) 3 4), q_up σ (F_X8_team0 g σ) 3 4)) σ := by
    unfold F_X8_withdraw z_fC
    (try dsimp only [q_L])
    cases hr : F_X8_raise (F_X4_faultOfWithdrawing 0 g σ) σ with
    | none =>
      obtain ⟨a4, a5⟩ := a2 hr
      (try dsimp only [q_L])
      rw [z_tw a5.1]
    | some E => rfl
  have hP : P_X8_withdraw g σ := by
    refine fun r hr => ?_
    cases r with
    | none =>
      obtain ⟨a4, a5⟩ := a2 hr
      refine ⟨a4, ?_⟩
      intro σ3 h3 r hr
      subst h3
      rw [z_tw a5.1] at hr
      subst hr
      intro σ7 h7
      subst h7
      exact ⟨a5.2, trivial⟩
    | some E => trivial
  have eW : W_withdraw g σ = z_gC nc_withdraw (z_fC (fun σ => (F_X4_faultOfWithdrawing 0 g σ, σ)) (fun σ => (F_X4_countRunning 0 (q_up σ (F_X8_team0 g σ) 3 4), q_up σ (F_X8_team0 g σ) 3 4)) σ) := by
    rw [← eF]
    unfold W_withdraw z_gC
    rcases F_X8_withdraw g σ with ⟨x | x, τ⟩ <;> rfl
  exact ⟨⟨hP, fun E q => a3 E (by rw [← eF]; exact q)⟩, by rw [eW]; exact w7⟩
theorem c_protest {k : Nat} {σ : q_M} {b : Nat → Nat} {t : Nat → Nat → Nat} {nw sz : Nat} {hb : Nat → Nat → Nat} {ht : Nat → Nat → Nat → Nat} {sb : Nat → Nat} {st : Nat → Nat → Nat} (hk : k < 20000) (hC : z_C k σ b t nw sz hb ht sb st) (g : Int32) (h : Int32) (v : Int32) : Q_protest g h v σ ∧ z_wo k b t nw sz hb ht sb st (W_protest g h v σ) := by
  have hV := hC.2.2.2.1
  obtain ⟨a1, a2, a3, w7⟩ := z_cfc nx_protest nc_protest hC (z_protest hV g h v) rfl (fun c h1 h2 => by
    rcases (show c = 1 ∨ c = 2 ∨ c = 3 by omega) with rfl | rfl | rfl
    · exact ⟨"java/lang/IndexOutOfBoundsException", fun _ => rfl, by simp, by unfold z_bad; decide +kernel⟩
    · exact ⟨"java/lang/IllegalArgumentException", fun _ => rfl, by simp, by unfold z_bad; decide +kernel⟩
    · exact ⟨"java/lang/IllegalStateException", fun _ => rfl, by simp, by unfold z_bad; decide +kernel⟩)
  (try dsimp only at a2)
  have eF : F_X8_protest g h v σ = z_fC (fun σ => (F_X4_faultOfProtesting 0 g h v σ, σ)) (fun σ => F_X4_judge 0 (F_X8_team0 g σ) (F_X8_team0 h σ) v σ) σ := by
    unfold F_X8_protest z_fC
    (try dsimp only [q_L])
    cases hr : F_X8_raise (F_X4_faultOfProtesting 0 g h v σ) σ with
    | none =>
      obtain ⟨a4, a5⟩ := a2 hr
      (try dsimp only [q_L])
      rw [z_tw a5.1, z_tw a5.2.1]
    | some E => rfl
  have hP : P_X8_protest g h v σ := by
    refine fun r hr => ?_
    cases r with
    | none =>
      obtain ⟨a4, a5⟩ := a2 hr
      refine ⟨a4, ?_⟩
      intro σ3 h3 r hr
      subst h3
      rw [z_tw a5.1] at hr
      subst hr
      intro r hr
      rw [z_tw a5.2.1] at hr
      subst hr
      exact ⟨a5.2.2, trivial⟩
    | some E => trivial
  have hx : ∀ x τ, F_X8_protest g h v σ = (.inl x, τ) → (if x = 0 then (0 : Int32) else 1) = x := by
    intro x τ e
    rw [eF] at e
    unfold z_fC at e
    dsimp only at e
    cases hr : F_X8_raise (F_X4_faultOfProtesting 0 g h v σ) σ with
    | none =>
      rw [hr] at e
      injection e with e1 e2
      injection e1 with e1
      rw [← e1]
      rcases z_j01 (F_X8_team0 g (F_X2_push 0 σ)) (F_X8_team0 h (F_X2_push 0 σ)) v (F_X2_push 0 σ) with z | z <;> rw [z] <;> rfl
    | some E =>
      rw [hr] at e
      injection e with e1 e2
      injection e1
  have eW : W_protest g h v σ = z_gC nc_protest (z_fC (fun σ => (F_X4_faultOfProtesting 0 g h v σ, σ)) (fun σ => F_X4_judge 0 (F_X8_team0 g σ) (F_X8_team0 h σ) v σ) σ) := by
    rw [← eF]
    unfold W_protest z_gC
    rcases hy : F_X8_protest g h v σ with ⟨x | x, τ⟩
    · have := hx x τ hy
      show ((if x = 0 then (0 : Int32) else 1), τ) = (x, τ)
      rw [this]
    · rfl
  exact ⟨⟨hP, fun E q => a3 E (by rw [← eF]; exact q)⟩, by rw [eW]; exact w7⟩
