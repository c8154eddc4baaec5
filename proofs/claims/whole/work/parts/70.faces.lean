/-! The commands of the face. -/
theorem z_tw {n : Int32} {σ : q_M} (h : P_X8_team0 n σ) : F_X8_teamWith n σ = .inl (F_X8_team0 n σ) := by
  unfold F_X8_teamWith F_X8_team0
  unfold P_X8_team0 at h
  cases e : F_X4_find 0 n σ with
  | none => exact absurd e h
  | some v => rfl
theorem z_j01 (u w : Nat) (v : Int32) (τ : q_M) : (F_X4_judge 0 u w v τ).1 = 0 ∨ (F_X4_judge 0 u w v τ).1 = 1 := by
  unfold F_X4_judge q_L
  by_cases z : F_X6_committed w v τ = 0
  · rw [if_pos z]; exact .inl rfl
  · rw [if_neg z]; exact .inr rfl
theorem sq_addTeam {k : Nat} {σ : q_M} (hk : k < 512) (hI : z_Inv k σ) : sim_addTeam σ ∧ z_Inv (k + 1) (to_addTeam σ) := by
  obtain ⟨b, t, nw, sz, hb, ht, sb, st, hJ⟩ := hI
  have hV := hJ.2.2.2.2.1
  obtain ⟨a1, a2, a3, c, ω, w1, w2, w3, w4, w5, w6, wM, w7⟩ := z_face nx_addTeam (by decide) hJ (z_enter hV) rfl (fun c h1 h2 => by
    have e : c = 1 := by omega
    subst e
    exact ⟨"java/lang/IllegalStateException", fun _ => rfl, by simp, by decide +kernel⟩)
  (try dsimp only at a2)
  have eF : F_X8_addTeam σ = z_fC (fun σ => (F_X4_faultOfEntering 0 σ, σ)) (F_X4_enterTeam 0) σ := by
    unfold F_X8_addTeam z_fC
    (try dsimp only [q_L])
    cases hr : F_X8_raise (F_X4_faultOfEntering 0 σ) σ with
    | none =>
      obtain ⟨a4, a5⟩ := a2 hr
      (try dsimp only [q_L])
    | some E => rfl
  have hP : P_X8_addTeam σ := by
    refine ⟨a1, fun r hr => ?_⟩
    cases r with
    | none =>
      obtain ⟨a4, a5⟩ := a2 hr
      exact ⟨a4, fun σ3 h3 => by subst h3; exact ⟨a5, trivial⟩⟩
    | some E => trivial
  have eW : W_addTeam σ = (c, ω) := by
    rw [← w1, ← eF]
    unfold W_addTeam z_fW
    rcases F_X8_addTeam σ with ⟨x | x, τ⟩ <;> rfl
  obtain ⟨hPM, eM⟩ := z_addM hV wM w2 w4
  unfold sim_addTeam q_SimI to_addTeam
  rw [eW]
  dsimp only
  rw [eM]
  exact ⟨⟨⟨hP, fun E q => a3 E (by rw [← eF]; exact q)⟩, hPM, w5, fun q => (w6 q).1⟩, w7⟩
theorem sq_setLength {k : Nat} {σ : q_M} (hk : k < 512) (hI : z_Inv k σ) (g : Int32) : sim_setLength g σ ∧ z_Inv (k + 1) (to_setLength g σ) := by
  obtain ⟨b, t, nw, sz, hb, ht, sb, st, hJ⟩ := hI
  have hV := hJ.2.2.2.2.1
  obtain ⟨a1, a2, a3, c, ω, w1, w2, w3, w4, w5, w6, wM, w7⟩ := z_face nx_setLength (by decide) hJ (z_length hV g) rfl (fun c h1 h2 => by
    rcases (show c = 1 ∨ c = 2 by omega) with rfl | rfl
    · exact ⟨"java/lang/IllegalArgumentException", fun _ => rfl, by simp, by decide +kernel⟩
    · exact ⟨"java/lang/IllegalStateException", fun _ => rfl, by simp, by decide +kernel⟩)
  (try dsimp only at a2)
  have eF : F_X8_setLength g σ = z_fC (fun σ => (F_X4_faultOfLength 0 g σ, σ)) (fun σ => (σ 0 3, q_up σ 0 3 g)) σ := by
    unfold F_X8_setLength z_fC
    (try dsimp only [q_L])
    cases hr : F_X8_raise (F_X4_faultOfLength 0 g σ) σ with
    | none =>
      obtain ⟨a4, a5⟩ := a2 hr
      (try dsimp only [q_L])
    | some E => rfl
  have hP : P_X8_setLength g σ := by
    refine fun r hr => ?_
    cases r with
    | none =>
      obtain ⟨a4, a5⟩ := a2 hr
      exact ⟨a4, trivial⟩
    | some E => trivial
  have eW : W_setLength g σ = (c, ω) := by
    rw [← w1, ← eF]
    unfold W_setLength z_fW
    rcases F_X8_setLength g σ with ⟨x | x, τ⟩ <;> rfl
  obtain ⟨hPM, eM⟩ := z_lenM w2 w4
  unfold sim_setLength q_SimI to_setLength
  rw [eW]
  dsimp only
  rw [eM]
  exact ⟨⟨⟨hP, fun E q => a3 E (by rw [← eF]; exact q)⟩, hPM, w5, fun q => (w6 q).1⟩, w7⟩
theorem sq_setSpeed {k : Nat} {σ : q_M} (hk : k < 512) (hI : z_Inv k σ) (g : Int32) (l : Int32) (v : Int32) : sim_setSpeed g l v σ ∧ z_Inv (k + 1) (to_setSpeed g l v σ) := by
  obtain ⟨b, t, nw, sz, hb, ht, sb, st, hJ⟩ := hI
  have hV := hJ.2.2.2.2.1
  obtain ⟨a1, a2, a3, c, ω, w1, w2, w3, w4, w5, w6, wM, w7⟩ := z_face nx_setSpeed (by decide) hJ (z_speed hV g l v) rfl (fun c h1 h2 => by
    rcases (show c = 1 ∨ c = 2 ∨ c = 3 by omega) with rfl | rfl | rfl
    · exact ⟨"java/lang/IndexOutOfBoundsException", fun _ => rfl, by simp, by decide +kernel⟩
    · exact ⟨"java/lang/IllegalArgumentException", fun _ => rfl, by simp, by decide +kernel⟩
    · exact ⟨"java/lang/IllegalStateException", fun _ => rfl, by simp, by decide +kernel⟩)
  (try dsimp only at a2)
  have eF : F_X8_setSpeed g l v σ = z_fC (fun σ => (F_X4_faultOfSpeed 0 g l v σ, σ)) (fun σ => F_X6_changeSpeed (F_X8_team0 g σ) l v σ) σ := by
    unfold F_X8_setSpeed z_fC
    (try dsimp only [q_L])
    cases hr : F_X8_raise (F_X4_faultOfSpeed 0 g l v σ) σ with
    | none =>
      obtain ⟨a4, a5⟩ := a2 hr
      (try dsimp only [q_L])
      rw [z_tw a5.1]
    | some E => rfl
  have hP : P_X8_setSpeed g l v σ := by
    refine fun r hr => ?_
    cases r with
    | none =>
      obtain ⟨a4, a5⟩ := a2 hr
      refine ⟨a4, ?_⟩
      intro σ3 h3 r hr
      subst h3
      rw [z_tw a5.1] at hr
      subst hr
      exact ⟨a5.2, trivial⟩
    | some E => trivial
  have eW : W_setSpeed g l v σ = (c, ω) := by
    rw [← w1, ← eF]
    unfold W_setSpeed z_fW
    rcases F_X8_setSpeed g l v σ with ⟨x | x, τ⟩ <;> rfl
  have hPM : P_X9_setSpeed g l v ω := ⟨w2, fun σ1 e1 => by subst e1; exact ⟨w3, fun σ3 e3 => by subst e3; exact ⟨w4, trivial⟩⟩⟩
  have eM : F_X9_setSpeed g l v ω = z_fM (F_X9_speeds g l v) ω := by
    unfold F_X9_setSpeed z_fM q_L
    exact Prod.eta _
  unfold sim_setSpeed q_SimI to_setSpeed
  rw [eW]
  dsimp only
  rw [eM]
  exact ⟨⟨⟨hP, fun E q => a3 E (by rw [← eF]; exact q)⟩, hPM, w5, fun q => (w6 q).1⟩, w7⟩
theorem sq_drawLanes {k : Nat} {σ : q_M} (hk : k < 512) (hI : z_Inv k σ) (g : Int32) : sim_drawLanes g σ ∧ z_Inv (k + 1) (to_drawLanes g σ) := by
  obtain ⟨b, t, nw, sz, hb, ht, sb, st, hJ⟩ := hI
  have hV := hJ.2.2.2.2.1
  obtain ⟨a1, a2, a3, c, ω, w1, w2, w3, w4, w5, w6, wM, w7⟩ := z_face nx_drawLanes (by decide) hJ (z_draw hV g) rfl (fun c h1 h2 => by
    rcases (show c = 1 ∨ c = 2 by omega) with rfl | rfl
    · exact ⟨"java/lang/IllegalArgumentException", fun _ => rfl, by simp, by decide +kernel⟩
    · exact ⟨"java/lang/IllegalStateException", fun _ => rfl, by simp, by decide +kernel⟩)
  (try dsimp only at a2)
  have eF : F_X8_drawLanes g σ = z_fC (fun σ => (F_X4_faultOfDrawing 0 g σ, σ)) (fun σ => ((F_X4_shuffleLanes 0 g σ) (F_X8_team0 0 (F_X4_shuffleLanes 0 g σ)) 4, F_X4_shuffleLanes 0 g σ)) σ := by
    unfold F_X8_drawLanes z_fC
    (try dsimp only [q_L])
    cases hr : F_X8_raise (F_X4_faultOfDrawing 0 g σ) σ with
    | none =>
      obtain ⟨a4, a5⟩ := a2 hr
      (try dsimp only [q_L])
      rw [z_tw a5.2]
    | some E => rfl
  have hP : P_X8_drawLanes g σ := by
    refine ⟨a1, fun r hr => ?_⟩
    cases r with
    | none =>
      obtain ⟨a4, a5⟩ := a2 hr
      exact ⟨a4, fun σ3 h3 => by subst h3; exact ⟨a5.1, trivial⟩⟩
    | some E => trivial
  have eW : W_drawLanes g σ = (c, ω) := by
    rw [← w1, ← eF]
    unfold W_drawLanes z_fW
    rcases F_X8_drawLanes g σ with ⟨x | x, τ⟩ <;> rfl
  have hPM : P_X9_drawLanes g ω := ⟨w2, fun σ1 e1 => by subst e1; exact ⟨w3, fun σ3 e3 => by subst e3; exact ⟨w4, trivial⟩⟩⟩
  have eM : F_X9_drawLanes g ω = z_fM (F_X9_draws g) ω := by
    unfold F_X9_drawLanes z_fM q_L
    exact Prod.eta _
  unfold sim_drawLanes q_SimI to_drawLanes
  rw [eW]
  dsimp only
  rw [eM]
  exact ⟨⟨⟨hP, fun E q => a3 E (by rw [← eF]; exact q)⟩, hPM, w5, fun q => (w6 q).1⟩, w7⟩
theorem sq_start {k : Nat} {σ : q_M} (hk : k < 512) (hI : z_Inv k σ) : sim_start σ ∧ z_Inv (k + 1) (to_start σ) := by
  obtain ⟨b, t, nw, sz, hb, ht, sb, st, hJ⟩ := hI
  have hV := hJ.2.2.2.2.1
  obtain ⟨a1, a2, a3, c, ω, w1, w2, w3, w4, w5, w6, wM, w7⟩ := z_face nx_start (by decide) hJ (z_start hV) rfl (fun c h1 h2 => by
    have e : c = 1 := by omega
    subst e
    exact ⟨"java/lang/IllegalStateException", fun _ => rfl, by simp, by decide +kernel⟩)
  (try dsimp only at a2)
  have eF : F_X8_start σ = z_fC (fun σ => (F_X4_faultOfStarting 0 σ, σ)) (fun σ => (F_X4_countEntered 0 (F_X4_begin 0 σ), F_X4_begin 0 σ)) σ := by
    unfold F_X8_start z_fC
    (try dsimp only [q_L])
    cases hr : F_X8_raise (F_X4_faultOfStarting 0 σ) σ with
    | none =>
      obtain ⟨a4, a5⟩ := a2 hr
      (try dsimp only [q_L])
    | some E => rfl
  have hP : P_X8_start σ := by
    refine ⟨a1, fun r hr => ?_⟩
    cases r with
    | none =>
      obtain ⟨a4, a5⟩ := a2 hr
      exact ⟨a4, fun σ3 h3 => by subst h3; exact ⟨a5.1, fun σ5 h5 => by subst h5; exact ⟨a5.2, trivial⟩⟩⟩
    | some E => trivial
  have eW : W_start σ = (c, ω) := by
    rw [← w1, ← eF]
    unfold W_start z_fW
    rcases F_X8_start σ with ⟨x | x, τ⟩ <;> rfl
  have hPM : P_X9_start ω := ⟨w2, fun σ1 e1 => by subst e1; exact ⟨w3, fun σ3 e3 => by subst e3; exact ⟨w4, trivial⟩⟩⟩
  have eM : F_X9_start ω = z_fM (F_X9_starts) ω := by
    unfold F_X9_start z_fM q_L
    exact Prod.eta _
  unfold sim_start q_SimI to_start
  rw [eW]
  dsimp only
  rw [eM]
  exact ⟨⟨⟨hP, fun E q => a3 E (by rw [← eF]; exact q)⟩, hPM, w5, fun q => (w6 q).1⟩, w7⟩
theorem sq_run {k : Nat} {σ : q_M} (hk : k < 512) (hI : z_Inv k σ) (g : Int32) : sim_run g σ ∧ z_Inv (k + 1) (to_run g σ) := by
  obtain ⟨b, t, nw, sz, hb, ht, sb, st, hJ⟩ := hI
  have hV := hJ.2.2.2.2.1
  obtain ⟨a1, a2, a3, c, ω, w1, w2, w3, w4, w5, w6, wM, w7⟩ := z_face nx_run (by decide) hJ (z_run hV (by omega) g) rfl (fun c h1 h2 => by
    rcases (show c = 1 ∨ c = 2 by omega) with rfl | rfl
    · exact ⟨"java/lang/IllegalArgumentException", fun _ => rfl, by simp, by decide +kernel⟩
    · exact ⟨"java/lang/IllegalStateException", fun _ => rfl, by simp, by decide +kernel⟩)
  (try dsimp only at a2)
  have eF : F_X8_run g σ = z_fC (fun σ => (F_X4_faultOfRunning 0 g σ, σ)) (F_X4_letSecondsPass 0 g) σ := by
    unfold F_X8_run z_fC
    (try dsimp only [q_L])
    cases hr : F_X8_raise (F_X4_faultOfRunning 0 g σ) σ with
    | none =>
      obtain ⟨a4, a5⟩ := a2 hr
      (try dsimp only [q_L])
    | some E => rfl
  have hP : P_X8_run g σ := by
    refine fun r hr => ?_
    cases r with
    | none =>
      obtain ⟨a4, a5⟩ := a2 hr
      exact ⟨a4, fun σ3 h3 => by subst h3; exact ⟨a5, trivial⟩⟩
    | some E => trivial
  have eW : W_run g σ = (c, ω) := by
    rw [← w1, ← eF]
    unfold W_run z_fW
    rcases F_X8_run g σ with ⟨x | x, τ⟩ <;> rfl
  have hPM : P_X9_run g ω := ⟨w2, fun σ1 e1 => by subst e1; exact ⟨w3, fun σ3 e3 => by subst e3; exact ⟨w4, trivial⟩⟩⟩
  have eM : F_X9_run g ω = z_fM (F_X9_secondsPass g) ω := by
    unfold F_X9_run z_fM q_L
    exact Prod.eta _
  unfold sim_run q_SimI to_run
  rw [eW]
  dsimp only
  rw [eM]
  exact ⟨⟨⟨hP, fun E q => a3 E (by rw [← eF]; exact q)⟩, hPM, w5, fun q => (w6 q).1⟩, w7⟩
theorem sq_pass {k : Nat} {σ : q_M} (hk : k < 512) (hI : z_Inv k σ) (g : Int32) : sim_pass g σ ∧ z_Inv (k + 1) (to_pass g σ) := by
  obtain ⟨b, t, nw, sz, hb, ht, sb, st, hJ⟩ := hI
  have hV := hJ.2.2.2.2.1
  obtain ⟨a1, a2, a3, c, ω, w1, w2, w3, w4, w5, w6, wM, w7⟩ := z_face nx_pass (by decide) hJ (z_pass hV (by omega) g) rfl (fun c h1 h2 => by
    rcases (show c = 1 ∨ c = 2 ∨ c = 3 by omega) with rfl | rfl | rfl
    · exact ⟨"java/lang/IndexOutOfBoundsException", fun _ => rfl, by simp, by decide +kernel⟩
    · exact ⟨"java/lang/IllegalStateException", fun _ => rfl, by simp, by decide +kernel⟩
    · exact ⟨"java/lang/UnsupportedOperationException", fun _ => rfl, by simp, by decide +kernel⟩)
  (try dsimp only at a2)
  have eF : F_X8_pass g σ = z_fC (F_X8_faultOfPassing g) (fun σ => F_X4_handOver 0 (F_X8_team0 g σ) σ) σ := by
    unfold F_X8_pass z_fC
    (try dsimp only [q_L])
    cases hr : F_X8_raise (F_X8_faultOfPassing g σ).1 (F_X8_faultOfPassing g σ).2 with
    | none =>
      obtain ⟨a4, a5⟩ := a2 hr
      (try dsimp only [q_L])
      rw [z_tw a5.1]
    | some E => rfl
  have hP : P_X8_pass g σ := by
    refine fun σ1 h1 => h1 ▸ fun r hr => ?_
    cases r with
    | none =>
      obtain ⟨a4, a5⟩ := a2 hr
      refine ⟨a4, ?_⟩
      intro σ3 h3 r hr
      subst h3
      rw [z_tw a5.1] at hr
      subst hr
      exact ⟨a5.2, trivial⟩
    | some E => trivial
  have eW : W_pass g σ = (c, ω) := by
    rw [← w1, ← eF]
    unfold W_pass z_fW
    rcases F_X8_pass g σ with ⟨x | x, τ⟩ <;> rfl
  have hPM : P_X9_pass g ω := ⟨w2, fun σ1 e1 => by subst e1; exact ⟨w3, fun σ3 e3 => by subst e3; exact ⟨w4, trivial⟩⟩⟩
  have eM : F_X9_pass g ω = z_fM (F_X9_passes g) ω := by
    unfold F_X9_pass z_fM q_L
    exact Prod.eta _
  unfold sim_pass q_SimI to_pass
  rw [eW]
  dsimp only
  rw [eM]
  exact ⟨⟨⟨hP, fun E q => a3 E (by rw [← eF]; exact q)⟩, hPM, w5, fun q => (w6 q).1⟩, w7⟩
theorem sq_drop {k : Nat} {σ : q_M} (hk : k < 512) (hI : z_Inv k σ) (g : Int32) (v : Int32) : sim_drop g v σ ∧ z_Inv (k + 1) (to_drop g v σ) := by
  obtain ⟨b, t, nw, sz, hb, ht, sb, st, hJ⟩ := hI
  have hV := hJ.2.2.2.2.1
  obtain ⟨a1, a2, a3, c, ω, w1, w2, w3, w4, w5, w6, wM, w7⟩ := z_face nx_drop (by decide) hJ (z_drop hV g v) rfl (fun c h1 h2 => by
    rcases (show c = 1 ∨ c = 2 ∨ c = 3 by omega) with rfl | rfl | rfl
    · exact ⟨"java/lang/IndexOutOfBoundsException", fun _ => rfl, by simp, by decide +kernel⟩
    · exact ⟨"java/lang/IllegalArgumentException", fun _ => rfl, by simp, by decide +kernel⟩
    · exact ⟨"java/lang/IllegalStateException", fun _ => rfl, by simp, by decide +kernel⟩)
  (try dsimp only at a2)
  have eF : F_X8_drop g v σ = z_fC (fun σ => (F_X4_faultOfDropping 0 g v σ, σ)) (fun σ => F_X4_dropQuill 0 (F_X8_team0 g σ) v σ) σ := by
    unfold F_X8_drop z_fC
    (try dsimp only [q_L])
    cases hr : F_X8_raise (F_X4_faultOfDropping 0 g v σ) σ with
    | none =>
      obtain ⟨a4, a5⟩ := a2 hr
      (try dsimp only [q_L])
      rw [z_tw a5]
    | some E => rfl
  have hP : P_X8_drop g v σ := by
    refine fun r hr => ?_
    cases r with
    | none =>
      obtain ⟨a4, a5⟩ := a2 hr
      exact ⟨a4, trivial⟩
    | some E => trivial
  have eW : W_drop g v σ = (c, ω) := by
    rw [← w1, ← eF]
    unfold W_drop z_fW
    rcases F_X8_drop g v σ with ⟨x | x, τ⟩ <;> rfl
  have hPM : P_X9_drop g v ω := ⟨w2, fun σ1 e1 => by subst e1; exact ⟨w3, fun σ3 e3 => by subst e3; exact ⟨w4, trivial⟩⟩⟩
  have eM : F_X9_drop g v ω = z_fM (F_X9_drops g v) ω := by
    unfold F_X9_drop z_fM q_L
    exact Prod.eta _
  unfold sim_drop q_SimI to_drop
  rw [eW]
  dsimp only
  rw [eM]
  exact ⟨⟨⟨hP, fun E q => a3 E (by rw [← eF]; exact q)⟩, hPM, w5, fun q => (w6 q).1⟩, w7⟩
theorem sq_withdraw {k : Nat} {σ : q_M} (hk : k < 512) (hI : z_Inv k σ) (g : Int32) : sim_withdraw g σ ∧ z_Inv (k + 1) (to_withdraw g σ) := by
  obtain ⟨b, t, nw, sz, hb, ht, sb, st, hJ⟩ := hI
  have hV := hJ.2.2.2.2.1
  obtain ⟨a1, a2, a3, c, ω, w1, w2, w3, w4, w5, w6, wM, w7⟩ := z_face nx_withdraw (by decide) hJ (z_quit hV g) rfl (fun c h1 h2 => by
    rcases (show c = 1 ∨ c = 2 by omega) with rfl | rfl
    · exact ⟨"java/lang/IndexOutOfBoundsException", fun _ => rfl, by simp, by decide +kernel⟩
    · exact ⟨"java/lang/IllegalStateException", fun _ => rfl, by simp, by decide +kernel⟩)
  (try dsimp only at a2)
  have eF : F_X8_withdraw g σ = z_fC (fun σ => (F_X4_faultOfWithdrawing 0 g σ, σ)) (fun σ => (F_X4_countRunning 0 (q_up σ (F_X8_team0 g σ) 3 4), q_up σ (F_X8_team0 g σ) 3 4)) σ := by
    unfold F_X8_withdraw z_fC
    (try dsimp only [q_L])
    cases hr : F_X8_raise (F_X4_faultOfWithdrawing 0 g σ) σ with
    | none =>
      obtain ⟨a4, a5⟩ := a2 hr
      (try dsimp only [q_L])
      rw [z_tw a5.1]
    | some E => rfl
  have hP : P_X8_withdraw g σ := by
    refine fun r hr => ?_
    cases r with
    | none =>
      obtain ⟨a4, a5⟩ := a2 hr
      refine ⟨a4, ?_⟩
      intro σ3 h3 r hr
      subst h3
      rw [z_tw a5.1] at hr
      subst hr
      intro σ7 h7
      subst h7
      exact ⟨a5.2, trivial⟩
    | some E => trivial
  have eW : W_withdraw g σ = (c, ω) := by
    rw [← w1, ← eF]
    unfold W_withdraw z_fW
    rcases F_X8_withdraw g σ with ⟨x | x, τ⟩ <;> rfl
  have hPM : P_X9_withdraw g ω := ⟨w2, fun σ1 e1 => by subst e1; exact ⟨w3, fun σ3 e3 => by subst e3; exact ⟨w4, trivial⟩⟩⟩
  have eM : F_X9_withdraw g ω = z_fM (F_X9_leaves g) ω := by
    unfold F_X9_withdraw z_fM q_L
    exact Prod.eta _
  unfold sim_withdraw q_SimI to_withdraw
  rw [eW]
  dsimp only
  rw [eM]
  exact ⟨⟨⟨hP, fun E q => a3 E (by rw [← eF]; exact q)⟩, hPM, w5, fun q => (w6 q).1⟩, w7⟩
theorem sq_protest {k : Nat} {σ : q_M} (hk : k < 512) (hI : z_Inv k σ) (g : Int32) (h : Int32) (v : Int32) : sim_protest g h v σ ∧ z_Inv (k + 1) (to_protest g h v σ) := by
  obtain ⟨b, t, nw, sz, hb, ht, sb, st, hJ⟩ := hI
  have hV := hJ.2.2.2.2.1
  obtain ⟨a1, a2, a3, c, ω, w1, w2, w3, w4, w5, w6, wM, w7⟩ := z_face nx_protest (by decide) hJ (z_protest hV g h v) rfl (fun c h1 h2 => by
    rcases (show c = 1 ∨ c = 2 ∨ c = 3 by omega) with rfl | rfl | rfl
    · exact ⟨"java/lang/IndexOutOfBoundsException", fun _ => rfl, by simp, by decide +kernel⟩
    · exact ⟨"java/lang/IllegalArgumentException", fun _ => rfl, by simp, by decide +kernel⟩
    · exact ⟨"java/lang/IllegalStateException", fun _ => rfl, by simp, by decide +kernel⟩)
  (try dsimp only at a2)
  have eF : F_X8_protest g h v σ = z_fC (fun σ => (F_X4_faultOfProtesting 0 g h v σ, σ)) (fun σ => F_X4_judge 0 (F_X8_team0 g σ) (F_X8_team0 h σ) v σ) σ := by
    unfold F_X8_protest z_fC
    (try dsimp only [q_L])
    cases hr : F_X8_raise (F_X4_faultOfProtesting 0 g h v σ) σ with
    | none =>
      obtain ⟨a4, a5⟩ := a2 hr
      (try dsimp only [q_L])
      rw [z_tw a5.1, z_tw a5.2.1]
    | some E => rfl
  have hP : P_X8_protest g h v σ := by
    refine fun r hr => ?_
    cases r with
    | none =>
      obtain ⟨a4, a5⟩ := a2 hr
      refine ⟨a4, ?_⟩
      intro σ3 h3 r hr
      subst h3
      rw [z_tw a5.1] at hr
      subst hr
      intro r hr
      rw [z_tw a5.2.1] at hr
      subst hr
      exact ⟨a5.2.2, trivial⟩
    | some E => trivial
  have eW : W_protest g h v σ = (c, ω) := by
    rw [← w1, ← eF]
    unfold W_protest z_fW
    have hx : ∀ x τ, F_X8_protest g h v σ = (.inl x, τ) → (if x = 0 then (0 : Int32) else 1) = x := by
      intro x τ e
      rw [eF] at e
      unfold z_fC at e
      dsimp only at e
      cases hr : F_X8_raise (F_X4_faultOfProtesting 0 g h v σ) σ with
      | none =>
        rw [hr] at e
        injection e with e1 e2
        injection e1 with e1
        rw [← e1]
        rcases z_j01 (F_X8_team0 g (F_X2_push 0 σ)) (F_X8_team0 h (F_X2_push 0 σ)) v (F_X2_push 0 σ) with z | z <;> rw [z] <;> rfl
      | some E =>
        rw [hr] at e
        injection e with e1 e2
        injection e1
    rcases hy : F_X8_protest g h v σ with ⟨x | x, τ⟩
    · have := hx x τ hy
      show ((0 : Int32), q_up τ 237 0 (if x = 0 then 0 else 1)) = (0, q_up τ 237 0 x)
      rw [this]
    · rfl
  have hPM : P_X9_protest g h v ω := ⟨w2, fun σ1 e1 => by subst e1; exact ⟨w3, fun σ3 e3 => by subst e3; exact ⟨w4, trivial⟩⟩⟩
  have eM : (F_X9_protest g h v ω).2 = (z_fM (F_X9_protests g h v) ω).2 ∧ ((F_X9_protest g h v ω).1 = if (z_fM (F_X9_protests g h v) ω).1 = 1 then 1 else 0) := by
    show (if (z_fM (F_X9_protests g h v) ω).1 = 1 then ((1 : Int32), (z_fM (F_X9_protests g h v) ω).2) else (0, (z_fM (F_X9_protests g h v) ω).2)).2 = _ ∧ (if (z_fM (F_X9_protests g h v) ω).1 = 1 then ((1 : Int32), (z_fM (F_X9_protests g h v) ω).2) else (0, (z_fM (F_X9_protests g h v) ω).2)).1 = _
    by_cases q : (z_fM (F_X9_protests g h v) ω).1 = 1
    · rw [if_pos q, if_pos q]; exact ⟨rfl, rfl⟩
    · rw [if_neg q, if_neg q]; exact ⟨rfl, rfl⟩
  unfold sim_protest q_SimB q_SimI to_protest
  rw [eW]
  dsimp only
  rw [eM.1, eM.2]
  refine ⟨⟨⟨⟨hP, fun E q => a3 E (by rw [← eF]; exact q)⟩, hPM, w5, fun q => ?_⟩, ?_⟩, w7⟩
  · obtain ⟨r1, τ, r2⟩ := w6 q
    rw [r1, r2]
    rcases z_j01 (F_X8_team0 g τ) (F_X8_team0 h τ) v τ with z | z <;> rw [z] <;> rfl
  · by_cases q : (z_fM (F_X9_protests g h v) ω).1 = 1
    · rw [if_pos q]; exact .inr rfl
    · rw [if_neg q]; exact .inl rfl
