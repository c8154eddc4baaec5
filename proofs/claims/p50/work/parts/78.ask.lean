/-! The answers in numbers. -/
theorem a_laneOf {k w : Nat} {σ : q_M} {b : Nat → Nat} {t : Nat → Nat → Nat} (hR : z_R σ 0 b t) (hV : z_V k b t) (hw : w < b 3) : P_N8_laneOf (nI w) σ ∧ F_N8_laneOf (nI w) σ = nI (t w 4) := by
  have n6 := hV.n6
  have h6 : w < 6 := by omega
  have hT := hR.te w h6 hw
  have e : F_X8_laneOf (nI w) σ = .inl (nI (t w 4)) := by
    unfold F_X8_laneOf
    rw [z_tw1 hR hV hw]
    exact congrArg Sum.inl hT.ln
  exact ⟨⟨_, e⟩, by unfold F_N8_laneOf; rw [e]; rfl⟩
theorem a_positionOf {k w : Nat} {σ : q_M} {b : Nat → Nat} {t : Nat → Nat → Nat} (hR : z_R σ 0 b t) (hV : z_V k b t) (hw : w < b 3) : P_N8_positionOf (nI w) σ ∧ F_N8_positionOf (nI w) σ = nI (t w 7) := by
  have n6 := hV.n6
  have h6 : w < 6 := by omega
  have hT := hR.te w h6 hw
  have e : F_X8_positionOf (nI w) σ = .inl (nI (t w 7)) := by
    unfold F_X8_positionOf
    rw [z_tw1 hR hV hw]
    exact congrArg Sum.inl hT.ps
  exact ⟨⟨_, e⟩, by unfold F_N8_positionOf; rw [e]; rfl⟩
theorem a_legOf {k w : Nat} {σ : q_M} {b : Nat → Nat} {t : Nat → Nat → Nat} (hR : z_R σ 0 b t) (hV : z_V k b t) (hw : w < b 3) : P_N8_legOf (nI w) σ ∧ F_N8_legOf (nI w) σ = nI (t w 8) := by
  have n6 := hV.n6
  have h6 : w < 6 := by omega
  have hT := hR.te w h6 hw
  have e : F_X8_legOf (nI w) σ = .inl (nI (t w 8)) := by
    unfold F_X8_legOf
    rw [z_tw1 hR hV hw]
    exact congrArg Sum.inl hT.lg
  exact ⟨⟨_, e⟩, by unfold F_N8_legOf; rw [e]; rfl⟩
theorem a_standingOf {k w : Nat} {σ : q_M} {b : Nat → Nat} {t : Nat → Nat → Nat} (hR : z_R σ 0 b t) (hV : z_V k b t) (hw : w < b 3) : P_N8_standingOf (nI w) σ ∧ F_N8_standingOf (nI w) σ = nI (t w 10) := by
  have n6 := hV.n6
  have h6 : w < 6 := by omega
  have hT := hR.te w h6 hw
  have e : F_X8_standingOf (nI w) σ = .inl (nI (t w 10)) := by
    unfold F_X8_standingOf
    rw [z_tw1 hR hV hw]
    exact congrArg Sum.inl hT.sd
  exact ⟨⟨_, e⟩, by unfold F_N8_standingOf; rw [e]; rfl⟩
theorem a_penaltyOf {k w : Nat} {σ : q_M} {b : Nat → Nat} {t : Nat → Nat → Nat} (hR : z_R σ 0 b t) (hV : z_V k b t) (hw : w < b 3) : P_N8_penaltyOf (nI w) σ ∧ F_N8_penaltyOf (nI w) σ = nI (t w 5) := by
  have n6 := hV.n6
  have h6 : w < 6 := by omega
  have hT := hR.te w h6 hw
  have e : F_X8_penaltyOf (nI w) σ = .inl (nI (t w 5)) := by
    unfold F_X8_penaltyOf
    rw [z_tw1 hR hV hw]
    exact congrArg Sum.inl hT.pn
  exact ⟨⟨_, e⟩, by unfold F_N8_penaltyOf; rw [e]; rfl⟩
theorem a_isRunning {k w : Nat} {σ : q_M} {b : Nat → Nat} {t : Nat → Nat → Nat} (hR : z_R σ 0 b t) (hV : z_V k b t) (hw : w < b 3) : P_N8_isRunning (nI w) σ ∧ F_N8_isRunning (nI w) σ = if t w 6 = 1 then 1 else 0 := by
  have n6 := hV.n6
  have h6 : w < 6 := by omega
  have hT := hR.te w h6 hw
  have e : F_X8_isRunning (nI w) σ = .inl (if t w 6 = 1 then 1 else 0) := by
    unfold F_X8_isRunning
    rw [z_tw1 hR hV hw]
    have hst := (hV.te w hw).st
    dsimp only
    have e9 : (σ (0 + 2 + 3 * w) 3 = 2) = (t w 6 + 1 = 2) := by rw [hT.st, z_l2, z_eq (by omega) (by decide)]
    by_cases q : t w 6 = 1
    · rw [if_pos q, if_pos (by rw [e9]; omega)]
    · rw [if_neg q, if_neg (by rw [e9]; omega)]
  exact ⟨⟨_, e⟩, by unfold F_N8_isRunning; rw [e]; rfl⟩
theorem a_isInZone {k w : Nat} {σ : q_M} {b : Nat → Nat} {t : Nat → Nat → Nat} (hR : z_R σ 0 b t) (hV : z_V k b t) (hw : w < b 3) : P_N8_isInZone (nI w) σ ∧ F_N8_isInZone (nI w) σ = nI (if z_zone (b 0) (t w) then 1 else 0) := by
  have n6 := hV.n6
  have h6 : w < 6 := by omega
  have hT := hR.te w h6 hw
  have e : F_X8_isInZone (nI w) σ = .inl (nI (if z_zone (b 0) (t w) then 1 else 0)) := by
    unfold F_X8_isInZone
    rw [z_tw1 hR hV hw]
    rw [hR.ll]
    exact congrArg Sum.inl (z_zoneC hT (hV.te w hw) hV.l0 hV.l1)
  exact ⟨⟨_, e⟩, by unfold F_N8_isInZone; rw [e]; rfl⟩
theorem a_hasFoul {k w : Nat} {σ : q_M} {b : Nat → Nat} {t : Nat → Nat → Nat} (hR : z_R σ 0 b t) (hV : z_V k b t) (hw : w < b 3) {l : Nat} (hl : l < 2) : P_N8_hasFoul (nI w) (nI l) σ ∧ F_N8_hasFoul (nI w) (nI l) σ = nI (t w (11 + l)) := by
  have n6 := hV.n6
  have h6 : w < 6 := by omega
  have hT := hR.te w h6 hw
  have hW := hV.te w hw
  obtain ⟨cp, ce⟩ := z_cmt hT hl hW.lf hW.df
  have ea : ¬ F_X8_isKind (nI l) σ = 0 := by
    rcases (show l = 0 ∨ l = 1 by omega) with rfl | rfl <;> (unfold F_X8_isKind; decide +kernel)
  have hx : t w (11 + l) ≤ 1 := by
    rcases (show l = 0 ∨ l = 1 by omega) with rfl | rfl
    · exact hW.lf
    · exact hW.df
  have e : F_X8_hasFoul (nI w) (nI l) σ = .inl (nI (t w (11 + l))) := by
    unfold F_X8_hasFoul
    simp only [z_tw1 hR hV hw]
    rw [if_neg ea, ce]
  refine ⟨⟨fun r hr => ?_, _, e⟩, by unfold F_N8_hasFoul; rw [e]; rfl⟩
  rw [z_tw1 hR hV hw] at hr
  subst hr
  exact ⟨fun _ => trivial, fun _ => ⟨cp, by rw [ce]; exact z_01or hx, trivial⟩⟩
theorem a_isLeg {l : Nat} (hl : l < 4) (σ : q_M) : F_X8_isLeg (nI l) σ = 1 := by
  unfold F_X8_isLeg
  rcases (show l = 0 ∨ l = 1 ∨ l = 2 ∨ l = 3 by omega) with rfl | rfl | rfl | rfl <;> decide +kernel
theorem a_twl {k w : Nat} {σ : q_M} {b : Nat → Nat} {t : Nat → Nat → Nat} (hR : z_R σ 0 b t) (hV : z_V k b t) (hw : w < b 3) {l : Nat} (hl : l < 4) : F_X8_teamWithLeg (nI w) (nI l) σ = .inl (0 + 2 + 3 * w) := by
  unfold F_X8_teamWithLeg
  simp only [z_tw1 hR hV hw, a_isLeg hl, z_10, if_false]
theorem a_speedOf {k w : Nat} {σ : q_M} {b : Nat → Nat} {t : Nat → Nat → Nat} (hR : z_R σ 0 b t) (hV : z_V k b t) (hw : w < b 3) {l : Nat} (hl : l < 4) : P_N8_speedOf (nI w) (nI l) σ ∧ F_N8_speedOf (nI w) (nI l) σ = nI (t w l) := by
  have n6 := hV.n6
  have h6 : w < 6 := by omega
  have hT := hR.te w h6 hw
  have e : F_X8_speedOf (nI w) (nI l) σ = .inl (nI (t w l)) := by
    unfold F_X8_speedOf
    simp only [a_twl hR hV hw hl]
    unfold F_X6_speedOn
    rw [z_at (z_len (by omega)) hl, hT.sp l hl]
  refine ⟨⟨fun r hr => ?_, _, e⟩, by unfold F_N8_speedOf; rw [e]; rfl⟩
  rw [a_twl hR hV hw hl] at hr
  subst hr
  exact ⟨⟨z_atX (by omega), trivial⟩, trivial⟩
theorem a_splitOf {k w : Nat} {σ : q_M} {b : Nat → Nat} {t : Nat → Nat → Nat} (hR : z_R σ 0 b t) (hV : z_V k b t) (hw : w < b 3) {l : Nat} (hl : l < 4) : Q_splitOf (nI w) (nI l) σ ∧ W_splitOf (nI w) (nI l) σ = if 1 ≤ t w (14 + l) then nI (t w (14 + l) - 1) else -900002 := by
  have n6 := hV.n6
  have h6 : w < 6 := by omega
  have hT := hR.te w h6 hw
  have hW := hV.te w hw
  have hst := hW.st
  have hs := hW.sl l hl
  have h8 := hW.lg
  have hP : P_X8_splitOf (nI w) (nI l) σ := by
    intro r hr
    rw [a_twl hR hV hw hl] at hr
    subst hr
    exact ⟨fun _ => trivial, fun _ => ⟨z_atX (by omega), trivial⟩⟩
  have hE : F_X6_hasEnded (0 + 2 + 3 * w) (nI l) σ = nI (if 1 ≤ t w (14 + l) then 1 else 0) := by
    unfold F_X6_hasEnded
    rw [hT.lg, hT.st, z_l3]
    simp (disch := omega) only [z_lt, z_eq]
    by_cases q : l < t w 8
    · rw [if_pos q, if_pos (by omega)]; rfl
    · rw [if_neg q]
      by_cases q2 : t w 6 + 1 = 3
      · rw [if_pos q2, if_pos (by omega)]; rfl
      · rw [if_neg q2, if_neg (by omega)]; rfl
  by_cases q : 1 ≤ t w (14 + l)
  · rw [if_pos q] at hE ⊢
    have hE : F_X6_hasEnded (0 + 2 + 3 * w) (nI l) σ = 1 := hE
    have e : F_X8_splitOf (nI w) (nI l) σ = .inl (nI (t w (14 + l) - 1)) := by
      unfold F_X8_splitOf
      simp only [a_twl hR hV hw hl, hE, z_10, if_false]
      rw [z_at (z_len (by omega)) hl, hT.sl l hl]
    exact ⟨⟨hP, fun E q => by rw [e] at q; injection q⟩, by unfold W_splitOf; rw [e]⟩
  · rw [if_neg q] at hE ⊢
    have hE : F_X6_hasEnded (0 + 2 + 3 * w) (nI l) σ = 0 := hE
    have e : F_X8_splitOf (nI w) (nI l) σ = .inr "java/util/NoSuchElementException" := by
      unfold F_X8_splitOf
      simp only [a_twl hR hV hw hl, hE, if_true]
    refine ⟨⟨hP, fun E q => by rw [e] at q; injection q with q; rw [← q]; simp⟩, ?_⟩
    unfold W_splitOf
    rw [e]
    show q_code nc_splitOf "java/util/NoSuchElementException" = _
    decide +kernel
theorem a_fin {k w : Nat} {σ : q_M} {b : Nat → Nat} {t : Nat → Nat → Nat} (hR : z_R σ 0 b t) (hV : z_V k b t) (hw : w < b 3) : F_X8_finishedTeamWith (nI w) σ = if t w 6 = 2 then .inl (0 + 2 + 3 * w) else .inr "java/util/NoSuchElementException" := by
  have n6 := hV.n6
  have h6 : w < 6 := by omega
  have hT := hR.te w h6 hw
  have hst := (hV.te w hw).st
  unfold F_X8_finishedTeamWith
  simp only [z_tw1 hR hV hw]
  have e9 : (σ (0 + 2 + 3 * w) 3 = 3) = (t w 6 + 1 = 3) := by rw [hT.st, z_l3, z_eq (by omega) (by decide)]
  by_cases q : t w 6 = 2
  · rw [if_pos q, if_pos (by rw [e9]; omega)]
  · rw [if_neg q, if_neg (by rw [e9]; omega)]
theorem a_timeOf {k w : Nat} {σ : q_M} {b : Nat → Nat} {t : Nat → Nat → Nat} (hR : z_R σ 0 b t) (hV : z_V k b t) (hw : w < b 3) : Q_timeOf (nI w) σ ∧ W_timeOf (nI w) σ = if t w 6 = 2 then nI (t w 18) else -900002 := by
  have n6 := hV.n6
  have h6 : w < 6 := by omega
  have hT := hR.te w h6 hw
  have ef := a_fin hR hV hw
  by_cases q : t w 6 = 2
  · rw [if_pos q] at ef ⊢
    have e : F_X8_timeOf (nI w) σ = .inl (nI (t w 18)) := by
      unfold F_X8_timeOf
      rw [ef]
      exact congrArg Sum.inl hT.tm
    exact ⟨fun E q => by rw [e] at q; injection q, by unfold W_timeOf; rw [e]⟩
  · rw [if_neg q] at ef ⊢
    have e : F_X8_timeOf (nI w) σ = .inr "java/util/NoSuchElementException" := by
      unfold F_X8_timeOf
      rw [ef]
    refine ⟨fun E q => by rw [e] at q; injection q with q; rw [← q]; simp, ?_⟩
    unfold W_timeOf
    rw [e]
    show q_code nc_timeOf "java/util/NoSuchElementException" = _
    decide +kernel
theorem a_resultOf {k w : Nat} {σ : q_M} {b : Nat → Nat} {t : Nat → Nat → Nat} (hR : z_R σ 0 b t) (hV : z_V k b t) (hw : w < b 3) (h2 : t w 6 = 2) : Q_resultOf (nI w) σ ∧ W_resultOf (nI w) σ = nI (t w 18 + t w 5) := by
  have n6 := hV.n6
  have h6 : w < 6 := by omega
  have hT := hR.te w h6 hw
  have ef := a_fin hR hV hw
  rw [if_pos h2] at ef
  have e : F_X8_resultOf (nI w) σ = .inl (nI (t w 18 + t w 5)) := by
    unfold F_X8_resultOf
    rw [ef]
    dsimp only
    unfold F_X6_result
    rw [hT.tm, hT.pn, z_add]
  exact ⟨fun E q => by rw [e] at q; injection q, by unfold W_resultOf; rw [e]⟩
theorem a_count {k : Nat} {σ : q_M} {b : Nat → Nat} {t : Nat → Nat → Nat} (hR : z_R σ 0 b t) (hV : z_V k b t) : P_X8_teamCount σ ∧ F_X8_teamCount σ = nI (b 3) := by
  obtain ⟨p, e⟩ := z_entered hV.n6 hV.stt hR
  exact ⟨⟨p, trivial⟩, e⟩
theorem a_running {k : Nat} {σ : q_M} {b : Nat → Nat} {t : Nat → Nat → Nat} (hR : z_R σ 0 b t) (hV : z_V k b t) : P_X8_runningCount σ ∧ F_X8_runningCount σ = nI (z_sm (z_is t 1) 0 (b 3)) := by
  obtain ⟨p, e⟩ := z_running hV.n6 hV.stt hR
  exact ⟨⟨p, trivial⟩, e⟩
theorem a_started {k : Nat} {σ : q_M} {b : Nat → Nat} {t : Nat → Nat → Nat} (hR : z_R σ 0 b t) (hV : z_V k b t) : P_X8_isStarted σ ∧ F_X8_isStarted σ = nI (b 1) := by
  refine ⟨⟨?_, trivial⟩, hR.bg⟩
  rw [hR.bg]
  exact z_01or hV.bg
