/-! Questions. -/
def z_ans (nx : List String) (fC : Int32 ⊕ String) (PM : q_M → Prop) (FM : q_M → Int32 × q_M) (b : Nat → Nat) (t : Nat → Nat → Nat) (Q : Int32 → Prop) : Prop :=
  (∃ v, fC = .inl v ∧ Q v ∧ ∀ τ, z_M τ b t → PM τ ∧ FM τ = (v, q_up τ 229 5 0)) ∨ (∃ E c x, fC = .inr E ∧ Q x ∧ E ∈ nx ∧ q_code nx E = nI c ∧ 1 ≤ c ∧ c ≤ 3 ∧ ∀ τ, z_M τ b t → PM τ ∧ FM τ = (x, q_up τ 229 5 (nI c)))
theorem z_ask {k : Nat} {σ : q_M} {b : Nat → Nat} {t : Nat → Nat → Nat} {nw sz : Nat} {hb : Nat → Nat → Nat} {ht : Nat → Nat → Nat → Nat} {sb : Nat → Nat} {st : Nat → Nat → Nat} {nx : List String} {fC : Int32 ⊕ String} {PM : q_M → Prop} {FM : q_M → Int32 × q_M} {Q : Int32 → Prop} (hJ : z_J (31 * k) σ b t nw sz hb ht sb st) (ha : z_ans nx fC PM FM b t Q) (W : Int32 × q_M) (hl : ∀ v, fC = .inl v → Q v → W = (0, q_up σ 237 0 v)) (hr : ∀ E, fC = .inr E → W = (q_code nx E, σ)) : (∀ E, fC = .inr E → E ∈ nx) ∧ PM W.2 ∧ (FM W.2).2 229 5 = W.1 ∧ (W.1 = 0 → (FM W.2).2 237 0 = (FM W.2).1) ∧ Q (FM W.2).1 ∧ z_Inv (k + 1) (FM W.2).2 := by
  have hM := hJ.2.2.2.1
  rcases ha with ⟨v, e1, e2, e3⟩ | ⟨E, c, x, e1, e2, e3, e4, e5, e6, e7⟩
  · rw [hl v e1 e2]
    have hM1 : z_M (q_up σ 237 0 v) b t := hM.off (q_up_off (by decide))
    obtain ⟨f1, f2⟩ := e3 _ hM1
    dsimp only
    rw [f2]
    refine ⟨fun E q => by rw [e1] at q; injection q, f1, (by dsimp only; exact q_up_eq _ _ _ _), fun _ => ?_, e2, ?_⟩
    · dsimp only
      rw [q_up_nk (by decide), q_up_eq]
    · exact ⟨b, t, nw, sz, hb, ht, sb, st, hJ.sm (by omega) (fun a _ a1 _ _ a4 _ => by dsimp only; rw [q_up_off a1, q_up_off a4]) (fun j j5 _ _ _ => by dsimp only; rw [q_up_nj j5, q_up_nk (by decide)])⟩
  · rw [hr E e1, e4]
    obtain ⟨f1, f2⟩ := e7 _ hM
    dsimp only
    rw [f2]
    refine ⟨fun E' q => by rw [e1] at q; injection q with q; rw [← q]; exact e3, f1, (by dsimp only; exact q_up_eq _ _ _ _), fun q => absurd q (nI_ne0 (by omega) (by omega)), e2, ?_⟩
    exact ⟨b, t, nw, sz, hb, ht, sb, st, hJ.sm (by omega) (fun a _ a1 _ _ a4 _ => q_up_off a1) (fun j j5 _ _ _ => q_up_nj j5)⟩
theorem z_01i {v : Int32} (h : v = 0 ∨ v = 1) : (if v = 0 then (0 : Int32) else 1) = v := by
  rcases h with h | h <;> rw [h] <;> rfl
theorem z_tw1 {k w : Nat} {σ : q_M} {b : Nat → Nat} {t : Nat → Nat → Nat} (hR : z_R σ 0 b t) (hV : z_V k b t) (hw : w < b 3) : F_X8_teamWith (nI w) σ = .inl (0 + 2 + 3 * w) := by
  obtain ⟨e0, e1⟩ := z_tm0 hR hV hw
  rw [z_tw e1, e0]
theorem z_tw0 {g : Int32} {σ : q_M} {b : Nat → Nat} {t : Nat → Nat → Nat} (hR : z_R σ 0 b t) (hg : ¬ ∃ w, w < b 3 ∧ g = nI w) : F_X8_teamWith g σ = .inr "java/lang/IndexOutOfBoundsException" := by
  unfold F_X8_teamWith
  rw [z_none hR hg]
theorem sq_laneOf {k : Nat} {σ : q_M} (hk : k < 512) (hI : z_Inv k σ) (g : Int32) : sim_laneOf g σ ∧ z_Inv (k + 1) (to_laneOf g σ) := by
  obtain ⟨b, t, nw, sz, hb, ht, sb, st, hJ⟩ := hI
  have hR := hJ.1
  have hV := hJ.2.2.2.2.1
  have n6 := hV.n6
  have l0 := hV.l0
  have l1 := hV.l1
  have hck := hV.ck
  have ha : z_ans nx_laneOf (F_X8_laneOf g σ) (P_X9_laneOf g) (F_X9_laneOf g) b t (fun v => True) := by
    by_cases hg : ∃ w, w < b 3 ∧ g = nI w
    · obtain ⟨w, hw, rfl⟩ := hg
      have h6 : w < 6 := by omega
      have hT := hR.te w h6 hw
      have hW := hV.te w hw
      have hst := hW.st
      refine .inl ⟨nI (t w 4), by unfold F_X8_laneOf; rw [z_tw1 hR hV hw]; exact congrArg Sum.inl hT.ln, trivial, fun τ hM => ?_⟩
      have hM1 : z_M (q_up τ 229 5 0) b t := hM.u9
      simp only [P_X9_laneOf, F_X9_laneOf, P_X9_ofTeam, F_X9_ofTeam, z_isT hM hw n6, z_10, if_false, q_L, forall_eq', hM1.o4 h6]
      exact ⟨⟨⟨fun q => q.elim, fun _ => ⟨z_p4 h6, trivial⟩⟩, trivial⟩, trivial⟩
    · refine .inr ⟨"java/lang/IndexOutOfBoundsException", 1, 0, by unfold F_X8_laneOf; rw [z_tw0 hR hg], trivial, by simp, by decide +kernel, by decide, by decide, fun τ hM => ?_⟩
      simp only [P_X9_laneOf, F_X9_laneOf, P_X9_ofTeam, F_X9_ofTeam, z_noT hM n6 hg, if_true, q_L]
      exact ⟨⟨⟨fun _ => trivial, fun q => absurd trivial q⟩, trivial⟩, rfl⟩
  obtain ⟨c1, c2, c3, c4, cQ, c5⟩ := z_ask hJ ha (W_laneOf g σ) (fun v e q => by unfold W_laneOf; rw [e]) (fun E e => by unfold W_laneOf; rw [e])
  unfold sim_laneOf q_SimI to_laneOf
  exact ⟨⟨c1, c2, c3, c4⟩, c5⟩
theorem sq_positionOf {k : Nat} {σ : q_M} (hk : k < 512) (hI : z_Inv k σ) (g : Int32) : sim_positionOf g σ ∧ z_Inv (k + 1) (to_positionOf g σ) := by
  obtain ⟨b, t, nw, sz, hb, ht, sb, st, hJ⟩ := hI
  have hR := hJ.1
  have hV := hJ.2.2.2.2.1
  have n6 := hV.n6
  have l0 := hV.l0
  have l1 := hV.l1
  have hck := hV.ck
  have ha : z_ans nx_positionOf (F_X8_positionOf g σ) (P_X9_positionOf g) (F_X9_positionOf g) b t (fun v => True) := by
    by_cases hg : ∃ w, w < b 3 ∧ g = nI w
    · obtain ⟨w, hw, rfl⟩ := hg
      have h6 : w < 6 := by omega
      have hT := hR.te w h6 hw
      have hW := hV.te w hw
      have hst := hW.st
      refine .inl ⟨nI (t w 7), by unfold F_X8_positionOf; rw [z_tw1 hR hV hw]; exact congrArg Sum.inl hT.ps, trivial, fun τ hM => ?_⟩
      have hM1 : z_M (q_up τ 229 5 0) b t := hM.u9
      simp only [P_X9_positionOf, F_X9_positionOf, P_X9_ofTeam, F_X9_ofTeam, z_isT hM hw n6, z_10, if_false, q_L, forall_eq', hM1.o7 h6]
      exact ⟨⟨⟨fun q => q.elim, fun _ => ⟨z_p7 h6, trivial⟩⟩, trivial⟩, trivial⟩
    · refine .inr ⟨"java/lang/IndexOutOfBoundsException", 1, 0, by unfold F_X8_positionOf; rw [z_tw0 hR hg], trivial, by simp, by decide +kernel, by decide, by decide, fun τ hM => ?_⟩
      simp only [P_X9_positionOf, F_X9_positionOf, P_X9_ofTeam, F_X9_ofTeam, z_noT hM n6 hg, if_true, q_L]
      exact ⟨⟨⟨fun _ => trivial, fun q => absurd trivial q⟩, trivial⟩, rfl⟩
  obtain ⟨c1, c2, c3, c4, cQ, c5⟩ := z_ask hJ ha (W_positionOf g σ) (fun v e q => by unfold W_positionOf; rw [e]) (fun E e => by unfold W_positionOf; rw [e])
  unfold sim_positionOf q_SimI to_positionOf
  exact ⟨⟨c1, c2, c3, c4⟩, c5⟩
theorem sq_legOf {k : Nat} {σ : q_M} (hk : k < 512) (hI : z_Inv k σ) (g : Int32) : sim_legOf g σ ∧ z_Inv (k + 1) (to_legOf g σ) := by
  obtain ⟨b, t, nw, sz, hb, ht, sb, st, hJ⟩ := hI
  have hR := hJ.1
  have hV := hJ.2.2.2.2.1
  have n6 := hV.n6
  have l0 := hV.l0
  have l1 := hV.l1
  have hck := hV.ck
  have ha : z_ans nx_legOf (F_X8_legOf g σ) (P_X9_legOf g) (F_X9_legOf g) b t (fun v => True) := by
    by_cases hg : ∃ w, w < b 3 ∧ g = nI w
    · obtain ⟨w, hw, rfl⟩ := hg
      have h6 : w < 6 := by omega
      have hT := hR.te w h6 hw
      have hW := hV.te w hw
      have hst := hW.st
      refine .inl ⟨nI (t w 8), by unfold F_X8_legOf; rw [z_tw1 hR hV hw]; exact congrArg Sum.inl hT.lg, trivial, fun τ hM => ?_⟩
      have hM1 : z_M (q_up τ 229 5 0) b t := hM.u9
      simp only [P_X9_legOf, F_X9_legOf, P_X9_ofTeam, F_X9_ofTeam, z_isT hM hw n6, z_10, if_false, q_L, forall_eq', hM1.o8 h6]
      exact ⟨⟨⟨fun q => q.elim, fun _ => ⟨z_p8 h6, trivial⟩⟩, trivial⟩, trivial⟩
    · refine .inr ⟨"java/lang/IndexOutOfBoundsException", 1, 0, by unfold F_X8_legOf; rw [z_tw0 hR hg], trivial, by simp, by decide +kernel, by decide, by decide, fun τ hM => ?_⟩
      simp only [P_X9_legOf, F_X9_legOf, P_X9_ofTeam, F_X9_ofTeam, z_noT hM n6 hg, if_true, q_L]
      exact ⟨⟨⟨fun _ => trivial, fun q => absurd trivial q⟩, trivial⟩, rfl⟩
  obtain ⟨c1, c2, c3, c4, cQ, c5⟩ := z_ask hJ ha (W_legOf g σ) (fun v e q => by unfold W_legOf; rw [e]) (fun E e => by unfold W_legOf; rw [e])
  unfold sim_legOf q_SimI to_legOf
  exact ⟨⟨c1, c2, c3, c4⟩, c5⟩
theorem sq_standingOf {k : Nat} {σ : q_M} (hk : k < 512) (hI : z_Inv k σ) (g : Int32) : sim_standingOf g σ ∧ z_Inv (k + 1) (to_standingOf g σ) := by
  obtain ⟨b, t, nw, sz, hb, ht, sb, st, hJ⟩ := hI
  have hR := hJ.1
  have hV := hJ.2.2.2.2.1
  have n6 := hV.n6
  have l0 := hV.l0
  have l1 := hV.l1
  have hck := hV.ck
  have ha : z_ans nx_standingOf (F_X8_standingOf g σ) (P_X9_standingOf g) (F_X9_standingOf g) b t (fun v => True) := by
    by_cases hg : ∃ w, w < b 3 ∧ g = nI w
    · obtain ⟨w, hw, rfl⟩ := hg
      have h6 : w < 6 := by omega
      have hT := hR.te w h6 hw
      have hW := hV.te w hw
      have hst := hW.st
      refine .inl ⟨nI (t w 10), by unfold F_X8_standingOf; rw [z_tw1 hR hV hw]; exact congrArg Sum.inl hT.sd, trivial, fun τ hM => ?_⟩
      have hM1 : z_M (q_up τ 229 5 0) b t := hM.u9
      simp only [P_X9_standingOf, F_X9_standingOf, P_X9_ofTeam, F_X9_ofTeam, z_isT hM hw n6, z_10, if_false, q_L, forall_eq', hM1.o10 h6]
      exact ⟨⟨⟨fun q => q.elim, fun _ => ⟨z_p10 h6, trivial⟩⟩, trivial⟩, trivial⟩
    · refine .inr ⟨"java/lang/IndexOutOfBoundsException", 1, 0, by unfold F_X8_standingOf; rw [z_tw0 hR hg], trivial, by simp, by decide +kernel, by decide, by decide, fun τ hM => ?_⟩
      simp only [P_X9_standingOf, F_X9_standingOf, P_X9_ofTeam, F_X9_ofTeam, z_noT hM n6 hg, if_true, q_L]
      exact ⟨⟨⟨fun _ => trivial, fun q => absurd trivial q⟩, trivial⟩, rfl⟩
  obtain ⟨c1, c2, c3, c4, cQ, c5⟩ := z_ask hJ ha (W_standingOf g σ) (fun v e q => by unfold W_standingOf; rw [e]) (fun E e => by unfold W_standingOf; rw [e])
  unfold sim_standingOf q_SimI to_standingOf
  exact ⟨⟨c1, c2, c3, c4⟩, c5⟩
theorem sq_penaltyOf {k : Nat} {σ : q_M} (hk : k < 512) (hI : z_Inv k σ) (g : Int32) : sim_penaltyOf g σ ∧ z_Inv (k + 1) (to_penaltyOf g σ) := by
  obtain ⟨b, t, nw, sz, hb, ht, sb, st, hJ⟩ := hI
  have hR := hJ.1
  have hV := hJ.2.2.2.2.1
  have n6 := hV.n6
  have l0 := hV.l0
  have l1 := hV.l1
  have hck := hV.ck
  have ha : z_ans nx_penaltyOf (F_X8_penaltyOf g σ) (P_X9_penaltyOf g) (F_X9_penaltyOf g) b t (fun v => True) := by
    by_cases hg : ∃ w, w < b 3 ∧ g = nI w
    · obtain ⟨w, hw, rfl⟩ := hg
      have h6 : w < 6 := by omega
      have hT := hR.te w h6 hw
      have hW := hV.te w hw
      have hst := hW.st
      refine .inl ⟨nI (t w 5), by unfold F_X8_penaltyOf; rw [z_tw1 hR hV hw]; exact congrArg Sum.inl hT.pn, trivial, fun τ hM => ?_⟩
      have hM1 : z_M (q_up τ 229 5 0) b t := hM.u9
      simp only [P_X9_penaltyOf, F_X9_penaltyOf, P_X9_ofTeam, F_X9_ofTeam, z_isT hM hw n6, z_10, if_false, q_L, forall_eq', hM1.o5 h6]
      exact ⟨⟨⟨fun q => q.elim, fun _ => ⟨z_p5 h6, trivial⟩⟩, trivial⟩, trivial⟩
    · refine .inr ⟨"java/lang/IndexOutOfBoundsException", 1, 0, by unfold F_X8_penaltyOf; rw [z_tw0 hR hg], trivial, by simp, by decide +kernel, by decide, by decide, fun τ hM => ?_⟩
      simp only [P_X9_penaltyOf, F_X9_penaltyOf, P_X9_ofTeam, F_X9_ofTeam, z_noT hM n6 hg, if_true, q_L]
      exact ⟨⟨⟨fun _ => trivial, fun q => absurd trivial q⟩, trivial⟩, rfl⟩
  obtain ⟨c1, c2, c3, c4, cQ, c5⟩ := z_ask hJ ha (W_penaltyOf g σ) (fun v e q => by unfold W_penaltyOf; rw [e]) (fun E e => by unfold W_penaltyOf; rw [e])
  unfold sim_penaltyOf q_SimI to_penaltyOf
  exact ⟨⟨c1, c2, c3, c4⟩, c5⟩
theorem sq_isRunning {k : Nat} {σ : q_M} (hk : k < 512) (hI : z_Inv k σ) (g : Int32) : sim_isRunning g σ ∧ z_Inv (k + 1) (to_isRunning g σ) := by
  obtain ⟨b, t, nw, sz, hb, ht, sb, st, hJ⟩ := hI
  have hR := hJ.1
  have hV := hJ.2.2.2.2.1
  have n6 := hV.n6
  have l0 := hV.l0
  have l1 := hV.l1
  have hck := hV.ck
  have ha : z_ans nx_isRunning (F_X8_isRunning g σ) (P_X9_isRunning g) (F_X9_isRunning g) b t (fun v => v = 0 ∨ v = 1) := by
    by_cases hg : ∃ w, w < b 3 ∧ g = nI w
    · obtain ⟨w, hw, rfl⟩ := hg
      have h6 : w < 6 := by omega
      have hT := hR.te w h6 hw
      have hW := hV.te w hw
      have hst := hW.st
      by_cases h1 : t w 6 = 1
      · refine .inl ⟨1, by unfold F_X8_isRunning; rw [z_tw1 hR hV hw]; show (if σ (0 + 2 + 3 * w) 3 = 2 then (Sum.inl 1 : Int32 ⊕ String) else .inl 0) = _; rw [if_pos (by rw [hT.st, h1]; rfl)], .inr rfl, fun τ hM => ?_⟩
        have hM1 : z_M (q_up τ 229 5 0) b t := hM.u9
        have e6 : F_X9_of (nI w) 6 (q_up τ 229 5 0) = 1 := by rw [hM1.o6 h6, h1]; rfl
        simp only [P_X9_isRunning, F_X9_isRunning, P_X9_ofTeam, F_X9_ofTeam, z_isT hM hw n6, z_10, if_false, q_L, forall_eq', e6, if_true]
        exact ⟨⟨⟨fun q => q.elim, fun _ => ⟨z_p6 h6, trivial⟩⟩, trivial⟩, trivial⟩
      · refine .inl ⟨0, by unfold F_X8_isRunning; rw [z_tw1 hR hV hw]; show (if σ (0 + 2 + 3 * w) 3 = 2 then (Sum.inl 1 : Int32 ⊕ String) else .inl 0) = _; rw [if_neg (by rw [hT.st, z_l2, z_eq (by omega) (by omega)]; omega)], .inl rfl, fun τ hM => ?_⟩
        have hM1 : z_M (q_up τ 229 5 0) b t := hM.u9
        have e6 : ¬ F_X9_of (nI w) 6 (q_up τ 229 5 0) = 1 := by rw [hM1.o6 h6, z_l1, z_eq (by omega) (by omega)]; exact h1
        simp only [P_X9_isRunning, F_X9_isRunning, P_X9_ofTeam, F_X9_ofTeam, z_isT hM hw n6, z_10, if_false, q_L, forall_eq']
        rw [if_neg e6]
        exact ⟨⟨⟨fun q => q.elim, fun _ => ⟨z_p6 h6, trivial⟩⟩, trivial⟩, rfl⟩
    · refine .inr ⟨"java/lang/IndexOutOfBoundsException", 1, 0, by unfold F_X8_isRunning; rw [z_tw0 hR hg], .inl rfl, by simp, by decide +kernel, by decide, by decide, fun τ hM => ?_⟩
      simp only [P_X9_isRunning, F_X9_isRunning, P_X9_ofTeam, F_X9_ofTeam, z_noT hM n6 hg, if_true, q_L, z_01, if_false]
      exact ⟨⟨⟨fun _ => trivial, fun q => absurd trivial q⟩, trivial⟩, rfl⟩
  obtain ⟨c1, c2, c3, c4, cQ, c5⟩ := z_ask hJ ha (W_isRunning g σ) (fun v e q => by unfold W_isRunning; rw [e]; show ((0 : Int32), q_up σ 237 0 (if v = 0 then 0 else 1)) = _; rw [z_01i q]) (fun E e => by unfold W_isRunning; rw [e])
  unfold sim_isRunning q_SimB q_SimI to_isRunning
  exact ⟨⟨⟨c1, c2, c3, c4⟩, cQ⟩, c5⟩
theorem sq_isInZone {k : Nat} {σ : q_M} (hk : k < 512) (hI : z_Inv k σ) (g : Int32) : sim_isInZone g σ ∧ z_Inv (k + 1) (to_isInZone g σ) := by
  obtain ⟨b, t, nw, sz, hb, ht, sb, st, hJ⟩ := hI
  have hR := hJ.1
  have hV := hJ.2.2.2.2.1
  have n6 := hV.n6
  have l0 := hV.l0
  have l1 := hV.l1
  have hck := hV.ck
  have ha : z_ans nx_isInZone (F_X8_isInZone g σ) (P_X9_isInZone g) (F_X9_isInZone g) b t (fun v => v = 0 ∨ v = 1) := by
    by_cases hg : ∃ w, w < b 3 ∧ g = nI w
    · obtain ⟨w, hw, rfl⟩ := hg
      have h6 : w < 6 := by omega
      have hT := hR.te w h6 hw
      have hW := hV.te w hw
      have hst := hW.st
      have ez := z_zoneC hT hW l0 l1
      by_cases z : z_zone (b 0) (t w)
      · rw [if_pos z] at ez
        refine .inl ⟨1, by unfold F_X8_isInZone; rw [z_tw1 hR hV hw, hR.ll]; exact congrArg Sum.inl ez, .inr rfl, fun τ hM => ?_⟩
        have hM1 : z_M (q_up τ 229 5 0) b t := hM.u9
        obtain ⟨pz, em⟩ := z_zoneM hM1 h6 hW l0 l1
        rw [if_pos z] at em
        have em : F_X9_inZone (nI w) (q_up τ 229 5 0) = 1 := em
        simp only [P_X9_isInZone, F_X9_isInZone, z_isT hM hw n6, z_10, if_false, q_L, forall_eq', em]
        exact ⟨⟨fun q => q.elim, fun _ => ⟨pz, trivial⟩⟩, trivial⟩
      · rw [if_neg z] at ez
        refine .inl ⟨0, by unfold F_X8_isInZone; rw [z_tw1 hR hV hw, hR.ll]; exact congrArg Sum.inl ez, .inl rfl, fun τ hM => ?_⟩
        have hM1 : z_M (q_up τ 229 5 0) b t := hM.u9
        obtain ⟨pz, em⟩ := z_zoneM hM1 h6 hW l0 l1
        rw [if_neg z] at em
        have em : F_X9_inZone (nI w) (q_up τ 229 5 0) = 0 := em
        simp only [P_X9_isInZone, F_X9_isInZone, z_isT hM hw n6, z_10, if_false, q_L, forall_eq', em, if_true]
        exact ⟨⟨fun q => q.elim, fun _ => ⟨pz, trivial⟩⟩, trivial⟩
    · refine .inr ⟨"java/lang/IndexOutOfBoundsException", 1, 0, by unfold F_X8_isInZone; rw [z_tw0 hR hg], .inl rfl, by simp, by decide +kernel, by decide, by decide, fun τ hM => ?_⟩
      simp only [P_X9_isInZone, F_X9_isInZone, z_noT hM n6 hg, if_true, q_L]
      exact ⟨⟨fun _ => trivial, fun q => absurd trivial q⟩, rfl⟩
  obtain ⟨c1, c2, c3, c4, cQ, c5⟩ := z_ask hJ ha (W_isInZone g σ) (fun v e q => by unfold W_isInZone; rw [e]; show ((0 : Int32), q_up σ 237 0 (if v = 0 then 0 else 1)) = _; rw [z_01i q]) (fun E e => by unfold W_isInZone; rw [e])
  unfold sim_isInZone q_SimB q_SimI to_isInZone
  exact ⟨⟨⟨c1, c2, c3, c4⟩, cQ⟩, c5⟩
theorem z_atX {f : Nat} {j : Int32} {c : q_M} (hf : f < 220) : P_X8_at f j c := by
  unfold P_X8_at
  rw [z_len hf]
  refine ⟨fun _ => trivial, fun h1 => ⟨fun h2 => ⟨?_, trivial⟩, fun _ => trivial⟩⟩
  rcases z_int j with h | ⟨n, hn, rfl⟩
  · exact absurd h h1
  · rw [z_lt hn (by decide)] at h2
    exact vp_in_nI h2 (by decide)
theorem z_twI {g l : Int32} {σ : q_M} {v : Nat} (h : F_X8_teamWithLeg g l σ = .inl v) : F_X8_teamWith g σ = .inl v := by
  unfold F_X8_teamWithLeg at h
  cases e : F_X8_teamWith g σ with
  | inl u =>
    rw [e] at h
    dsimp only at h
    by_cases q : F_X8_isLeg l σ = 0
    · rw [if_pos q] at h; injection h
    · rw [if_neg q] at h; exact h
  | inr E =>
    rw [e] at h
    injection h
theorem z_twB {g : Int32} {σ : q_M} {v : Nat} (h : F_X8_teamWith g σ = .inl v) : v < 20 := by
  unfold F_X8_teamWith at h
  cases e : F_X4_find 0 g σ with
  | none => rw [e] at h; injection h
  | some u =>
    rw [e] at h
    injection h with h
    subst h
    unfold F_X4_find at e
    by_cases q : g < 0
    · rw [if_pos q] at e; injection e
    · rw [if_neg q] at e
      by_cases q6 : g < 6
      · rw [if_pos q6] at e
        rcases z_int g with h | ⟨n, hn, rfl⟩
        · exact absurd h q
        · have q6 : nI n < nI 6 := q6
          rw [z_lt hn (by decide)] at q6
          rw [nI_clamp hn] at e
          by_cases q3 : σ (0 + 1 + 1 + 3 * n) 3 = 0
          · rw [if_pos q3] at e; injection e
          · rw [if_neg q3] at e
            injection e with e
            omega
      · rw [if_neg q6] at e; injection e
theorem sq_speedOf {k : Nat} {σ : q_M} (hk : k < 512) (hI : z_Inv k σ) (g : Int32) (l : Int32) : sim_speedOf g l σ ∧ z_Inv (k + 1) (to_speedOf g l σ) := by
  obtain ⟨b, t, nw, sz, hb, ht, sb, st, hJ⟩ := hI
  have hR := hJ.1
  have hV := hJ.2.2.2.2.1
  have n6 := hV.n6
  have l0 := hV.l0
  have l1 := hV.l1
  have hck := hV.ck
  have ha : z_ans nx_speedOf (F_X8_speedOf g l σ) (P_X9_speedOf g l) (F_X9_speedOf g l) b t (fun v => True) := by
    by_cases hg : ∃ w, w < b 3 ∧ g = nI w
    · obtain ⟨w, hw, rfl⟩ := hg
      have h6 : w < 6 := by omega
      have hT := hR.te w h6 hw
      have hW := hV.te w hw
      have hst := hW.st
      rcases z_leg l with ⟨a, ha, rfl, ea, eb⟩ | ⟨ea, eb⟩
      · refine .inl ⟨nI (t w a), ?_, trivial, fun τ hM => ?_⟩
        · unfold F_X8_speedOf F_X8_teamWithLeg
          simp only [z_tw1 hR hV hw, ea, z_10, if_false]
          unfold F_X6_speedOn
          rw [z_at (z_len (by omega)) ha, hT.sp a ha]
        · have hM1 : z_M (q_up τ 229 5 0) b t := hM.u9
          have e0 : (0 : Int32) + nI a = nI a := by rw [z_l0, z_add, Nat.zero_add]
          simp only [P_X9_speedOf, F_X9_speedOf, z_isT hM hw n6, eb, z_10, if_false, q_L, forall_eq', e0, hM1.of h6 (show a < 19 by omega)]
          exact ⟨⟨fun q => q.elim, fun _ => ⟨fun q => q.elim, fun _ => ⟨z_ofP h6 (by omega), trivial⟩⟩⟩, trivial⟩
      · refine .inr ⟨"java/lang/IndexOutOfBoundsException", 1, 0, by unfold F_X8_speedOf F_X8_teamWithLeg; simp only [z_tw1 hR hV hw, ea, if_true], trivial, by simp, by decide +kernel, by decide, by decide, fun τ hM => ?_⟩
        simp only [P_X9_speedOf, F_X9_speedOf, z_isT hM hw n6, eb, z_10, if_false, if_true, q_L]
        exact ⟨⟨fun q => q.elim, fun _ => ⟨fun _ => trivial, fun q => absurd trivial q⟩⟩, rfl⟩
    · refine .inr ⟨"java/lang/IndexOutOfBoundsException", 1, 0, by unfold F_X8_speedOf F_X8_teamWithLeg; rw [z_tw0 hR hg], trivial, by simp, by decide +kernel, by decide, by decide, fun τ hM => ?_⟩
      simp only [P_X9_speedOf, F_X9_speedOf, z_noT hM n6 hg, if_true, q_L]
      exact ⟨⟨fun _ => trivial, fun q => absurd trivial q⟩, rfl⟩
  have hP : P_X8_speedOf g l σ := by
    intro r hr
    cases r with
    | inl v => exact ⟨⟨z_atX (by have := z_twB (z_twI hr); omega), trivial⟩, trivial⟩
    | inr E => trivial
  obtain ⟨c1, c2, c3, c4, cQ, c5⟩ := z_ask hJ ha (W_speedOf g l σ) (fun v e q => by unfold W_speedOf; rw [e]) (fun E e => by unfold W_speedOf; rw [e])
  unfold sim_speedOf q_SimI to_speedOf
  exact ⟨⟨⟨hP, c1⟩, c2, c3, c4⟩, c5⟩
theorem sq_hasFoul {k : Nat} {σ : q_M} (hk : k < 512) (hI : z_Inv k σ) (g : Int32) (v : Int32) : sim_hasFoul g v σ ∧ z_Inv (k + 1) (to_hasFoul g v σ) := by
  obtain ⟨b, t, nw, sz, hb, ht, sb, st, hJ⟩ := hI
  have hR := hJ.1
  have hV := hJ.2.2.2.2.1
  have n6 := hV.n6
  have l0 := hV.l0
  have l1 := hV.l1
  have hck := hV.ck
  have ha : z_ans nx_hasFoul (F_X8_hasFoul g v σ) (P_X9_hasFoul g v) (F_X9_hasFoul g v) b t (fun v => v = 0 ∨ v = 1) := by
    by_cases hg : ∃ w, w < b 3 ∧ g = nI w
    · obtain ⟨w, hw, rfl⟩ := hg
      have h6 : w < 6 := by omega
      have hT := hR.te w h6 hw
      have hW := hV.te w hw
      have hst := hW.st
      rcases z_kind v with ⟨l, hl, rfl, ea, eb⟩ | ⟨ea, eb⟩
      · obtain ⟨cp, ce⟩ := z_cmt hT hl hW.lf hW.df
        have hx : t w (11 + l) ≤ 1 := by
          rcases (show l = 0 ∨ l = 1 by omega) with rfl | rfl
          · exact hW.lf
          · exact hW.df
        refine .inl ⟨nI (t w (11 + l)), ?_, z_01or hx, fun τ hM => ?_⟩
        · unfold F_X8_hasFoul
          simp only [z_tw1 hR hV hw, ea, z_10, if_false, ce]
        · have hM1 : z_M (q_up τ 229 5 0) b t := hM.u9
          have e11 : (11 : Int32) + nI l = nI (11 + l) := by rw [z_l11, z_add]
          simp only [P_X9_hasFoul, F_X9_hasFoul, z_isT hM hw n6, eb, z_10, if_false, q_L, forall_eq', e11, z_uu, hM1.of h6 (show 11 + l < 19 by omega)]
          refine ⟨⟨fun q => q.elim, fun _ => ⟨fun q => q.elim, fun _ => ⟨z_ofP h6 (by omega), trivial⟩⟩⟩, ?_⟩
          rcases (show t w (11 + l) = 0 ∨ t w (11 + l) = 1 by omega) with e | e <;> rw [e] <;> rfl
      · refine .inr ⟨"java/lang/IllegalArgumentException", 2, 0, by unfold F_X8_hasFoul; simp only [z_tw1 hR hV hw, ea, if_true], .inl rfl, by simp, by decide +kernel, by decide, by decide, fun τ hM => ?_⟩
        simp only [P_X9_hasFoul, F_X9_hasFoul, z_isT hM hw n6, eb, z_10, if_false, if_true, q_L, z_uu, forall_eq']
        exact ⟨⟨fun q => q.elim, fun _ => ⟨fun _ => trivial, fun q => absurd trivial q⟩⟩, rfl⟩
    · refine .inr ⟨"java/lang/IndexOutOfBoundsException", 1, 0, by unfold F_X8_hasFoul; rw [z_tw0 hR hg], .inl rfl, by simp, by decide +kernel, by decide, by decide, fun τ hM => ?_⟩
      simp only [P_X9_hasFoul, F_X9_hasFoul, z_noT hM n6 hg, if_true, q_L]
      exact ⟨⟨fun _ => trivial, fun q => absurd trivial q⟩, rfl⟩
  have hP : P_X8_hasFoul g v σ := by
    intro r hr
    cases r with
    | inr E => trivial
    | inl u =>
      refine ⟨fun _ => trivial, fun hk => ?_⟩
      by_cases hg : ∃ w, w < b 3 ∧ g = nI w
      · obtain ⟨w, hw, rfl⟩ := hg
        have h6 : w < 6 := by omega
        rw [z_tw1 hR hV hw] at hr
        injection hr with hr
        subst hr
        rcases z_kind v with ⟨l, hl, rfl, ea, eb⟩ | ⟨ea, eb⟩
        · obtain ⟨cp, ce⟩ := z_cmt (hR.te w h6 hw) hl (hV.te w hw).lf (hV.te w hw).df
          have hx : t w (11 + l) ≤ 1 := by
            rcases (show l = 0 ∨ l = 1 by omega) with rfl | rfl
            · exact (hV.te w hw).lf
            · exact (hV.te w hw).df
          exact ⟨cp, by rw [ce]; exact z_01or hx, trivial⟩
        · exact absurd (ea σ) hk
      · rw [z_tw0 hR hg] at hr
        injection hr
  obtain ⟨c1, c2, c3, c4, cQ, c5⟩ := z_ask hJ ha (W_hasFoul g v σ) (fun v e q => by unfold W_hasFoul; rw [e]; show ((0 : Int32), q_up σ 237 0 (if v = 0 then 0 else 1)) = _; rw [z_01i q]) (fun E e => by unfold W_hasFoul; rw [e])
  unfold sim_hasFoul q_SimB q_SimI to_hasFoul
  exact ⟨⟨⟨⟨hP, c1⟩, c2, c3, c4⟩, cQ⟩, c5⟩
theorem sq_splitOf {k : Nat} {σ : q_M} (hk : k < 512) (hI : z_Inv k σ) (g : Int32) (l : Int32) : sim_splitOf g l σ ∧ z_Inv (k + 1) (to_splitOf g l σ) := by
  obtain ⟨b, t, nw, sz, hb, ht, sb, st, hJ⟩ := hI
  have hR := hJ.1
  have hV := hJ.2.2.2.2.1
  have n6 := hV.n6
  have l0 := hV.l0
  have l1 := hV.l1
  have hck := hV.ck
  have ha : z_ans nx_splitOf (F_X8_splitOf g l σ) (P_X9_splitOf g l) (F_X9_splitOf g l) b t (fun v => True) := by
    by_cases hg : ∃ w, w < b 3 ∧ g = nI w
    · obtain ⟨w, hw, rfl⟩ := hg
      have h6 : w < 6 := by omega
      have hT := hR.te w h6 hw
      have hW := hV.te w hw
      have hst := hW.st
      rcases z_leg l with ⟨a, ha, rfl, ea, eb⟩ | ⟨ea, eb⟩
      · have hs := hW.sl a ha
        have h8 := hW.lg
        have e14 : (14 : Int32) + nI a = nI (14 + a) := by rw [z_l14, z_add]
        have hE : F_X6_hasEnded (0 + 2 + 3 * w) (nI a) σ = nI (if 1 ≤ t w (14 + a) then 1 else 0) := by
          unfold F_X6_hasEnded
          rw [hT.lg, hT.st, z_l3]
          simp (disch := omega) only [z_lt, z_eq]
          by_cases q : a < t w 8
          · rw [if_pos q, if_pos (by omega)]; rfl
          · rw [if_neg q]
            by_cases q2 : t w 6 + 1 = 3
            · rw [if_pos q2, if_pos (by omega)]; rfl
            · rw [if_neg q2, if_neg (by omega)]; rfl
        by_cases q : 1 ≤ t w (14 + a)
        · rw [if_pos q] at hE
          have hE : F_X6_hasEnded (0 + 2 + 3 * w) (nI a) σ = 1 := hE
          refine .inl ⟨nI (t w (14 + a) - 1), ?_, trivial, fun τ hM => ?_⟩
          · unfold F_X8_splitOf F_X8_teamWithLeg
            simp only [z_tw1 hR hV hw, ea, z_10, if_false, hE]
            rw [z_at (z_len (by omega)) ha, hT.sl a ha]
          · have hM1 : z_M (q_up τ 229 5 0) b t := hM.u9
            have ex : nI (t w (14 + a)) - 1 = nI (t w (14 + a) - 1) := by rw [z_l1, z_sub q]
            simp only [P_X9_splitOf, F_X9_splitOf, z_isT hM hw n6, eb, z_10, if_false, q_L, forall_eq', e14, z_uu, hM1.of h6 (show 14 + a < 19 by omega), ex]
            rw [if_neg (nI_pos (by omega))]
            exact ⟨⟨fun q => q.elim, fun _ => ⟨fun q => q.elim, fun _ => ⟨z_ofP h6 (by omega), trivial⟩⟩⟩, rfl⟩
        · rw [if_neg q] at hE
          have hE : F_X6_hasEnded (0 + 2 + 3 * w) (nI a) σ = 0 := hE
          refine .inr ⟨"java/util/NoSuchElementException", 2, 0, ?_, trivial, by simp, by decide +kernel, by decide, by decide, fun τ hM => ?_⟩
          · unfold F_X8_splitOf F_X8_teamWithLeg
            simp only [z_tw1 hR hV hw, ea, z_10, if_false, hE, if_true]
          · have hM1 : z_M (q_up τ 229 5 0) b t := hM.u9
            have ex : nI (t w (14 + a)) - 1 < 0 := by rw [show t w (14 + a) = 0 by omega]; decide
            simp only [P_X9_splitOf, F_X9_splitOf, z_isT hM hw n6, eb, z_10, if_false, q_L, forall_eq', e14, z_uu, hM1.of h6 (show 14 + a < 19 by omega)]
            rw [if_pos ex]
            exact ⟨⟨fun q => q.elim, fun _ => ⟨fun q => q.elim, fun _ => ⟨z_ofP h6 (by omega), trivial⟩⟩⟩, rfl⟩
      · refine .inr ⟨"java/lang/IndexOutOfBoundsException", 1, 0, by unfold F_X8_splitOf F_X8_teamWithLeg; simp only [z_tw1 hR hV hw, ea, if_true], trivial, by simp, by decide +kernel, by decide, by decide, fun τ hM => ?_⟩
        simp only [P_X9_splitOf, F_X9_splitOf, z_isT hM hw n6, eb, z_10, if_false, if_true, q_L]
        exact ⟨⟨fun q => q.elim, fun _ => ⟨fun _ => trivial, fun q => absurd trivial q⟩⟩, rfl⟩
    · refine .inr ⟨"java/lang/IndexOutOfBoundsException", 1, 0, by unfold F_X8_splitOf F_X8_teamWithLeg; rw [z_tw0 hR hg], trivial, by simp, by decide +kernel, by decide, by decide, fun τ hM => ?_⟩
      simp only [P_X9_splitOf, F_X9_splitOf, z_noT hM n6 hg, if_true, q_L]
      exact ⟨⟨fun _ => trivial, fun q => absurd trivial q⟩, rfl⟩
  have hP : P_X8_splitOf g l σ := by
    intro r hr
    cases r with
    | inl v => exact ⟨fun _ => trivial, fun _ => ⟨z_atX (by have := z_twB (z_twI hr); omega), trivial⟩⟩
    | inr E => trivial
  obtain ⟨c1, c2, c3, c4, cQ, c5⟩ := z_ask hJ ha (W_splitOf g l σ) (fun v e q => by unfold W_splitOf; rw [e]) (fun E e => by unfold W_splitOf; rw [e])
  unfold sim_splitOf q_SimI to_splitOf
  exact ⟨⟨⟨hP, c1⟩, c2, c3, c4⟩, c5⟩
theorem sq_timeOf {k : Nat} {σ : q_M} (hk : k < 512) (hI : z_Inv k σ) (g : Int32) : sim_timeOf g σ ∧ z_Inv (k + 1) (to_timeOf g σ) := by
  obtain ⟨b, t, nw, sz, hb, ht, sb, st, hJ⟩ := hI
  have hR := hJ.1
  have hV := hJ.2.2.2.2.1
  have n6 := hV.n6
  have l0 := hV.l0
  have l1 := hV.l1
  have hck := hV.ck
  have ha : z_ans nx_timeOf (F_X8_timeOf g σ) (P_X9_timeOf g) (F_X9_timeOf g) b t (fun v => True) := by
    by_cases hg : ∃ w, w < b 3 ∧ g = nI w
    · obtain ⟨w, hw, rfl⟩ := hg
      have h6 : w < 6 := by omega
      have hT := hR.te w h6 hw
      have hW := hV.te w hw
      have hst := hW.st
      by_cases h2 : t w 6 = 2
      · refine .inl ⟨nI (t w 18), ?_, trivial, fun τ hM => ?_⟩
        · unfold F_X8_timeOf F_X8_finishedTeamWith
          have e : σ (0 + 2 + 3 * w) 3 = 3 := by rw [hT.st, h2]; rfl
          simp only [z_tw1 hR hV hw, e, if_true]
          exact congrArg Sum.inl hT.tm
        · have hM1 : z_M (q_up τ 229 5 0) b t := hM.u9
          have e6 : F_X9_of (nI w) 6 (q_up τ 229 5 0) = 2 := by rw [hM1.o6 h6, h2]; rfl
          simp only [P_X9_timeOf, F_X9_timeOf, P_X9_isNoResult, F_X9_isNoResult, z_isT hM hw n6, z_10, if_false, q_L, forall_eq', e6, if_true, z_uu, hM1.o18 h6]
          exact ⟨⟨⟨fun q => q.elim, fun _ => ⟨z_p6 h6, trivial⟩⟩, fun _ => ⟨z_p18 h6, trivial⟩, fun q => absurd trivial q⟩, trivial⟩
      · refine .inr ⟨"java/util/NoSuchElementException", 2, 0, ?_, trivial, by simp, by decide +kernel, by decide, by decide, fun τ hM => ?_⟩
        · unfold F_X8_timeOf F_X8_finishedTeamWith
          have e : ¬ σ (0 + 2 + 3 * w) 3 = 3 := by rw [hT.st, z_l3, z_eq (by omega) (by omega)]; omega
          simp only [z_tw1 hR hV hw]
          rw [if_neg e]
        · have hM1 : z_M (q_up τ 229 5 0) b t := hM.u9
          have e6 : (F_X9_of (nI w) 6 (q_up τ 229 5 0) = 2) = False := by rw [hM1.o6 h6, z_l2, z_eq (by omega) (by omega)]; exact eq_false h2
          simp only [P_X9_timeOf, F_X9_timeOf, P_X9_isNoResult, F_X9_isNoResult, z_isT hM hw n6, z_10, if_false, q_L, forall_eq', e6, z_uu]
          exact ⟨⟨⟨fun q => q.elim, fun _ => ⟨z_p6 h6, trivial⟩⟩, fun q => q.elim, fun _ => trivial⟩, rfl⟩
    · refine .inr ⟨"java/lang/IndexOutOfBoundsException", 1, 0, by unfold F_X8_timeOf F_X8_finishedTeamWith; rw [z_tw0 hR hg], trivial, by simp, by decide +kernel, by decide, by decide, fun τ hM => ?_⟩
      simp only [P_X9_timeOf, F_X9_timeOf, P_X9_isNoResult, F_X9_isNoResult, z_noT hM n6 hg, if_true, q_L, z_10, if_false, forall_eq']
      exact ⟨⟨⟨fun _ => trivial, fun q => absurd trivial q⟩, fun q => q.elim, fun _ => trivial⟩, rfl⟩
  obtain ⟨c1, c2, c3, c4, cQ, c5⟩ := z_ask hJ ha (W_timeOf g σ) (fun v e q => by unfold W_timeOf; rw [e]) (fun E e => by unfold W_timeOf; rw [e])
  unfold sim_timeOf q_SimI to_timeOf
  exact ⟨⟨c1, c2, c3, c4⟩, c5⟩
theorem sq_resultOf {k : Nat} {σ : q_M} (hk : k < 512) (hI : z_Inv k σ) (g : Int32) : sim_resultOf g σ ∧ z_Inv (k + 1) (to_resultOf g σ) := by
  obtain ⟨b, t, nw, sz, hb, ht, sb, st, hJ⟩ := hI
  have hR := hJ.1
  have hV := hJ.2.2.2.2.1
  have n6 := hV.n6
  have l0 := hV.l0
  have l1 := hV.l1
  have hck := hV.ck
  have ha : z_ans nx_resultOf (F_X8_resultOf g σ) (P_X9_resultOf g) (F_X9_resultOf g) b t (fun v => True) := by
    by_cases hg : ∃ w, w < b 3 ∧ g = nI w
    · obtain ⟨w, hw, rfl⟩ := hg
      have h6 : w < 6 := by omega
      have hT := hR.te w h6 hw
      have hW := hV.te w hw
      have hst := hW.st
      by_cases h2 : t w 6 = 2
      · refine .inl ⟨nI (t w 18 + t w 5), ?_, trivial, fun τ hM => ?_⟩
        · unfold F_X8_resultOf F_X8_finishedTeamWith
          have e : σ (0 + 2 + 3 * w) 3 = 3 := by rw [hT.st, h2]; rfl
          simp only [z_tw1 hR hV hw, e, if_true]
          show (Sum.inl (F_X6_result (0 + 2 + 3 * w) σ) : Int32 ⊕ String) = _; unfold F_X6_result; rw [hT.tm, hT.pn, z_add]
        · have hM1 : z_M (q_up τ 229 5 0) b t := hM.u9
          have e6 : F_X9_of (nI w) 6 (q_up τ 229 5 0) = 2 := by rw [hM1.o6 h6, h2]; rfl
          simp only [P_X9_resultOf, F_X9_resultOf, P_X9_isNoResult, F_X9_isNoResult, z_isT hM hw n6, z_10, if_false, q_L, forall_eq', e6, if_true, z_uu, hM1.o18 h6, F_X9_result, P_X9_result, hM1.o5 h6, z_add]
          exact ⟨⟨⟨fun q => q.elim, fun _ => ⟨z_p6 h6, trivial⟩⟩, fun _ => ⟨⟨z_p18 h6, z_p5 h6, trivial⟩, trivial⟩, fun q => absurd trivial q⟩, trivial⟩
      · refine .inr ⟨"java/util/NoSuchElementException", 2, 0, ?_, trivial, by simp, by decide +kernel, by decide, by decide, fun τ hM => ?_⟩
        · unfold F_X8_resultOf F_X8_finishedTeamWith
          have e : ¬ σ (0 + 2 + 3 * w) 3 = 3 := by rw [hT.st, z_l3, z_eq (by omega) (by omega)]; omega
          simp only [z_tw1 hR hV hw]
          rw [if_neg e]
        · have hM1 : z_M (q_up τ 229 5 0) b t := hM.u9
          have e6 : (F_X9_of (nI w) 6 (q_up τ 229 5 0) = 2) = False := by rw [hM1.o6 h6, z_l2, z_eq (by omega) (by omega)]; exact eq_false h2
          simp only [P_X9_resultOf, F_X9_resultOf, P_X9_isNoResult, F_X9_isNoResult, z_isT hM hw n6, z_10, if_false, q_L, forall_eq', e6, z_uu]
          exact ⟨⟨⟨fun q => q.elim, fun _ => ⟨z_p6 h6, trivial⟩⟩, fun q => q.elim, fun _ => trivial⟩, rfl⟩
    · refine .inr ⟨"java/lang/IndexOutOfBoundsException", 1, 0, by unfold F_X8_resultOf F_X8_finishedTeamWith; rw [z_tw0 hR hg], trivial, by simp, by decide +kernel, by decide, by decide, fun τ hM => ?_⟩
      simp only [P_X9_resultOf, F_X9_resultOf, P_X9_isNoResult, F_X9_isNoResult, z_noT hM n6 hg, if_true, q_L, z_10, if_false, forall_eq']
      exact ⟨⟨⟨fun _ => trivial, fun q => absurd trivial q⟩, fun q => q.elim, fun _ => trivial⟩, rfl⟩
  obtain ⟨c1, c2, c3, c4, cQ, c5⟩ := z_ask hJ ha (W_resultOf g σ) (fun v e q => by unfold W_resultOf; rw [e]) (fun E e => by unfold W_resultOf; rw [e])
  unfold sim_resultOf q_SimI to_resultOf
  exact ⟨⟨c1, c2, c3, c4⟩, c5⟩
