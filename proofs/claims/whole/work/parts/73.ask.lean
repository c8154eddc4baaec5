/-! Questions without arguments. -/
theorem z_askX {k : Nat} {σ : q_M} {b : Nat → Nat} {t : Nat → Nat → Nat} {nw sz : Nat} {hb : Nat → Nat → Nat} {ht : Nat → Nat → Nat → Nat} {sb : Nat → Nat} {st : Nat → Nat → Nat} {nx : List String} {fC : Int32 ⊕ String} {PM : q_M → Prop} {FM : q_M → Int32 × q_M} (hJ : z_J (31 * k) σ b t nw sz hb ht sb st) (W : Int32 × q_M)
    (ha : (∃ v, fC = .inl v ∧ W = (0, q_up σ 237 0 v) ∧ PM (q_up σ 237 0 v) ∧ FM (q_up σ 237 0 v) = (v, q_up (q_up σ 237 0 v) 229 5 0)) ∨ (∃ E c x, fC = .inr E ∧ W = (q_code nx E, σ) ∧ E ∈ nx ∧ q_code nx E = nI c ∧ 1 ≤ c ∧ c ≤ 3 ∧ PM σ ∧ FM σ = (x, q_up σ 229 5 (nI c)))) : (∀ E, fC = .inr E → E ∈ nx) ∧ PM W.2 ∧ (FM W.2).2 229 5 = W.1 ∧ (W.1 = 0 → (FM W.2).2 237 0 = (FM W.2).1) ∧ z_Inv (k + 1) (FM W.2).2 := by
  rcases ha with ⟨v, e1, e2, f1, f2⟩ | ⟨E, c, x, e1, e2, e3, e4, e5, e6, f1, f2⟩
  · rw [e2]
    dsimp only
    rw [f2]
    refine ⟨fun E q => by rw [e1] at q; injection q, f1, (by dsimp only; exact q_up_eq _ _ _ _), fun _ => ?_, ?_⟩
    · dsimp only
      rw [q_up_nk (by decide), q_up_eq]
    · exact ⟨b, t, nw, sz, hb, ht, sb, st, hJ.sm (by omega) (fun a _ a1 _ _ a4 _ => by dsimp only; rw [q_up_off a1, q_up_off a4]) (fun j j5 _ _ _ => by dsimp only; rw [q_up_nj j5, q_up_nk (by decide)])⟩
  · rw [e2, e4]
    dsimp only
    rw [f2]
    refine ⟨fun E' q => by rw [e1] at q; injection q with q; rw [← q]; exact e3, f1, (by dsimp only; exact q_up_eq _ _ _ _), fun q => absurd q (nI_ne0 (by omega) (by omega)), ?_⟩
    exact ⟨b, t, nw, sz, hb, ht, sb, st, hJ.sm (by omega) (fun a _ a1 _ _ a4 _ => q_up_off a1) (fun j j5 _ _ _ => q_up_nj j5)⟩
theorem z_Inv.u5 {k : Nat} {σ : q_M} (h : z_Inv k σ) (v : Int32) : z_Inv (k + 1) (q_up σ 229 5 v) := by
  obtain ⟨b, t, nw, sz, hb, ht, sb, st, hJ⟩ := h
  exact ⟨b, t, nw, sz, hb, ht, sb, st, hJ.sm (by omega) (fun a _ a1 _ _ a4 _ => q_up_off a1) (fun j j5 _ _ _ => q_up_nj j5)⟩
theorem sq_teamCount {k : Nat} {σ : q_M} (hk : k < 512) (hI : z_Inv k σ) : sim_teamCount σ ∧ z_Inv (k + 1) (to_teamCount σ) := by
  refine ⟨?_, hI.u5 0⟩
  obtain ⟨b, t, nw, sz, hb, ht, sb, st, hJ⟩ := hI
  have hV := hJ.2.2.2.2.1
  have h := z_entered hV.n6 hV.stt hJ.1
  exact ⟨⟨h.1, trivial⟩, h.2.trans (hJ.2.2.2.1.bs 3 (by decide)).symm⟩
theorem sq_runningCount {k : Nat} {σ : q_M} (hk : k < 512) (hI : z_Inv k σ) : sim_runningCount σ ∧ z_Inv (k + 1) (to_runningCount σ) := by
  refine ⟨?_, hI.u5 0⟩
  obtain ⟨b, t, nw, sz, hb, ht, sb, st, hJ⟩ := hI
  have hV := hJ.2.2.2.2.1
  have h := z_running hV.n6 hV.stt hJ.1
  have hM1 : z_M (q_up σ 229 5 0) b t := hJ.2.2.2.1.u9
  have hi := z_inSt (q := 1) hV.n6 (by decide) hV.stt hM1
  exact ⟨⟨h.1, trivial⟩, fun σ1 e => by subst e; exact ⟨hi.1, trivial⟩, h.2.trans hi.2.symm⟩
theorem sq_isStarted {k : Nat} {σ : q_M} (hk : k < 512) (hI : z_Inv k σ) : sim_isStarted σ ∧ z_Inv (k + 1) (to_isStarted σ) := by
  refine ⟨?_, hI.u5 0⟩
  obtain ⟨b, t, nw, sz, hb, ht, sb, st, hJ⟩ := hI
  have hV := hJ.2.2.2.2.1
  have hM1 : z_M (q_up σ 229 5 0) b t := hJ.2.2.2.1.u9
  have hu := z_unp hM1 hV.bg
  exact ⟨⟨by rw [hJ.1.bg]; exact z_01or hV.bg, trivial⟩, hJ.1.bg.trans hu.symm⟩
theorem sq_isFinished {k : Nat} {σ : q_M} (hk : k < 512) (hI : z_Inv k σ) : sim_isFinished σ ∧ z_Inv (k + 1) (to_isFinished σ) := by
  have hI2 := hI.u5 0
  obtain ⟨b, t, nw, sz, hb, ht, sb, st, hJ⟩ := hI
  have hV := hJ.2.2.2.2.1
  have hM1 : z_M (q_up σ 229 5 0) b t := hJ.2.2.2.1.u9
  have hu := z_unp hM1 hV.bg
  have h := z_running hV.n6 hV.stt hJ.1
  have hi := z_inSt (q := 1) hV.n6 (by decide) hV.stt hM1
  have hi2 : F_X9_inStatus 1 (q_up σ 229 5 0) = F_X4_countRunning 0 σ := hi.2.trans h.2.symm
  have hbg := hJ.1.bg
  have hP : P_X8_isFinished σ := ⟨fun _ => trivial, fun _ => ⟨h.1, trivial⟩⟩
  have hPM : P_X9_isFinished σ := fun σ1 e => by subst e; exact ⟨fun _ => trivial, fun _ => ⟨hi.1, trivial⟩⟩
  unfold sim_isFinished to_isFinished F_X8_isFinished F_X9_isFinished q_L
  by_cases q : b 1 = 0
  · have q1 : σ 0 1 = 0 := by rw [hbg, q]; rfl
    have q2 : F_X9_isUnprepared (q_up σ 229 5 0) = 0 := by rw [hu, q]; rfl
    rw [if_pos q1]
    simp only [q2, if_true]
    exact ⟨⟨hP, hPM, trivial⟩, hI2⟩
  · have q0 : b 1 = 1 := by have := hV.bg; omega
    have q1 : ¬ σ 0 1 = 0 := by rw [hbg, q0]; decide
    have q2 : F_X9_isUnprepared (q_up σ 229 5 0) = 1 := by rw [hu, q0]; rfl
    rw [if_neg q1]
    simp only [q2, z_10, if_false, hi2]
    by_cases z : F_X4_countRunning 0 σ = 0
    · rw [if_pos z, if_pos z]
      exact ⟨⟨hP, hPM, rfl⟩, hI2⟩
    · rw [if_neg z, if_neg z]
      exact ⟨⟨hP, hPM, rfl⟩, hI2⟩
theorem sq_clock {k : Nat} {σ : q_M} (hk : k < 512) (hI : z_Inv k σ) : sim_clock σ ∧ z_Inv (k + 1) (to_clock σ) := by
  refine ⟨?_, hI.u5 0⟩
  obtain ⟨b, t, nw, sz, hb, ht, sb, st, hJ⟩ := hI
  exact hJ.1.ck.trans (hJ.2.2.2.1.bs 2 (by decide)).symm
theorem sq_length {k : Nat} {σ : q_M} (hk : k < 512) (hI : z_Inv k σ) : sim_length σ ∧ z_Inv (k + 1) (to_length σ) := by
  refine ⟨?_, hI.u5 0⟩
  obtain ⟨b, t, nw, sz, hb, ht, sb, st, hJ⟩ := hI
  exact hJ.1.ll.trans (hJ.2.2.2.1.bs 0 (by decide)).symm
theorem sq_refusalReason {k : Nat} {σ : q_M} (hk : k < 512) (hI : z_Inv k σ) : sim_refusalReason σ ∧ z_Inv (k + 1) (to_refusalReason σ) := by
  obtain ⟨b, t, nw, sz, hb, ht, sb, st, hJ⟩ := hI
  obtain ⟨e7, e8⟩ := hJ.2.2.2.2.2.2.2.2.2.1
  have hz : σ 220 7 = 0 ↔ σ 229 8 = 0 := by rw [e7]
  have ha : (∃ v, F_X8_refusalReason σ = .inl v ∧ W_refusalReason σ = (0, q_up σ 237 0 v) ∧ True ∧ F_X9_refusalReason (q_up σ 237 0 v) = (v, q_up (q_up σ 237 0 v) 229 5 0)) ∨ (∃ E c x, F_X8_refusalReason σ = .inr E ∧ W_refusalReason σ = (q_code nx_refusalReason E, σ) ∧ E ∈ nx_refusalReason ∧ q_code nx_refusalReason E = nI c ∧ 1 ≤ c ∧ c ≤ 3 ∧ True ∧ F_X9_refusalReason σ = (x, q_up σ 229 5 (nI c))) := by
    by_cases z : σ 220 7 = 0
    · have zm : σ 229 8 = 0 := hz.mp z
      have eF : F_X8_refusalReason σ = .inr "java/util/NoSuchElementException" := by unfold F_X8_refusalReason; rw [if_pos z]
      exact .inr ⟨"java/util/NoSuchElementException", 1, 0, eF, by unfold W_refusalReason; rw [eF], by simp, by decide +kernel, by decide, by decide, trivial, by unfold F_X9_refusalReason; rw [if_pos zm]; rfl⟩
    · have zm : ¬ σ 229 8 = 0 := fun q => z (hz.mpr q)
      have eF : F_X8_refusalReason σ = .inl (σ 220 7) := by unfold F_X8_refusalReason; rw [if_neg z]
      refine .inl ⟨σ 220 7, eF, by unfold W_refusalReason; rw [eF], trivial, ?_⟩
      have e9 : (q_up σ 237 0 (σ 220 7)) 229 = σ 229 := q_up_off (by decide)
      unfold F_X9_refusalReason
      rw [e9, if_neg zm, ← e7]
  obtain ⟨c1, c2, c3, c4, c5⟩ := z_askX (PM := fun _ => True) hJ (W_refusalReason σ) ha
  exact ⟨⟨c1, c2, c3, c4⟩, c5⟩
theorem sq_refusedTeam {k : Nat} {σ : q_M} (hk : k < 512) (hI : z_Inv k σ) : sim_refusedTeam σ ∧ z_Inv (k + 1) (to_refusedTeam σ) := by
  obtain ⟨b, t, nw, sz, hb, ht, sb, st, hJ⟩ := hI
  obtain ⟨e7, e8⟩ := hJ.2.2.2.2.2.2.2.2.2.1
  have hz : σ 220 7 = 0 ↔ σ 229 8 = 0 := by rw [e7]
  have ha : (∃ v, F_X8_refusedTeam σ = .inl v ∧ W_refusedTeam σ = (0, q_up σ 237 0 v) ∧ True ∧ F_X9_refusedTeam (q_up σ 237 0 v) = (v, q_up (q_up σ 237 0 v) 229 5 0)) ∨ (∃ E c x, F_X8_refusedTeam σ = .inr E ∧ W_refusedTeam σ = (q_code nx_refusedTeam E, σ) ∧ E ∈ nx_refusedTeam ∧ q_code nx_refusedTeam E = nI c ∧ 1 ≤ c ∧ c ≤ 3 ∧ True ∧ F_X9_refusedTeam σ = (x, q_up σ 229 5 (nI c))) := by
    by_cases z : σ 220 7 = 0
    · have zm : σ 229 8 = 0 := hz.mp z
      have eF : F_X8_refusedTeam σ = .inr "java/util/NoSuchElementException" := by unfold F_X8_refusedTeam; rw [if_pos z]
      exact .inr ⟨"java/util/NoSuchElementException", 1, 0, eF, by unfold W_refusedTeam; rw [eF], by simp, by decide +kernel, by decide, by decide, trivial, by unfold F_X9_refusedTeam; rw [if_pos zm]; rfl⟩
    · have zm : ¬ σ 229 8 = 0 := fun q => z (hz.mpr q)
      have eF : F_X8_refusedTeam σ = .inl (σ 220 8) := by unfold F_X8_refusedTeam; rw [if_neg z]
      refine .inl ⟨σ 220 8, eF, by unfold W_refusedTeam; rw [eF], trivial, ?_⟩
      have e9 : (q_up σ 237 0 (σ 220 8)) 229 = σ 229 := q_up_off (by decide)
      unfold F_X9_refusedTeam
      rw [e9, if_neg zm, ← e8 z]
  obtain ⟨c1, c2, c3, c4, c5⟩ := z_askX (PM := fun _ => True) hJ (W_refusedTeam σ) ha
  exact ⟨⟨c1, c2, c3, c4⟩, c5⟩
theorem sq_errorPosition {k : Nat} {σ : q_M} (hk : k < 512) (hI : z_Inv k σ) : sim_errorPosition σ ∧ z_Inv (k + 1) (to_errorPosition σ) := by
  obtain ⟨b, t, nw, sz, hb, ht, sb, st, hJ⟩ := hI
  obtain ⟨g1, g2, g3, g4⟩ := hJ.2.2.2.2.2.2.2.2.2.2.1
  have hz : σ 220 9 = -1 ↔ σ 229 6 < 0 := by
    rw [← g1]
    rcases g3 with h | ⟨n, hn, h⟩
    · rw [h]; decide
    · rw [h]
      exact ⟨fun q => absurd q (fun q => by have : (nI n).toInt = (-1 : Int32).toInt := by rw [q]
                                            rw [nI_toInt hn] at this
                                            have e : (-1 : Int32).toInt = -1 := by decide
                                            omega), fun q => absurd q (nI_pos hn)⟩
  have ha : (∃ v, F_X8_errorPosition σ = .inl v ∧ W_errorPosition σ = (0, q_up σ 237 0 v) ∧ True ∧ F_X9_errorPosition (q_up σ 237 0 v) = (v, q_up (q_up σ 237 0 v) 229 5 0)) ∨ (∃ E c x, F_X8_errorPosition σ = .inr E ∧ W_errorPosition σ = (q_code nx_errorPosition E, σ) ∧ E ∈ nx_errorPosition ∧ q_code nx_errorPosition E = nI c ∧ 1 ≤ c ∧ c ≤ 3 ∧ True ∧ F_X9_errorPosition σ = (x, q_up σ 229 5 (nI c))) := by
    by_cases z : σ 220 9 = -1
    · have zm : σ 229 6 < 0 := hz.mp z
      have eF : F_X8_errorPosition σ = .inr "java/util/NoSuchElementException" := by unfold F_X8_errorPosition; rw [if_pos z]
      exact .inr ⟨"java/util/NoSuchElementException", 1, 0, eF, by unfold W_errorPosition; rw [eF], by simp, by decide +kernel, by decide, by decide, trivial, by unfold F_X9_errorPosition; rw [if_pos zm]; rfl⟩
    · have zm : ¬ σ 229 6 < 0 := fun q => z (hz.mpr q)
      have eF : F_X8_errorPosition σ = .inl (σ 220 9) := by unfold F_X8_errorPosition; rw [if_neg z]
      refine .inl ⟨σ 220 9, eF, by unfold W_errorPosition; rw [eF], trivial, ?_⟩
      have e9 : (q_up σ 237 0 (σ 220 9)) 229 = σ 229 := q_up_off (by decide)
      unfold F_X9_errorPosition
      rw [e9, if_neg zm, ← g1]
  obtain ⟨c1, c2, c3, c4, c5⟩ := z_askX (PM := fun _ => True) hJ (W_errorPosition σ) ha
  exact ⟨⟨c1, c2, c3, c4⟩, c5⟩
theorem sq_failedCommand {k : Nat} {σ : q_M} (hk : k < 512) (hI : z_Inv k σ) : sim_failedCommand σ ∧ z_Inv (k + 1) (to_failedCommand σ) := by
  obtain ⟨b, t, nw, sz, hb, ht, sb, st, hJ⟩ := hI
  obtain ⟨g1, g2, g3, g4⟩ := hJ.2.2.2.2.2.2.2.2.2.2.1
  have hz : σ 220 10 = -1 ↔ σ 229 7 < 0 := by
    rw [← g2]
    rcases g4 with h | ⟨n, hn, h⟩
    · rw [h]; decide
    · rw [h]
      exact ⟨fun q => absurd q (fun q => by have : (nI n).toInt = (-1 : Int32).toInt := by rw [q]
                                            rw [nI_toInt hn] at this
                                            have e : (-1 : Int32).toInt = -1 := by decide
                                            omega), fun q => absurd q (nI_pos hn)⟩
  have ha : (∃ v, F_X8_failedCommand σ = .inl v ∧ W_failedCommand σ = (0, q_up σ 237 0 v) ∧ True ∧ F_X9_failedCommand (q_up σ 237 0 v) = (v, q_up (q_up σ 237 0 v) 229 5 0)) ∨ (∃ E c x, F_X8_failedCommand σ = .inr E ∧ W_failedCommand σ = (q_code nx_failedCommand E, σ) ∧ E ∈ nx_failedCommand ∧ q_code nx_failedCommand E = nI c ∧ 1 ≤ c ∧ c ≤ 3 ∧ True ∧ F_X9_failedCommand σ = (x, q_up σ 229 5 (nI c))) := by
    by_cases z : σ 220 10 = -1
    · have zm : σ 229 7 < 0 := hz.mp z
      have eF : F_X8_failedCommand σ = .inr "java/util/NoSuchElementException" := by unfold F_X8_failedCommand; rw [if_pos z]
      exact .inr ⟨"java/util/NoSuchElementException", 1, 0, eF, by unfold W_failedCommand; rw [eF], by simp, by decide +kernel, by decide, by decide, trivial, by unfold F_X9_failedCommand; rw [if_pos zm]; rfl⟩
    · have zm : ¬ σ 229 7 < 0 := fun q => z (hz.mpr q)
      have eF : F_X8_failedCommand σ = .inl (σ 220 10) := by unfold F_X8_failedCommand; rw [if_neg z]
      refine .inl ⟨σ 220 10, eF, by unfold W_failedCommand; rw [eF], trivial, ?_⟩
      have e9 : (q_up σ 237 0 (σ 220 10)) 229 = σ 229 := q_up_off (by decide)
      unfold F_X9_failedCommand
      rw [e9, if_neg zm, ← g2]
  obtain ⟨c1, c2, c3, c4, c5⟩ := z_askX (PM := fun _ => True) hJ (W_failedCommand σ) ha
  exact ⟨⟨c1, c2, c3, c4⟩, c5⟩
