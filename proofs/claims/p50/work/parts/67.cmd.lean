/-! What the commands start, run, quit and speed do. -/
theorem z_W_of {k : Nat} {b x : Nat → Nat} (a0 : 20 ≤ x 0 ∧ x 0 ≤ 99) (a1 : 20 ≤ x 1 ∧ x 1 ≤ 99) (a2 : 20 ≤ x 2 ∧ x 2 ≤ 99) (a3 : 20 ≤ x 3 ∧ x 3 ≤ 99) (c4 : 1 ≤ x 4 ∧ x 4 ≤ 6) (c5 : x 5 ≤ 10 * k) (c6 : x 6 ≤ 3) (c7 : x 7 ≤ (x 8 + 1) * b 0 + 300) (c8 : x 8 ≤ 3) (c9 : x 9 ≤ b 2) (c10 : x 10 ≤ 20 * k) (c11 : x 11 ≤ 1) (c12 : x 12 ≤ 1) (c13 : x 13 ≤ b 2) (l0 : x 14 ≤ b 2 + 1 ∧ (1 ≤ x 14 ↔ 0 < x 8 ∨ x 6 = 2)) (l1 : x 15 ≤ b 2 + 1 ∧ (1 ≤ x 15 ↔ 1 < x 8 ∨ x 6 = 2)) (l2 : x 16 ≤ b 2 + 1 ∧ (1 ≤ x 16 ↔ 2 < x 8 ∨ x 6 = 2)) (l3 : x 17 ≤ b 2 + 1 ∧ (1 ≤ x 17 ↔ 3 < x 8 ∨ x 6 = 2)) (c18 : x 18 ≤ b 2) (cf : x 6 = 2 → x 8 = 3) (cr : x 6 = 1 → x 8 = 3 → x 7 < 4 * b 0) (cu : b 1 = 0 → x 6 = 0 ∧ x 7 = 0 ∧ x 8 = 0) : z_W0 k b x := by
  refine ⟨fun j hj => ?_, c4, c5, c6, c7, c8, c9, c10, c11, c12, c13, fun j hj => ?_, c18, cf, cr, cu⟩
  · rcases (show j = 0 ∨ j = 1 ∨ j = 2 ∨ j = 3 by omega) with rfl | rfl | rfl | rfl
    · exact a0
    · exact a1
    · exact a2
    · exact a3
  · rcases (show j = 0 ∨ j = 1 ∨ j = 2 ∨ j = 3 by omega) with rfl | rfl | rfl | rfl
    · exact l0
    · exact l1
    · exact l2
    · exact l3
theorem z_W_to {k : Nat} {b x : Nat → Nat} (h : z_W0 k b x) : ((20 ≤ x 0 ∧ x 0 ≤ 99) ∧ (20 ≤ x 1 ∧ x 1 ≤ 99) ∧ (20 ≤ x 2 ∧ x 2 ≤ 99) ∧ (20 ≤ x 3 ∧ x 3 ≤ 99)) ∧ ((1 ≤ x 4 ∧ x 4 ≤ 6) ∧ x 5 ≤ 10 * k ∧ x 6 ≤ 3 ∧ x 7 ≤ (x 8 + 1) * b 0 + 300 ∧ x 8 ≤ 3 ∧ x 9 ≤ b 2 ∧ x 10 ≤ 20 * k ∧ x 11 ≤ 1 ∧ x 12 ≤ 1 ∧ x 13 ≤ b 2) ∧ ((x 14 ≤ b 2 + 1 ∧ (1 ≤ x 14 ↔ 0 < x 8 ∨ x 6 = 2)) ∧ (x 15 ≤ b 2 + 1 ∧ (1 ≤ x 15 ↔ 1 < x 8 ∨ x 6 = 2)) ∧ (x 16 ≤ b 2 + 1 ∧ (1 ≤ x 16 ↔ 2 < x 8 ∨ x 6 = 2)) ∧ (x 17 ≤ b 2 + 1 ∧ (1 ≤ x 17 ↔ 3 < x 8 ∨ x 6 = 2))) ∧ x 18 ≤ b 2 ∧ (x 6 = 2 → x 8 = 3) ∧ (x 6 = 1 → x 8 = 3 → x 7 < 4 * b 0) ∧ (b 1 = 0 → x 6 = 0 ∧ x 7 = 0 ∧ x 8 = 0) :=
  ⟨⟨h.sp 0 (by decide), h.sp 1 (by decide), h.sp 2 (by decide), h.sp 3 (by decide)⟩, ⟨h.ln, h.pn, h.st, h.ps, h.lg, h.sr, h.sd, h.lf, h.df, h.lp⟩, ⟨h.sl 0 (by decide), h.sl 1 (by decide), h.sl 2 (by decide), h.sl 3 (by decide)⟩, h.tm, h.fi, h.ru, h.un⟩
theorem z_10 : ((1 : Int32) = 0) = False := eq_false (by decide)
theorem z_01 : ((0 : Int32) = 1) = False := eq_false (by decide)
theorem z_R.ubg {c : q_M} {r : Nat} {b : Nat → Nat} {t : Nat → Nat → Nat} (h : z_R c r b t) {y : Nat} : z_R (q_up c r 1 (nI y)) r (z_up b 1 y) t := by
  refine ⟨by rw [q_up_eq]; rfl, by rw [q_up_nj (by decide)]; exact h.ck, by rw [q_up_nj (by decide)]; exact h.ll, fun i hi hb => ?_, fun i hi hb => ?_⟩
  · exact (h.te i hi hb).off (q_up_off (by omega)) (q_up_off (by omega)) (q_up_off (by omega))
  · exact (h.ab i hi hb).off (q_up_off (by omega)) (q_up_off (by omega)) (q_up_off (by omega))
theorem z_R.ull {c : q_M} {r : Nat} {b : Nat → Nat} {t : Nat → Nat → Nat} (h : z_R c r b t) {y : Nat} : z_R (q_up c r 3 (nI y)) r (z_up b 0 y) t := by
  refine ⟨by rw [q_up_nj (by decide)]; exact h.bg, by rw [q_up_nj (by decide)]; exact h.ck, by rw [q_up_eq]; rfl, fun i hi hb => ?_, fun i hi hb => ?_⟩
  · exact (h.te i hi hb).off (q_up_off (by omega)) (q_up_off (by omega)) (q_up_off (by omega))
  · exact (h.ab i hi hb).off (q_up_off (by omega)) (q_up_off (by omega)) (q_up_off (by omega))
theorem z_V.stt {k : Nat} {b : Nat → Nat} {t : Nat → Nat → Nat} (h : z_V k b t) : ∀ w, w < b 3 → t w 6 ≤ 3 := fun w hw => (h.te w hw).st
/-! start -/
theorem z_begL {r : Nat} (hr : r + 20 ≤ 220) {b : Nat → Nat} {t : Nat → Nat → Nat} (h0 : ∀ w, w < b 3 → t w 6 = 0) :
    ∀ (nn w : Nat) (τ : q_M), 7 ≤ nn + w → w ≤ 6 → z_R τ r b (z_mp (fun _ x => z_up x 6 1) (b 3) w t) → PL_X4_begin_15 r nn (nI w) τ ∧ z_R (FL_X4_begin_15 r nn (nI w) τ) r b (z_mp (fun _ x => z_up x 6 1) (b 3) 6 t) ∧ (∀ a, a < r ∨ r + 20 ≤ a → (FL_X4_begin_15 r nn (nI w) τ) a = τ a) := by
  intro nn
  induction nn with
  | zero => intro w τ h1 h2; omega
  | succ nn ih =>
    intro w τ h1 h2 hR
    have e6 : (nI w < 6) = (w < 6) := by rw [z_l6, z_lt (by omega) (by omega)]
    unfold PL_X4_begin_15 FL_X4_begin_15
    by_cases h6 : w < 6
    · have hc : (nI w).toNatClampNeg = w := nI_clamp (by omega)
      simp only [e6, hc, z_place, z_l1, z_add]
      rw [if_pos h6]
      by_cases hwn : w < b 3
      · have hTw := hR.te w h6 hwn
        rw [z_mp_w] at hTw
        have est : τ (r + 2 + 3 * w) 3 = nI 1 := by rw [hTw.st, h0 w hwn]
        have hT2 : z_T (q_up τ (r + 2 + 3 * w) 3 2) (r + 2 + 3 * w) w (z_up (t w) 6 1) := hTw.st_ (y := 1) (fun _ => hTw.lp (by rw [h0 w hwn]; decide))
        have hR2 := hR.team hwn hT2 (fun a e1 _ _ => q_up_off e1)
        rw [z_mp_s (f := fun _ x => z_up x 6 1) hwn] at hR2
        obtain ⟨q1, q3, q4⟩ := ih (w + 1) _ (by omega) (by omega) hR2
        rw [if_pos est]
        refine ⟨⟨fun _ => ⟨z_in h6 (by decide), fun _ => q1, fun q => absurd est q⟩, fun q => absurd h6 q⟩, q3, fun a ha => ?_⟩
        exact (q4 a ha).trans (q_up_off (by omega))
      · have hA := hR.ab w h6 (by omega)
        have est : ¬ τ (r + 2 + 3 * w) 3 = nI 1 := by
          rw [hA.st]
          decide
        have hR2 := hR
        rw [z_mp_ge (by omega), ← z_mp_ge (show b 3 ≤ w + 1 by omega)] at hR2
        obtain ⟨q1, q3, q4⟩ := ih (w + 1) τ (by omega) (by omega) hR2
        rw [if_neg est]
        exact ⟨⟨fun _ => ⟨z_in h6 (by decide), fun q => absurd q est, fun _ => q1⟩, fun q => absurd h6 q⟩, q3, q4⟩
    · have e : w = 6 := by omega
      subst e
      rw [if_neg (by rw [e6]; exact h6)]
      exact ⟨⟨fun q => absurd (e6 ▸ q) h6, fun _ => trivial⟩, hR, fun _ _ => rfl⟩
theorem z_staL {b : Nat → Nat} {t : Nat → Nat → Nat} (hn : b 3 ≤ 6) :
    ∀ (nn w : Nat) (τ : q_M), 7 ≤ nn + w → w ≤ b 3 → z_M τ b (z_mp (fun _ x => z_up x 6 1) (b 3) w t) → PL_X9_starts_40 nn (nI w) τ ∧ (FL_X9_starts_40 nn (nI w) τ).1 = nI (b 3) ∧ z_M (FL_X9_starts_40 nn (nI w) τ).2 b (z_mp (fun _ x => z_up x 6 1) (b 3) (b 3) t) ∧ (∀ a, a ≠ 230 → (FL_X9_starts_40 nn (nI w) τ).2 a = τ a) := by
  intro nn
  induction nn with
  | zero => intro w τ h1 h2; omega
  | succ nn ih =>
    intro w τ h1 h2 hM
    have e3 : (nI w < τ 230 3) = (w < b 3) := by rw [hM.bs 3 (by decide), z_lt (by omega) (by omega)]
    unfold PL_X9_starts_40 FL_X9_starts_40
    by_cases hwn : w < b 3
    · have h6 : w < 6 := by omega
      have hM2 : z_M (F_X9_sets (nI w) 6 1 τ) b _ := hM.s6 (y := 1) h6
      rw [z_mp_w, z_mp_s (f := fun _ x => z_up x 6 1) hwn] at hM2
      obtain ⟨q1, q2, q3, q4⟩ := ih (w + 1) _ (by omega) (by omega) hM2
      have ew : nI w + 1 = nI (w + 1) := by rw [z_l1, z_add]
      simp only [e3, ew, q_L, forall_eq']
      rw [if_pos hwn]
      exact ⟨⟨fun _ => ⟨z_q6 h6, q1⟩, fun q => absurd hwn q⟩, q2, q3, fun a ha => (q4 a ha).trans (z_offs (k := 6) h6 (by decide) ha)⟩
    · simp only [e3]
      rw [if_neg hwn]
      have e : w = b 3 := by omega
      subst e
      exact ⟨⟨fun q => absurd q hwn, fun _ => trivial⟩, hM.bs 3 (by decide), hM, fun _ _ => rfl⟩
theorem z_V_start {k : Nat} {b : Nat → Nat} {t : Nat → Nat → Nat} (h : z_V k b t) (h0 : b 1 = 0) : z_V (k + 1) (z_up b 1 1) (z_mp (fun _ x => z_up x 6 1) (b 3) (b 3) t) := by
  have hk := h.k (show k ≤ k + 1 by omega)
  refine ⟨hk.l0, hk.l1, Nat.le_refl _, hk.ck, hk.n6, fun w hw => ?_, fun w hw h3 j hj => ?_, z_ls hk.ls rfl (fun w hw => by rw [z_mp_i hw]; rfl)⟩
  · have hw : w < b 3 := hw
    rw [z_mp_i hw]
    obtain ⟨⟨a0, a1, a2, a3⟩, ⟨c4, c5, c6, c7, c8, c9, c10, c11, c12, c13⟩, ⟨l0, l1, l2, l3⟩, c18, cf, cr, cu⟩ := z_W_to (hk.te w hw).1
    obtain ⟨u1, u2, u3⟩ := cu h0
    obtain ⟨x1, -, x3, x4, -⟩ := (hk.te w hw).2
    have x3 := x3 (by omega)
    refine ⟨?_, by unfold z_E; exact ⟨x1, (fun q => absurd (show (1 : Nat) = 2 from q) (by decide)), fun _ => x3, x4, (fun q => absurd (show (1 : Nat) = 2 from q) (by decide)), fun q => absurd (show (1 : Nat) = 0 from q) (by decide)⟩⟩
    clear x1 x3 x4
    have l0' := h.l0
    generalize t w = x at *
    refine z_W_of ?_ ?_ ?_ ?_ ?_ ?_ ?_ ?_ ?_ ?_ ?_ ?_ ?_ ?_ ?_ ?_ ?_ ?_ ?_ ?_ ?_ ?_ <;> (try simp [z_up]) <;> omega
  · have h3 : b 3 ≤ w := h3
    rw [z_mp_o h3]
    exact h.ab w hw h3 j hj
theorem z_start {k : Nat} {b : Nat → Nat} {t : Nat → Nat → Nat} (hV : z_V k b t) : z_same 1 k b t (fun c => if c = 0 then 10 else 13) (P_X4_faultOfStarting 0) (fun σ => (F_X4_faultOfStarting 0 σ, σ)) (fun σ => P_X4_begin 0 σ ∧ P_X4_countEntered 0 (F_X4_begin 0 σ)) (fun σ => (F_X4_countEntered 0 (F_X4_begin 0 σ), F_X4_begin 0 σ)) P_X9_starts F_X9_starts := by
  have hb := hV.bg
  have n6 := hV.n6
  have hPf : ∀ σ, z_R σ 0 b t → P_X4_faultOfStarting 0 σ := fun σ hR => ⟨fun _ => ⟨(z_entered n6 hV.stt hR).1, trivial⟩, fun _ => trivial⟩
  by_cases h1 : b 1 = 1
  · refine z_fail 1 (by decide) (by decide) hV (fun σ hR => ⟨hPf σ hR, ?_⟩) (fun τ hM => ?_)
    · have e : ¬ σ 0 1 = 0 := by rw [hR.bg, h1]; decide
      simp only [F_X4_faultOfStarting]
      rw [if_neg e]
      rfl
    · have e := z_unp hM hb
      rw [h1] at e
      have e2 : ¬ F_X9_isUnprepared τ = 0 := by rw [e]; decide
      unfold P_X9_starts F_X9_starts
      rw [if_neg e2]
      exact ⟨⟨fun q => absurd q e2, fun _ => trivial⟩, rfl⟩
  · have h1 : b 1 = 0 := by omega
    by_cases h3 : b 3 = 0
    · refine z_fail 1 (by decide) (by decide) hV (fun σ hR => ⟨hPf σ hR, ?_⟩) (fun τ hM => ?_)
      · have e : σ 0 1 = 0 := by rw [hR.bg, h1]; rfl
        simp only [F_X4_faultOfStarting]
        rw [if_pos e, (z_entered n6 hV.stt hR).2, h3, if_pos (show nI 0 = 0 from rfl)]
        rfl
      · have e := z_unp hM hb
        rw [h1] at e
        have e2 : F_X9_isUnprepared τ = 0 := by rw [e]; rfl
        have e3 : τ 230 3 = 0 := by rw [hM.bs 3 (by decide), h3]; rfl
        unfold P_X9_starts F_X9_starts
        rw [if_pos e2, if_pos e3]
        exact ⟨⟨fun _ => ⟨fun _ => trivial, fun q => absurd e3 q⟩, fun q => absurd e2 q⟩, rfl⟩
    · have hV' := z_V_start hV h1
      refine z_done (b 3) (z_up b 1 1) (z_mp (fun _ x => z_up x 6 1) (b 3) (b 3) t) hV' (by have := hV.n6; omega) (fun σ hR => ⟨hPf σ hR, ?_⟩) (fun σ hR => ?_) (fun τ hM => ?_)
      · have e : σ 0 1 = 0 := by rw [hR.bg, h1]; rfl
        simp only [F_X4_faultOfStarting]
        rw [if_pos e, (z_entered n6 hV.stt hR).2, if_neg (nI_ne0 (by omega) (by omega))]
        rfl
      · have hR1 := hR.ubg (y := 1)
        obtain ⟨p1, p2, p3⟩ := z_begL (r := 0) (by decide) (b := z_up b 1 1) (t := t) (fun w hw => ((hV.te w hw).un h1).1) 10 0 (q_up σ 0 1 (nI 1)) (by decide) (by decide) (by rw [z_mp_0]; exact hR1)
        have p2 : z_R (F_X4_begin 0 σ) 0 (z_up b 1 1) (z_mp (fun _ x => z_up x 6 1) (b 3) 6 t) := p2
        rw [z_mp_ge n6] at p2
        have ee := z_entered (b := z_up b 1 1) n6 hV'.stt p2
        refine ⟨⟨p1, ee.1⟩, ee.2, p2, fun a ha => ?_⟩
        exact (p3 a (.inr ha)).trans (q_up_off (by omega))
      · have e := z_unp hM hb
        rw [h1] at e
        have e2 : F_X9_isUnprepared τ = 0 := by rw [e]; rfl
        have e3 : ¬ τ 230 3 = 0 := by rw [hM.bs 3 (by decide)]; exact nI_ne0 (by omega) (by omega)
        have hM1 : z_M (q_up (q_up τ 229 5 0) 230 1 1) (z_up b 1 1) t := (hM.u9 (j := 5) (v := 0)).ub (k := 1) (y := 1) (by decide)
        obtain ⟨p1, p2, p3, p4⟩ := z_staL (b := z_up b 1 1) (t := t) n6 10 0 _ (by decide) (Nat.zero_le _) (by rw [z_mp_0]; exact hM1)
        unfold P_X9_starts F_X9_starts
        rw [if_pos e2, if_neg e3]
        refine ⟨⟨fun _ => ⟨fun q => absurd q e3, fun _ => p1⟩, fun q => absurd e2 q⟩, p2, ?_, p3, ?_⟩
        · have e5 := p4 229 (by decide)
          have e5 : (FL_X9_starts_40 10 0 (q_up (q_up τ 229 5 0) 230 1 1)).2 229 = (q_up (q_up τ 229 5 0) 230 1 1) 229 := e5
          rw [e5, q_up_nk (by decide), q_up_eq]
        · have hf : z_fs τ (q_up (q_up τ 229 5 0) 230 1 1) := (z_fs.u5 τ 0).tr (z_fs.of (fun a ha => q_up_off ha))
          exact hf.tr (z_fs.of p4)
/-! run -/
theorem z_ef1 (L T n : Nat) (t : Nat → Nat → Nat) (i : Nat) : z_ef L T n t i ≤ 1 := by
  unfold z_ef
  split <;> omega
theorem z_fn_le (L n : Nat) : ∀ (s T : Nat) (t : Nat → Nat → Nat), z_fn L n s T t ≤ 6 * s := by
  intro s
  induction s with
  | zero => intro T t; exact Nat.le_refl _
  | succ s ih =>
    intro T t
    have h1 := z_sm_le (f := z_ef L (T + 1) n t) 1 6 0 (fun i _ _ => z_ef1 _ _ _ _ _)
    have h2 := ih (T + 1) (z_sec L (T + 1) n 6 t)
    show z_sm (z_ef L (T + 1) n t) 0 6 + z_fn L n s (T + 1) (z_sec L (T + 1) n 6 t) ≤ _
    omega
theorem z_run {k : Nat} {b : Nat → Nat} {t : Nat → Nat → Nat} (hV : z_V k b t) (hk : k < 20000) (g : Int32) : z_same 2 k b t (fun c => if c = 0 then 10 else if c = 1 then 12 else 13) (fun _ => True) (fun σ => (F_X4_faultOfRunning 0 g σ, σ)) (P_X4_letSecondsPass 0 g) (F_X4_letSecondsPass 0 g) (P_X9_secondsPass g) (F_X9_secondsPass g) := by
  have hb := hV.bg
  have n6 := hV.n6
  by_cases g1 : g < 1
  · refine z_fail 1 (by decide) (by decide) hV (fun σ hR => ⟨trivial, ?_⟩) (fun τ hM => ?_)
    · simp only [F_X4_faultOfRunning]
      rw [if_pos g1]
      rfl
    · have e : F_X9_isIn g 1 200 τ = 0 := by unfold F_X9_isIn; rw [if_pos g1]
      unfold P_X9_secondsPass F_X9_secondsPass
      rw [if_pos e]
      exact ⟨⟨fun _ => trivial, fun q => absurd e q⟩, rfl⟩
  · by_cases g2 : 200 < g
    · refine z_fail 1 (by decide) (by decide) hV (fun σ hR => ⟨trivial, ?_⟩) (fun τ hM => ?_)
      · simp only [F_X4_faultOfRunning]
        rw [if_neg g1, if_pos g2]
        rfl
      · have e : F_X9_isIn g 1 200 τ = 0 := by unfold F_X9_isIn; rw [if_neg g1, if_pos g2]
        unfold P_X9_secondsPass F_X9_secondsPass
        rw [if_pos e]
        exact ⟨⟨fun _ => trivial, fun q => absurd e q⟩, rfl⟩
    · obtain ⟨S, s1, s2, rfl⟩ := z_rg (a := 1) (b := 200) (by decide) (by decide) g1 g2
      have e : ∀ τ, F_X9_isIn (nI S) 1 200 τ = 1 := fun τ => by unfold F_X9_isIn; rw [if_neg g1, if_neg g2]
      by_cases h1 : b 1 = 1
      · have hV1 := hV.k (show k ≤ k + 1 by omega)
        have hck := hV.ck
        have hV' := hV1.rn S h1 (by omega)
        refine z_done (z_fn (b 0) (b 3) S (b 2) t) (z_up b 2 (b 2 + S)) (z_rn (b 0) (b 3) S (b 2) t) hV' (by have := z_fn_le (b 0) (b 3) S (b 2) t; omega) (fun σ hR => ⟨trivial, ?_⟩) (fun σ hR => ?_) (fun τ hM => ?_)
        · have e : ¬ σ 0 1 = 0 := by rw [hR.bg, h1]; decide
          simp only [F_X4_faultOfRunning]
          rw [if_neg g1, if_neg g2, if_neg e]
          rfl
        · obtain ⟨p1, p2, p3, p4⟩ := z_run4 (r := 0) (k := k + 1) (S := S) (by decide) (by omega) s2 S 201 0 0 σ (by omega) (by omega) h1 hV1 (by omega) hR
          rw [Nat.zero_add] at p2
          exact ⟨p1, p2, p3, fun a ha => p4 a (.inr ha)⟩
        · have hM1 : z_M (q_up τ 229 5 0) b t := hM.u9
          have eu := z_unp hM1 hb
          rw [h1] at eu
          have eu2 : ¬ F_X9_isUnprepared (q_up τ 229 5 0) = 0 := by rw [eu]; decide
          have hi := z_inSt (q := 2) n6 (by decide) hV.stt hM1
          have hi2 : F_X9_inStatus 2 (q_up τ 229 5 0) = nI (z_sm (z_is t 2) 0 (b 3)) := hi.2
          obtain ⟨p1, p2, p3, p4⟩ := z_run54 (k := k + 1) (S := S) (by omega) s2 (z_sm (z_is t 2) 0 (b 3)) S 201 0 (q_up τ 229 5 0) (by omega) (by omega) h1 hV1 (by omega) (Nat.le_refl _) hM1
          simp only [P_X9_secondsPass, F_X9_secondsPass, e, z_10, if_false, q_L, z_uu, forall_eq', hi2]
          rw [if_neg eu2]
          refine ⟨⟨fun q => absurd q (by decide), fun _ => ⟨fun q => absurd q eu2, fun _ => ⟨hi.1, p1⟩⟩⟩, ?_, ?_, p3, ?_⟩
          · refine p2.trans (congrArg nI ?_)
            omega
          · have e5 : (FL_X9_secondsPass_54 (nI S) (nI (z_sm (z_is t 2) 0 (b 3))) 201 0 (q_up τ 229 5 0)).2 229 = (q_up τ 229 5 0) 229 := p4 229 (by decide)
            rw [e5, q_up_eq]
          · exact (z_fs.u5 τ 0).tr (z_fs.of p4)
      · have h1 : b 1 = 0 := by omega
        refine z_fail 2 (by decide) (by decide) hV (fun σ hR => ⟨trivial, ?_⟩) (fun τ hM => ?_)
        · have e : σ 0 1 = 0 := by rw [hR.bg, h1]; rfl
          simp only [F_X4_faultOfRunning]
          rw [if_neg g1, if_neg g2, if_pos e]
          rfl
        · have hM1 : z_M (q_up τ 229 5 0) b t := hM.u9
          have eu := z_unp hM1 hb
          rw [h1] at eu
          have eu2 : F_X9_isUnprepared (q_up τ 229 5 0) = 0 := by rw [eu]; rfl
          simp only [P_X9_secondsPass, F_X9_secondsPass, e, z_10, if_false, q_L, z_uu, forall_eq']
          rw [if_pos eu2]
          exact ⟨⟨fun q => absurd q (by decide), fun _ => ⟨fun _ => trivial, fun q => absurd eu2 q⟩⟩, rfl⟩
