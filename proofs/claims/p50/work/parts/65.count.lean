/-! Counts, whole runs. -/
theorem z_up_self (x : Nat → Nat) (j : Nat) : z_up x j (x j) = x := by
  funext i
  unfold z_up
  by_cases h : i = j
  · subst h; rw [if_pos rfl]
  · rw [if_neg h]
theorem z_up_up (x : Nat → Nat) (j u v : Nat) : z_up (z_up x j u) j v = z_up x j v := by
  funext i
  unfold z_up
  by_cases h : i = j <;> simp [h]
def z_is (t : Nat → Nat → Nat) (q i : Nat) : Nat := if t i 6 = q then 1 else 0
theorem z_inStL {b : Nat → Nat} {t : Nat → Nat → Nat} {q : Nat} (hn : b 3 ≤ 6) (hq : q ≤ 3) (hst : ∀ w, w < b 3 → t w 6 ≤ 3) {τ : q_M} (hM : z_M τ b t) :
    ∀ (nn w a : Nat), 7 ≤ nn + w → w ≤ b 3 → PL_X9_inStatus_4 (nI q) nn (nI a) (nI w) τ ∧ FL_X9_inStatus_4 (nI q) nn (nI a) (nI w) τ = nI (a + z_sm (z_is t q) w (b 3 - w)) := by
  intro nn
  induction nn with
  | zero => intro w a h1 h2; omega
  | succ nn ih =>
    intro w a h1 h2
    have e3 : (nI w < τ 230 3) = (w < b 3) := by rw [hM.bs 3 (by decide), z_lt (by omega) (by omega)]
    unfold PL_X9_inStatus_4 FL_X9_inStatus_4
    by_cases hwn : w < b 3
    · have h6 : w < 6 := by omega
      have h3 := hst w hwn
      have hsm : z_sm (z_is t q) w (b 3 - w) = z_is t q w + z_sm (z_is t q) (w + 1) (b 3 - (w + 1)) := by
        rw [show b 3 - w = (b 3 - (w + 1)) + 1 by omega]
        rfl
      have e1 : (if F_X9_of (nI w) 6 τ = nI q then nI 1 else 0) = nI (z_is t q w) := by
        unfold z_is
        rw [hM.o6 h6]
        simp (disch := omega) only [z_eq]
        split <;> rfl
      obtain ⟨q1, q2⟩ := ih (w + 1) (a + z_is t q w) (by omega) (by omega)
      simp only [e3, e1, z_l1, z_add, q_L]
      rw [if_pos hwn]
      refine ⟨⟨fun _ => ⟨z_p6 h6, trivial, fun x3 hx => ?_⟩, fun q => absurd hwn q⟩, ?_⟩
      · have hx' : x3 = nI (z_is t q w) := hx ▸ e1.symm ▸ rfl
        subst hx'
        rw [z_add]
        exact q1
      · rw [q2, hsm, Nat.add_assoc]
    · simp only [e3]
      rw [if_neg hwn]
      refine ⟨⟨fun q => absurd q hwn, fun _ => trivial⟩, ?_⟩
      rw [show b 3 - w = 0 by omega]
      rfl
theorem z_inSt {b : Nat → Nat} {t : Nat → Nat → Nat} {q : Nat} (hn : b 3 ≤ 6) (hq : q ≤ 3) (hst : ∀ w, w < b 3 → t w 6 ≤ 3) {τ : q_M} (hM : z_M τ b t) : P_X9_inStatus (nI q) τ ∧ F_X9_inStatus (nI q) τ = nI (z_sm (z_is t q) 0 (b 3)) := by
  have h := z_inStL hn hq hst hM 8 0 0 (by omega) (by omega)
  rw [Nat.zero_add, Nat.sub_zero] at h
  exact h
/-- a team's stage as the class has it -/
def z_sg (b : Nat → Nat) (t : Nat → Nat → Nat) (q i : Nat) : Nat := if (if i < b 3 then t i 6 + 1 else 0) = q then 1 else 0
theorem z_stg {c : q_M} {r : Nat} {b : Nat → Nat} {t : Nat → Nat → Nat} (hR : z_R c r b t) {w : Nat} (hw : w < 6) : c (r + 2 + 3 * w) 3 = nI (if w < b 3 then t w 6 + 1 else 0) := by
  by_cases h : w < b 3
  · rw [if_pos h]
    exact (hR.te w hw h).st
  · rw [if_neg h]
    exact (hR.ab w hw (by omega)).st
theorem z_cntL {b : Nat → Nat} {t : Nat → Nat → Nat} {q r : Nat} (hq : q ≤ 4) (hst : ∀ w, w < b 3 → t w 6 ≤ 3) {τ : q_M} (hR : z_R τ r b t) :
    ∀ (nn w a : Nat), 7 ≤ nn + w → w ≤ 6 → PL_X4_countIn_14 r (nI q) nn (nI a) (nI w) τ ∧ FL_X4_countIn_14 r (nI q) nn (nI a) (nI w) τ = nI (a + z_sm (z_sg b t q) w (6 - w)) := by
  intro nn
  induction nn with
  | zero => intro w a h1 h2; omega
  | succ nn ih =>
    intro w a h1 h2
    have e6 : (nI w < 6) = (w < 6) := by rw [z_l6, z_lt (by omega) (by omega)]
    unfold PL_X4_countIn_14 FL_X4_countIn_14
    by_cases h6 : w < 6
    · have hc : (nI w).toNatClampNeg = w := nI_clamp (by omega)
      have hsm : z_sm (z_sg b t q) w (6 - w) = z_sg b t q w + z_sm (z_sg b t q) (w + 1) (6 - (w + 1)) := by
        rw [show 6 - w = (6 - (w + 1)) + 1 by omega]
        rfl
      have e1 : (τ (r + 2 + 3 * w) 3 = nI q) = ((if w < b 3 then t w 6 + 1 else 0) = q) := by
        rw [z_stg hR h6, z_eq _ (by omega)]
        split
        · have := hst w (by assumption); omega
        · omega
      simp only [e6, hc, z_place, e1, z_l1, z_add]
      rw [if_pos h6]
      by_cases h : (if w < b 3 then t w 6 + 1 else 0) = q
      · have eg : z_sg b t q w = 1 := if_pos h
        obtain ⟨q1, q2⟩ := ih (w + 1) (a + 1) (by omega) (by omega)
        rw [if_pos h]
        refine ⟨⟨fun _ => ⟨z_in h6 (by decide), fun _ => q1, fun z => absurd h z⟩, fun z => absurd h6 z⟩, ?_⟩
        rw [q2, hsm, eg, Nat.add_assoc]
      · have eg : z_sg b t q w = 0 := if_neg h
        obtain ⟨q1, q2⟩ := ih (w + 1) a (by omega) (by omega)
        rw [if_neg h]
        refine ⟨⟨fun _ => ⟨z_in h6 (by decide), fun z => absurd z h, fun _ => q1⟩, fun z => absurd h6 z⟩, ?_⟩
        rw [q2, hsm, eg, Nat.zero_add]
    · simp only [e6]
      rw [if_neg h6]
      refine ⟨⟨fun z => absurd z h6, fun _ => trivial⟩, ?_⟩
      rw [show 6 - w = 0 by omega]
      rfl
theorem z_cnt {b : Nat → Nat} {t : Nat → Nat → Nat} {q r : Nat} (hq : q ≤ 4) (hst : ∀ w, w < b 3 → t w 6 ≤ 3) {τ : q_M} (hR : z_R τ r b t) : P_X4_countIn r (nI q) τ ∧ F_X4_countIn r (nI q) τ = nI (z_sm (z_sg b t q) 0 6) := by
  have h := z_cntL hq hst hR 10 0 0 (by omega) (by omega)
  rw [Nat.zero_add, Nat.sub_zero] at h
  exact h
theorem z_cnt_st {b : Nat → Nat} {t : Nat → Nat → Nat} {q : Nat} (hn : b 3 ≤ 6) : z_sm (z_sg b t (q + 1)) 0 6 = z_sm (z_is t q) 0 (b 3) := by
  rw [z_sm_n hn (fun i h1 h2 => ?_)]
  · refine z_sm_cg _ _ (fun i _ h => ?_)
    unfold z_sg z_is
    rw [if_pos (show i < b 3 by omega)]
    by_cases e : t i 6 = q
    · rw [if_pos e, if_pos (by omega)]
    · rw [if_neg e, if_neg (by omega)]
  · unfold z_sg
    rw [if_neg (show ¬ i < b 3 by omega), if_neg (by omega)]
theorem z_sm_1 : ∀ (k w : Nat), z_sm (fun _ => 1) w k = k := by
  intro k
  induction k with
  | zero => intro w; rfl
  | succ k ih => intro w; show 1 + z_sm (fun _ => 1) (w + 1) k = k + 1; rw [ih]; omega
theorem z_cnt_ab {b : Nat → Nat} {t : Nat → Nat → Nat} (hn : b 3 ≤ 6) : z_sm (z_sg b t 0) 0 6 = 6 - b 3 := by
  have e : z_sm (z_sg b t 0) 0 6 = z_sm (z_sg b t 0) 0 (b 3) + z_sm (z_sg b t 0) (0 + b 3) (6 - b 3) := by
    rw [← z_sm_sp]
    congr 1
    omega
  rw [e, z_sm_0 (b 3) 0 (fun i h1 h2 => ?_), z_sm_cg (g := fun _ => 1) (6 - b 3) (0 + b 3) (fun i h1 h2 => ?_), z_sm_1]
  · omega
  · unfold z_sg
    rw [if_neg (show ¬ i < b 3 by omega), if_pos rfl]
  · unfold z_sg
    rw [if_pos (show i < b 3 by omega), if_neg (by omega)]
theorem z_running {b : Nat → Nat} {t : Nat → Nat → Nat} {r : Nat} (hn : b 3 ≤ 6) (hst : ∀ w, w < b 3 → t w 6 ≤ 3) {τ : q_M} (hR : z_R τ r b t) : P_X4_countRunning r τ ∧ F_X4_countRunning r τ = nI (z_sm (z_is t 1) 0 (b 3)) := by
  have h := z_cnt (q := 2) (by decide) hst hR
  rw [z_cnt_st hn] at h
  exact ⟨⟨h.1, trivial⟩, h.2⟩
theorem z_finished {b : Nat → Nat} {t : Nat → Nat → Nat} {r : Nat} (hn : b 3 ≤ 6) (hst : ∀ w, w < b 3 → t w 6 ≤ 3) {τ : q_M} (hR : z_R τ r b t) : P_X4_countFinished r τ ∧ F_X4_countFinished r τ = nI (z_sm (z_is t 2) 0 (b 3)) := by
  have h := z_cnt (q := 3) (by decide) hst hR
  rw [z_cnt_st hn] at h
  exact ⟨⟨h.1, trivial⟩, h.2⟩
theorem z_entered {b : Nat → Nat} {t : Nat → Nat → Nat} {r : Nat} (hn : b 3 ≤ 6) (hst : ∀ w, w < b 3 → t w 6 ≤ 3) {τ : q_M} (hR : z_R τ r b t) : P_X4_countEntered r τ ∧ F_X4_countEntered r τ = nI (b 3) := by
  have h := z_cnt (q := 0) (by decide) hst hR
  rw [z_cnt_ab hn] at h
  refine ⟨⟨h.1, trivial⟩, ?_⟩
  unfold F_X4_countEntered
  rw [show F_X4_countIn r 0 τ = nI (6 - b 3) from h.2, z_l6, z_sub (by omega), show 6 - (6 - b 3) = b 3 by omega]
/-! whole runs -/
def z_rn (L n : Nat) : Nat → Nat → (Nat → Nat → Nat) → (Nat → Nat → Nat)
  | 0, _, t => t
  | s + 1, T, t => z_rn L n s (T + 1) (z_sec L (T + 1) n 6 t)
def z_fn (L n : Nat) : Nat → Nat → (Nat → Nat → Nat) → Nat
  | 0, _, _ => 0
  | s + 1, T, t => z_sm (z_ef L (T + 1) n t) 0 6 + z_fn L n s (T + 1) (z_sec L (T + 1) n 6 t)
theorem z_st_4 (L T : Nat) (x : Nat → Nat) : z_st L T x 4 = x 4 := by
  unfold z_st
  split
  · rfl
  · split
    · split <;> rfl
    · split <;> rfl
/-- lanes that stay as they are -/
theorem z_ls {b b' : Nat → Nat} {t t' : Nat → Nat → Nat} (h : ∀ w, w < b 3 → t w 4 ≤ b 3 ∧ ∀ v, v < w → t v 4 ≠ t w 4) (e3 : b' 3 = b 3) (e : ∀ w, w < b 3 → t' w 4 = t w 4) : ∀ w, w < b' 3 → t' w 4 ≤ b' 3 ∧ ∀ v, v < w → t' v 4 ≠ t' w 4 := by
  intro w hw
  rw [e3] at hw ⊢
  rw [e w hw]
  exact ⟨(h w hw).1, fun v hv => by rw [e v (by omega)]; exact (h w hw).2 v hv⟩
theorem z_sec_4 {L T n w i : Nat} {t : Nat → Nat → Nat} : z_sec L T n w t i 4 = t i 4 := by
  unfold z_sec
  split
  · exact z_st_4 _ _ _
  · rfl
theorem z_V.sec {k : Nat} {b : Nat → Nat} {t : Nat → Nat → Nat} (h : z_V k b t) (hb : b 1 = 1) (hT : b 2 + 1 ≤ 200 * k) : z_V k (z_up b 2 (b 2 + 1)) (z_sec (b 0) (b 2 + 1) (b 3) 6 t) := by
  have n6 := h.n6
  refine ⟨h.l0, h.l1, h.bg, hT, h.n6, fun w hw => ?_, fun w hw h3 j hj => ?_, z_ls h.ls rfl (fun w hw => z_sec_4)⟩
  · have hw : w < b 3 := hw
    have hW := h.te w hw
    unfold z_sec
    by_cases c : t w 6 = 1
    · rw [if_pos ⟨by omega, hw, c⟩]
      exact z_st_W hW h.l0 h.l1 rfl rfl rfl hb c
    · rw [if_neg (fun q => c q.2.2)]
      exact hW.mono (Nat.le_refl _) rfl rfl (by show b 2 ≤ b 2 + 1; omega)
  · have h3 : b 3 ≤ w := h3
    unfold z_sec
    rw [if_neg (by omega)]
    exact h.ab w hw h3 j hj
theorem z_V.rn {k : Nat} : ∀ (s : Nat) {b : Nat → Nat} {t : Nat → Nat → Nat}, z_V k b t → b 1 = 1 → b 2 + s ≤ 200 * k → z_V k (z_up b 2 (b 2 + s)) (z_rn (b 0) (b 3) s (b 2) t) := by
  intro s
  induction s with
  | zero =>
    intro b t h hb hT
    show z_V k (z_up b 2 (b 2 + 0)) t
    rw [Nat.add_zero, z_up_self]
    exact h
  | succ s ih =>
    intro b t h hb hT
    have h2 := ih (h.sec hb (by omega)) hb (show b 2 + 1 + s ≤ 200 * k by omega)
    rw [z_up_up] at h2
    show z_V k (z_up b 2 (b 2 + (s + 1))) (z_rn (b 0) (b 3) s (b 2 + 1) (z_sec (b 0) (b 2 + 1) (b 3) 6 t))
    rw [show b 2 + (s + 1) = b 2 + 1 + s by omega]
    exact h2
theorem z_fn_cnt {k : Nat} : ∀ (s : Nat) {b : Nat → Nat} {t : Nat → Nat → Nat}, z_V k b t → b 1 = 1 → b 2 + s ≤ 200 * k → z_sm (z_is (z_rn (b 0) (b 3) s (b 2) t) 2) 0 (b 3) = z_sm (z_is t 2) 0 (b 3) + z_fn (b 0) (b 3) s (b 2) t := by
  intro s
  induction s with
  | zero => intro b t h hb hT; rfl
  | succ s ih =>
    intro b t h hb hT
    have h2 := ih (h.sec hb (by omega)) hb (show b 2 + 1 + s ≤ 200 * k by omega)
    show z_sm (z_is (z_rn (b 0) (b 3) s (b 2 + 1) (z_sec (b 0) (b 2 + 1) (b 3) 6 t)) 2) 0 (b 3) = z_sm (z_is t 2) 0 (b 3) + (z_sm (z_ef (b 0) (b 2 + 1) (b 3) t) 0 6 + z_fn (b 0) (b 3) s (b 2 + 1) (z_sec (b 0) (b 2 + 1) (b 3) 6 t))
    have e : z_sm (z_is (z_sec (b 0) (b 2 + 1) (b 3) 6 t) 2) 0 (b 3) = z_sm (z_is t 2) 0 (b 3) + z_sm (z_ef (b 0) (b 2 + 1) (b 3) t) 0 6 := by
      rw [z_sm_n (f := z_ef (b 0) (b 2 + 1) (b 3) t) h.n6 (fun i h1 _ => by unfold z_ef; rw [if_neg (fun q => by omega)])]
      refine z_sm_add _ _ (fun i _ hi => ?_)
      have n6 := h.n6
      have e6 : z_sec (b 0) (b 2 + 1) (b 3) 6 t i = if t i 6 = 1 then z_st (b 0) (b 2 + 1) (t i) else t i := by
        unfold z_sec
        by_cases c : t i 6 = 1
        · rw [if_pos c, if_pos ⟨by omega, by omega, c⟩]
        · rw [if_neg c, if_neg (fun q => c q.2.2)]
      unfold z_is z_ef
      rw [e6]
      by_cases c : t i 6 = 1
      · rw [if_pos c, if_neg (show ¬ t i 6 = 2 by omega)]
        by_cases f : z_st (b 0) (b 2 + 1) (t i) 6 = 2
        · rw [if_pos f, if_pos ⟨by omega, c, f⟩]
        · rw [if_neg f, if_neg (fun q => f q.2.2)]
      · rw [if_neg c, if_neg (show ¬ (i < b 3 ∧ t i 6 = 1 ∧ z_st (b 0) (b 2 + 1) (t i) 6 = 2) from fun q => c q.2.1)]
        rfl
    have h3 : z_sm (z_is (z_rn (b 0) (b 3) s (b 2 + 1) (z_sec (b 0) (b 2 + 1) (b 3) 6 t)) 2) 0 (b 3) = z_sm (z_is (z_sec (b 0) (b 2 + 1) (b 3) 6 t) 2) 0 (b 3) + z_fn (b 0) (b 3) s (b 2 + 1) (z_sec (b 0) (b 2 + 1) (b 3) 6 t) := h2
    rw [h3, e, Nat.add_assoc]
theorem z_run4 {r k S : Nat} (hr : r + 20 ≤ 220) (hk : k ≤ 20000) (hS : S ≤ 200) : ∀ (s nn j v2 : Nat) {b : Nat → Nat} {t : Nat → Nat → Nat} (τ : q_M), j + s = S → S + 1 ≤ nn + j → b 1 = 1 → z_V k b t → b 2 + s ≤ 200 * k → z_R τ r b t →
    PL_X4_letSecondsPass_4 r (nI S) nn (nI v2) (nI j) τ ∧ (FL_X4_letSecondsPass_4 r (nI S) nn (nI v2) (nI j) τ).1 = nI (v2 + z_fn (b 0) (b 3) s (b 2) t) ∧ z_R (FL_X4_letSecondsPass_4 r (nI S) nn (nI v2) (nI j) τ).2 r (z_up b 2 (b 2 + s)) (z_rn (b 0) (b 3) s (b 2) t) ∧ (∀ a, a < r ∨ r + 20 ≤ a → (FL_X4_letSecondsPass_4 r (nI S) nn (nI v2) (nI j) τ).2 a = τ a) := by
  intro s
  induction s with
  | zero =>
    intro nn j v2 b t τ h1 h2 hb hV hT hR
    obtain ⟨nn, rfl⟩ : ∃ n, nn = n + 1 := ⟨nn - 1, by omega⟩
    have e : (nI j < nI S) = False := by rw [z_lt (by omega) (by omega)]; exact eq_false (by omega)
    unfold PL_X4_letSecondsPass_4 FL_X4_letSecondsPass_4
    simp only [e, if_false]
    refine ⟨⟨fun q => absurd q (by decide), fun _ => trivial⟩, rfl, ?_, fun _ _ => trivial⟩
    rw [Nat.add_zero, z_up_self]
    exact hR
  | succ s ih =>
    intro nn j v2 b t τ h1 h2 hb hV hT hR
    obtain ⟨nn, rfl⟩ : ∃ n, nn = n + 1 := ⟨nn - 1, by omega⟩
    have e : (nI j < nI S) = True := by rw [z_lt (by omega) (by omega)]; exact eq_true (by omega)
    have hb2 : τ r 2 + 1 = nI (b 2 + 1) := by rw [hR.ck, z_l1, z_add]
    unfold PL_X4_letSecondsPass_4 FL_X4_letSecondsPass_4
    simp only [e, if_true, hb2]
    have hR1 := hR.uck (y := b 2 + 1)
    have hV1 := hV.sec hb (by omega)
    have hin := z_in33 (k := k) hr (b := z_up b 2 (b 2 + 1)) (t := t) hV.l0 hV.l1 hV.n6 hk (show b 2 + 1 ≤ 200 * k by omega) (fun w hw _ => (hV.te w hw).mono (Nat.le_refl _) rfl rfl (show b 2 ≤ b 2 + 1 by omega)) (fun w hw => (hV.te w hw).st) (nI S) (nI j) 8 0 v2 (q_up τ r 2 (nI (b 2 + 1))) (by omega) (by omega) (by rw [z_sec_0]; exact hR1)
    obtain ⟨p1, p2, p3, p4⟩ := hin
    have p1 : PL_X4_letSecondsPass_33 r (nI S) (nI j) 8 (nI v2) 0 (q_up τ r 2 (nI (b 2 + 1))) := p1
    have p2 : (FL_X4_letSecondsPass_33 r (nI S) (nI j) 8 (nI v2) 0 (q_up τ r 2 (nI (b 2 + 1)))).1 = nI (v2 + z_sm (z_ef (b 0) (b 2 + 1) (b 3) t) 0 6) := p2
    have p3 : z_R (FL_X4_letSecondsPass_33 r (nI S) (nI j) 8 (nI v2) 0 (q_up τ r 2 (nI (b 2 + 1)))).2 r (z_up b 2 (b 2 + 1)) (z_sec (b 0) (b 2 + 1) (b 3) 6 t) := p3
    have p4 : ∀ a, a < r ∨ r + 20 ≤ a → (FL_X4_letSecondsPass_33 r (nI S) (nI j) 8 (nI v2) 0 (q_up τ r 2 (nI (b 2 + 1)))).2 a = (q_up τ r 2 (nI (b 2 + 1))) a := p4
    generalize FL_X4_letSecondsPass_33 r (nI S) (nI j) 8 (nI v2) 0 (q_up τ r 2 (nI (b 2 + 1))) = y at p2 p3 p4
    obtain ⟨y1, y2⟩ := y
    have p2 : y1 = nI (v2 + z_sm (z_ef (b 0) (b 2 + 1) (b 3) t) 0 6) := p2
    subst p2
    obtain ⟨q1, q2, q3, q4⟩ := ih nn (j + 1) (v2 + z_sm (z_ef (b 0) (b 2 + 1) (b 3) t) 0 6) (b := z_up b 2 (b 2 + 1)) (t := z_sec (b 0) (b 2 + 1) (b 3) 6 t) y2 (by omega) (by omega) hb hV1 (show b 2 + 1 + s ≤ 200 * k by omega) p3
    rw [z_up_up] at q3
    have ej : nI j + 1 = nI (j + 1) := by rw [z_l1, z_add]
    rw [ej]
    refine ⟨⟨fun _ => ⟨p1, fun y3 σ2 he => ?_⟩, fun q => absurd trivial q⟩, ?_, ?_, fun a ha => ?_⟩
    · cases he
      exact q1
    · exact q2.trans (congrArg nI (by show _ = v2 + (z_sm (z_ef (b 0) (b 2 + 1) (b 3) t) 0 6 + z_fn (b 0) (b 3) s (b 2 + 1) (z_sec (b 0) (b 2 + 1) (b 3) 6 t)); rw [Nat.add_assoc]; rfl))
    · have e9 : b 2 + (s + 1) = b 2 + 1 + s := by omega
      rw [e9]
      exact q3
    · refine (q4 a ha).trans ((p4 a ha).trans (q_up_off ?_))
      omega
theorem z_run54 {k S : Nat} (hk : k ≤ 20000) (hS : S ≤ 200) (c0 : Nat) : ∀ (s nn j : Nat) {b : Nat → Nat} {t : Nat → Nat → Nat} (τ : q_M), j + s = S → S + 1 ≤ nn + j → b 1 = 1 → z_V k b t → b 2 + s ≤ 200 * k → c0 ≤ z_sm (z_is t 2) 0 (b 3) → z_M τ b t →
    PL_X9_secondsPass_54 (nI S) (nI c0) nn (nI j) τ ∧ (FL_X9_secondsPass_54 (nI S) (nI c0) nn (nI j) τ).1 = nI (z_sm (z_is t 2) 0 (b 3) + z_fn (b 0) (b 3) s (b 2) t - c0) ∧ z_M (FL_X9_secondsPass_54 (nI S) (nI c0) nn (nI j) τ).2 (z_up b 2 (b 2 + s)) (z_rn (b 0) (b 3) s (b 2) t) ∧ (∀ a, a ≠ 230 → (FL_X9_secondsPass_54 (nI S) (nI c0) nn (nI j) τ).2 a = τ a) := by
  intro s
  induction s with
  | zero =>
    intro nn j b t τ h1 h2 hb hV hT hc hM
    obtain ⟨nn, rfl⟩ : ∃ n, nn = n + 1 := ⟨nn - 1, by omega⟩
    have e : (nI j < nI S) = False := by rw [z_lt (by omega) (by omega)]; exact eq_false (by omega)
    have hi := z_inSt (q := 2) hV.n6 (by decide) (fun w hw => (hV.te w hw).st) hM
    unfold PL_X9_secondsPass_54 FL_X9_secondsPass_54
    simp only [e, if_false]
    refine ⟨⟨fun q => absurd q (by decide), fun _ => ⟨hi.1, trivial⟩⟩, ?_, ?_, fun _ _ => trivial⟩
    · rw [show F_X9_inStatus 2 τ = nI (z_sm (z_is t 2) 0 (b 3)) from hi.2, z_sub hc]
      rfl
    · rw [Nat.add_zero, z_up_self]
      exact hM
  | succ s ih =>
    intro nn j b t τ h1 h2 hb hV hT hc hM
    obtain ⟨nn, rfl⟩ : ∃ n, nn = n + 1 := ⟨nn - 1, by omega⟩
    have e : (nI j < nI S) = True := by rw [z_lt (by omega) (by omega)]; exact eq_true (by omega)
    have hb2 : τ 230 2 + 1 = nI (b 2 + 1) := by rw [hM.bs 2 (by decide), z_l1, z_add]
    have hfc := z_fn_cnt 1 hV hb (by omega)
    have hfc : z_sm (z_is (z_sec (b 0) (b 2 + 1) (b 3) 6 t) 2) 0 (b 3) = z_sm (z_is t 2) 0 (b 3) + (z_sm (z_ef (b 0) (b 2 + 1) (b 3) t) 0 6 + 0) := hfc
    unfold PL_X9_secondsPass_54 FL_X9_secondsPass_54
    simp only [e, if_true, hb2, q_L]
    have hM1 := hM.ub (k := 2) (y := b 2 + 1) (by decide)
    have hV1 := hV.sec hb (by omega)
    have hin := z_in72 (k := k) (b := z_up b 2 (b 2 + 1)) (t := t) hV.l1 hV.n6 hk (show b 2 + 1 ≤ 200 * k by omega) (fun w hw _ => (hV.te w hw).mono (Nat.le_refl _) rfl rfl (show b 2 ≤ b 2 + 1 by omega)) (fun w hw => (hV.te w hw).st) (nI S) (nI c0) (nI j) 10 0 (q_up τ 230 2 (nI (b 2 + 1))) (by omega) (Nat.zero_le _) (by rw [z_sec_0]; exact hM1)
    obtain ⟨p1, p3, p4⟩ := hin
    have p1 : PL_X9_secondsPass_72 (nI S) (nI c0) (nI j) 10 0 (q_up τ 230 2 (nI (b 2 + 1))) := p1
    have p3 : z_M (FL_X9_secondsPass_72 (nI S) (nI c0) (nI j) 10 0 (q_up τ 230 2 (nI (b 2 + 1)))) (z_up b 2 (b 2 + 1)) (z_sec (b 0) (b 2 + 1) (b 3) 6 t) := p3
    have p4 : ∀ a, a ≠ 230 → FL_X9_secondsPass_72 (nI S) (nI c0) (nI j) 10 0 (q_up τ 230 2 (nI (b 2 + 1))) a = (q_up τ 230 2 (nI (b 2 + 1))) a := p4
    generalize FL_X9_secondsPass_72 (nI S) (nI c0) (nI j) 10 0 (q_up τ 230 2 (nI (b 2 + 1))) = y2 at p3 p4
    obtain ⟨q1, q2, q3, q4⟩ := ih nn (j + 1) (b := z_up b 2 (b 2 + 1)) (t := z_sec (b 0) (b 2 + 1) (b 3) 6 t) y2 (by omega) (by omega) hb hV1 (show b 2 + 1 + s ≤ 200 * k by omega) (show c0 ≤ z_sm (z_is (z_sec (b 0) (b 2 + 1) (b 3) 6 t) 2) 0 (b 3) by rw [hfc]; omega) p3
    rw [z_up_up] at q3
    have ej : nI j + 1 = nI (j + 1) := by rw [z_l1, z_add]
    rw [ej]
    refine ⟨⟨fun _ => ⟨p1, fun σ he => ?_⟩, fun q => absurd trivial q⟩, ?_, ?_, fun a ha => ?_⟩
    · subst he
      exact q1
    · refine q2.trans (congrArg nI ?_)
      show z_sm (z_is (z_sec (b 0) (b 2 + 1) (b 3) 6 t) 2) 0 (b 3) + z_fn (b 0) (b 3) s (b 2 + 1) (z_sec (b 0) (b 2 + 1) (b 3) 6 t) - c0 = z_sm (z_is t 2) 0 (b 3) + (z_sm (z_ef (b 0) (b 2 + 1) (b 3) t) 0 6 + z_fn (b 0) (b 3) s (b 2 + 1) (z_sec (b 0) (b 2 + 1) (b 3) 6 t)) - c0
      rw [hfc]
      omega
    · have e9 : b 2 + (s + 1) = b 2 + 1 + s := by omega
      rw [e9]
      exact q3
    · exact (q4 a ha).trans ((p4 a ha).trans (q_up_off ha))

