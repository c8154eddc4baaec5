/-! Seconds pass. -/
def z_sm (f : Nat → Nat) : Nat → Nat → Nat
  | _, 0 => 0
  | w, k + 1 => f w + z_sm f (w + 1) k
theorem z_sm_cg {f g : Nat → Nat} : ∀ (k w : Nat), (∀ i, w ≤ i → i < w + k → f i = g i) → z_sm f w k = z_sm g w k := by
  intro k
  induction k with
  | zero => intro w h; rfl
  | succ k ih =>
    intro w h
    show f w + z_sm f (w + 1) k = g w + z_sm g (w + 1) k
    rw [h w (Nat.le_refl w) (by omega), ih (w + 1) (fun i h1 h2 => h i (by omega) (by omega))]
theorem z_sm_add {f g h : Nat → Nat} : ∀ (k w : Nat), (∀ i, w ≤ i → i < w + k → f i = g i + h i) → z_sm f w k = z_sm g w k + z_sm h w k := by
  intro k
  induction k with
  | zero => intro w h; rfl
  | succ k ih =>
    intro w e
    show f w + z_sm f (w + 1) k = g w + z_sm g (w + 1) k + (h w + z_sm h (w + 1) k)
    rw [e w (Nat.le_refl w) (by omega), ih (w + 1) (fun i h1 h2 => e i (by omega) (by omega))]
    omega
theorem z_sm_sp {f : Nat → Nat} : ∀ (k w l : Nat), z_sm f w (k + l) = z_sm f w k + z_sm f (w + k) l := by
  intro k
  induction k with
  | zero => intro w l; rw [Nat.zero_add]; show _ = 0 + z_sm f (w + 0) l; rw [Nat.zero_add]; rfl
  | succ k ih =>
    intro w l
    rw [show k + 1 + l = (k + l) + 1 by omega]
    show f w + z_sm f (w + 1) (k + l) = f w + z_sm f (w + 1) k + z_sm f (w + (k + 1)) l
    rw [ih, show w + 1 + k = w + (k + 1) by omega]
    omega
theorem z_sm_0 {f : Nat → Nat} (k w : Nat) (h : ∀ i, w ≤ i → i < w + k → f i = 0) : z_sm f w k = 0 := by
  have e : z_sm f w k = z_sm (fun _ => 0) w k := z_sm_cg k w h
  rw [e]
  clear e h
  induction k generalizing w with
  | zero => rfl
  | succ k ih => show 0 + z_sm (fun _ => 0) (w + 1) k = 0; rw [ih]
theorem z_sm_le {f : Nat → Nat} (m : Nat) : ∀ (k w : Nat), (∀ i, w ≤ i → i < w + k → f i ≤ m) → z_sm f w k ≤ m * k := by
  intro k
  induction k with
  | zero => intro w h; exact Nat.le_refl _
  | succ k ih =>
    intro w e
    have h1 := e w (Nat.le_refl w) (by omega)
    have h2 := ih (w + 1) (fun i h1 h2 => e i (by omega) (by omega))
    show f w + z_sm f (w + 1) k ≤ m * (k + 1)
    rw [Nat.mul_add]
    omega
theorem z_sm_n {f : Nat → Nat} {n : Nat} (hn : n ≤ 6) (h : ∀ i, n ≤ i → i < 6 → f i = 0) : z_sm f 0 6 = z_sm f 0 n := by
  rw [show (6 : Nat) = n + (6 - n) by omega, z_sm_sp, z_sm_0 (f := f) (6 - n) (0 + n) (fun i h1 h2 => h i (by omega) (by omega)), Nat.add_zero]
/-- a second: the teams below w have had theirs -/
def z_sec (L T n w : Nat) (t : Nat → Nat → Nat) : Nat → Nat → Nat := fun i => if i < w ∧ i < n ∧ t i 6 = 1 then z_st L T (t i) else t i
theorem z_sec_0 {L T n : Nat} {t : Nat → Nat → Nat} : z_sec L T n 0 t = t := by
  funext i
  unfold z_sec
  rw [if_neg (by omega)]
theorem z_sec_w {L T n w : Nat} {t : Nat → Nat → Nat} : z_sec L T n w t w = t w := by
  unfold z_sec
  rw [if_neg (by omega)]
theorem z_sec_s {L T n w : Nat} {t : Nat → Nat → Nat} (hw : w < n) (h : t w 6 = 1) : z_ut (z_sec L T n w t) w (z_st L T (t w)) = z_sec L T n (w + 1) t := by
  funext i
  by_cases e : i = w
  · subst e
    rw [z_ut_s]
    unfold z_sec
    rw [if_pos ⟨by omega, hw, h⟩]
  · rw [z_ut_n e]
    unfold z_sec
    by_cases c : i < w ∧ i < n ∧ t i 6 = 1
    · rw [if_pos c, if_pos ⟨by omega, c.2⟩]
    · rw [if_neg c, if_neg (fun q => c ⟨by omega, q.2⟩)]
theorem z_sec_n {L T n w : Nat} {t : Nat → Nat → Nat} (h : ¬ (w < n ∧ t w 6 = 1)) : z_sec L T n (w + 1) t = z_sec L T n w t := by
  funext i
  unfold z_sec
  by_cases c : i < w ∧ i < n ∧ t i 6 = 1
  · rw [if_pos c, if_pos ⟨by omega, c.2⟩]
  · rw [if_neg c]
    by_cases c2 : i < w + 1 ∧ i < n ∧ t i 6 = 1
    · exfalso
      by_cases e : i = w
      · subst e; exact h c2.2
      · exact c ⟨by omega, c2.2⟩
    · rw [if_neg c2]
theorem z_sec_ge {L T n w : Nat} {t : Nat → Nat → Nat} (h : n ≤ w) : z_sec L T n w t = z_sec L T n n t := by
  funext i
  unfold z_sec
  by_cases c : i < n ∧ t i 6 = 1
  · rw [if_pos ⟨by omega, c⟩, if_pos ⟨c.1, c⟩]
  · rw [if_neg (fun q => c q.2), if_neg (fun q => c q.2)]
/-- what a team's cells make of a race -/
theorem z_R.team {c c' : q_M} {r : Nat} {b : Nat → Nat} {t : Nat → Nat → Nat} (h : z_R c r b t) {w : Nat} {x : Nat → Nat} (hw : w < b 3) (hT : z_T c' (r + 2 + 3 * w) w x) (hof : ∀ a, a ≠ r + 2 + 3 * w → a ≠ r + 2 + 3 * w + 1 → a ≠ r + 2 + 3 * w + 2 → c' a = c a) : z_R c' r b (z_ut t w x) := by
  have e0 : c' r = c r := hof r (by omega) (by omega) (by omega)
  refine ⟨by rw [e0]; exact h.bg, by rw [e0]; exact h.ck, by rw [e0]; exact h.ll, fun i hi hb => ?_, fun i hi hb => ?_⟩
  · by_cases e : i = w
    · subst e
      rw [z_ut_s]
      exact hT
    · rw [z_ut_n e]
      exact (h.te i hi hb).off (hof _ (by omega) (by omega) (by omega)) (hof _ (by omega) (by omega) (by omega)) (hof _ (by omega) (by omega) (by omega))
  · exact (h.ab i hi hb).off (hof _ (by omega) (by omega) (by omega)) (hof _ (by omega) (by omega) (by omega)) (hof _ (by omega) (by omega) (by omega))
theorem z_R.uck {c : q_M} {r : Nat} {b : Nat → Nat} {t : Nat → Nat → Nat} (h : z_R c r b t) {y : Nat} : z_R (q_up c r 2 (nI y)) r (z_up b 2 y) t := by
  refine ⟨by rw [q_up_nj (by decide)]; exact h.bg, by rw [q_up_eq]; rfl, by rw [q_up_nj (by decide)]; exact h.ll, fun i hi hb => ?_, fun i hi hb => ?_⟩
  · exact (h.te i hi hb).off (q_up_off (by omega)) (q_up_off (by omega)) (q_up_off (by omega))
  · exact (h.ab i hi hb).off (q_up_off (by omega)) (q_up_off (by omega)) (q_up_off (by omega))
theorem z_R.off {c c' : q_M} {r : Nat} {b : Nat → Nat} {t : Nat → Nat → Nat} (h : z_R c r b t) (hof : ∀ a, r ≤ a → a < r + 20 → c' a = c a) : z_R c' r b t := by
  refine ⟨by rw [hof r (by omega) (by omega)]; exact h.bg, by rw [hof r (by omega) (by omega)]; exact h.ck, by rw [hof r (by omega) (by omega)]; exact h.ll, fun i hi hb => ?_, fun i hi hb => ?_⟩
  · exact (h.te i hi hb).off (hof _ (by omega) (by omega)) (hof _ (by omega) (by omega)) (hof _ (by omega) (by omega))
  · exact (h.ab i hi hb).off (hof _ (by omega) (by omega)) (hof _ (by omega) (by omega)) (hof _ (by omega) (by omega))
/-- how many end in a second -/
def z_ef (L T n : Nat) (t : Nat → Nat → Nat) (i : Nat) : Nat := if i < n ∧ t i 6 = 1 ∧ z_st L T (t i) 6 = 2 then 1 else 0
theorem z_place (r w : Nat) : r + 1 + 1 + 3 * w = r + 2 + 3 * w := by omega
theorem z_in33 {r k : Nat} (hr : r + 20 ≤ 220) {b : Nat → Nat} {t : Nat → Nat → Nat} (hL0 : 400 ≤ b 0) (hL : b 0 ≤ 4000) (hn : b 3 ≤ 6) (hk : k ≤ 20000) (hT : b 2 ≤ 200 * k) (hW : ∀ w, w < b 3 → t w 6 = 1 → z_W k b (t w)) (hst : ∀ w, w < b 3 → t w 6 ≤ 3) (v v3 : Int32) :
    ∀ (nn w v2 : Nat) (τ : q_M), 7 ≤ nn + w → w ≤ 6 → z_R τ r b (z_sec (b 0) (b 2) (b 3) w t) → PL_X4_letSecondsPass_33 r v v3 nn (nI v2) (nI w) τ ∧ (FL_X4_letSecondsPass_33 r v v3 nn (nI v2) (nI w) τ).1 = nI (v2 + z_sm (z_ef (b 0) (b 2) (b 3) t) w (6 - w)) ∧ z_R (FL_X4_letSecondsPass_33 r v v3 nn (nI v2) (nI w) τ).2 r b (z_sec (b 0) (b 2) (b 3) 6 t) ∧ (∀ a, a < r ∨ r + 20 ≤ a → (FL_X4_letSecondsPass_33 r v v3 nn (nI v2) (nI w) τ).2 a = τ a) := by
  intro nn
  induction nn with
  | zero => intro w v2 τ h1 h2; omega
  | succ nn ih =>
    intro w v2 τ h1 h2 hR
    have e6 : (nI w < 6) = (w < 6) := by rw [z_l6, z_lt (by omega) (by omega)]
    unfold PL_X4_letSecondsPass_33 FL_X4_letSecondsPass_33
    by_cases h6 : w < 6
    · have hc : (nI w).toNatClampNeg = w := nI_clamp (by omega)
      simp only [e6, hc, z_place, z_l1, z_add]
      rw [if_pos h6]
      have hsm : z_sm (z_ef (b 0) (b 2) (b 3) t) w (6 - w) = z_ef (b 0) (b 2) (b 3) t w + z_sm (z_ef (b 0) (b 2) (b 3) t) (w + 1) (6 - (w + 1)) := by
        rw [show 6 - w = (6 - (w + 1)) + 1 by omega]
        rfl
      by_cases hwn : w < b 3
      · have hTw := hR.te w h6 hwn
        rw [z_sec_w] at hTw
        have est : (τ (r + 2 + 3 * w) 3 = 2) = (t w 6 = 1) := by
          have := hst w hwn
          rw [hTw.st, z_l2, z_eq (by omega) (by omega)]
          exact propext ⟨fun e => by omega, fun e => by omega⟩
        by_cases h1' : t w 6 = 1
        · have hWw := hW w hwn h1'
          obtain ⟨p1, p2, p3, p4⟩ := z_move1 (c := τ) (by omega) hTw hWw hL hL0 hk hT h1'
          have ell := hR.ll
          have eck := hR.ck
          simp only [est, ell, eck, q_L]
          rw [if_pos h1']
          have hR2 := hR.team hwn p3 p4
          rw [z_sec_s hwn h1'] at hR2
          generalize hmv : F_X6_moveOneSecond (r + 2 + 3 * w) (nI (b 0)) (nI (b 2)) τ = y at p1 p2 p3 p4 hR2
          have eef : z_ef (b 0) (b 2) (b 3) t w = if z_st (b 0) (b 2) (t w) 6 = 2 then 1 else 0 := by
            unfold z_ef
            by_cases q : z_st (b 0) (b 2) (t w) 6 = 2
            · rw [if_pos ⟨hwn, h1', q⟩, if_pos q]
            · rw [if_neg (fun z => q z.2.2), if_neg q]
          by_cases hf : z_st (b 0) (b 2) (t w) 6 = 2
          · rw [if_pos hf] at p2 eef
            have ne : ¬ y.1 = 0 := by rw [p2]; decide
            obtain ⟨q1, q2, q3, q4⟩ := ih (w + 1) (v2 + 1) y.2 (by omega) (by omega) hR2
            rw [if_neg ne]
            refine ⟨⟨fun _ => ⟨z_in h6 (by decide), fun _ => ⟨p1, fun z hz => ?_⟩, fun q => absurd h1' q⟩, fun q => absurd h6 q⟩, ?_, q3, fun a ha => ?_⟩
            · subst hz
              exact ⟨fun q => absurd q ne, fun _ => q1⟩
            · rw [q2, hsm, eef]
              congr 1
              omega
            · rw [q4 a ha]
              exact p4 a (by omega) (by omega) (by omega)
          · rw [if_neg hf] at p2 eef
            have ye : y.1 = 0 := p2
            obtain ⟨q1, q2, q3, q4⟩ := ih (w + 1) v2 y.2 (by omega) (by omega) hR2
            rw [if_pos ye]
            refine ⟨⟨fun _ => ⟨z_in h6 (by decide), fun _ => ⟨p1, fun z hz => ?_⟩, fun q => absurd h1' q⟩, fun q => absurd h6 q⟩, ?_, q3, fun a ha => ?_⟩
            · subst hz
              exact ⟨fun _ => q1, fun q => absurd ye q⟩
            · rw [q2, hsm, eef]
              congr 1
              omega
            · rw [q4 a ha]
              exact p4 a (by omega) (by omega) (by omega)
        · simp only [est]
          rw [if_neg h1']
          have hR2 := hR
          rw [← z_sec_n (fun q => h1' q.2)] at hR2
          have eef : z_ef (b 0) (b 2) (b 3) t w = 0 := by
            unfold z_ef
            rw [if_neg (fun z => h1' z.2.1)]
          obtain ⟨q1, q2, q3, q4⟩ := ih (w + 1) v2 τ (by omega) (by omega) hR2
          refine ⟨⟨fun _ => ⟨z_in h6 (by decide), fun q => absurd q h1', fun _ => q1⟩, fun q => absurd h6 q⟩, ?_, q3, q4⟩
          rw [q2, hsm, eef]
          congr 1
          omega
      · have hA := hR.ab w h6 (by omega)
        have est : (τ (r + 2 + 3 * w) 3 = 2) = False := by
          rw [hA.st]
          exact eq_false (by decide)
        simp only [est, if_false]
        have hR2 := hR
        rw [← z_sec_n (fun q => hwn q.1)] at hR2
        have eef : z_ef (b 0) (b 2) (b 3) t w = 0 := by
          unfold z_ef
          rw [if_neg (fun z => hwn z.1)]
        obtain ⟨q1, q2, q3, q4⟩ := ih (w + 1) v2 τ (by omega) (by omega) hR2
        refine ⟨⟨fun _ => ⟨z_in h6 (by decide), fun q => absurd q (by decide), fun _ => q1⟩, fun q => absurd h6 q⟩, ?_, q3, q4⟩
        rw [q2, hsm, eef]
        congr 1
        omega
    · have e : w = 6 := by omega
      subst e
      rw [if_neg (by rw [e6]; exact h6)]
      refine ⟨⟨fun q => absurd (e6 ▸ q) h6, fun _ => trivial⟩, ?_, hR, fun _ _ => rfl⟩
      rfl
theorem z_in72 {k : Nat} {b : Nat → Nat} {t : Nat → Nat → Nat} (hL : b 0 ≤ 4000) (hn : b 3 ≤ 6) (hk : k ≤ 20000) (hT : b 2 ≤ 200 * k) (hW : ∀ w, w < b 3 → t w 6 = 1 → z_W k b (t w)) (hst : ∀ w, w < b 3 → t w 6 ≤ 3) (v x7 v3 : Int32) :
    ∀ (nn w : Nat) (τ : q_M), 7 ≤ nn + w → w ≤ b 3 → z_M τ b (z_sec (b 0) (b 2) (b 3) w t) → PL_X9_secondsPass_72 v x7 v3 nn (nI w) τ ∧ z_M (FL_X9_secondsPass_72 v x7 v3 nn (nI w) τ) b (z_sec (b 0) (b 2) (b 3) 6 t) ∧ (∀ a, a ≠ 230 → FL_X9_secondsPass_72 v x7 v3 nn (nI w) τ a = τ a) := by
  intro nn
  induction nn with
  | zero => intro w τ h1 h2; omega
  | succ nn ih =>
    intro w τ h1 h2 hM
    have e3 : (nI w < τ 230 3) = (w < b 3) := by rw [hM.bs 3 (by decide), z_lt (by omega) (by omega)]
    unfold PL_X9_secondsPass_72 FL_X9_secondsPass_72
    by_cases hwn : w < b 3
    · have h6 : w < 6 := by omega
      have e1 : (F_X9_of (nI w) 6 τ = nI 1) = (t w 6 = 1) := by
        have := hst w hwn
        rw [hM.o6 h6, z_sec_w, z_eq (by omega) (by omega)]
      simp only [e3, e1, z_l1, z_add, q_L]
      rw [if_pos hwn]
      by_cases h1' : t w 6 = 1
      · have hWw := hW w hwn h1'
        have hWw2 : z_W k b (z_sec (b 0) (b 2) (b 3) w t w) := by rw [z_sec_w]; exact hWw
        obtain ⟨p1, p2, p3⟩ := z_moves hM h6 hWw2 hL hk hT
        rw [z_sec_w, z_sec_s hwn h1'] at p2
        obtain ⟨q1, q2, q3⟩ := ih (w + 1) _ (by omega) (by omega) p2
        rw [if_pos h1']
        refine ⟨⟨fun _ => ⟨z_p6 h6, fun _ => ⟨p1, fun z hz => ?_⟩, fun q => absurd h1' q⟩, fun q => absurd hwn q⟩, q2, fun a ha => (q3 a ha).trans (p3 a ha)⟩
        subst hz
        exact q1
      · have hM2 := hM
        rw [← z_sec_n (fun q => h1' q.2)] at hM2
        obtain ⟨q1, q2, q3⟩ := ih (w + 1) τ (by omega) (by omega) hM2
        rw [if_neg h1']
        exact ⟨⟨fun _ => ⟨z_p6 h6, fun q => absurd q h1', fun _ => q1⟩, fun q => absurd hwn q⟩, q2, q3⟩
    · simp only [e3]
      rw [if_neg hwn]
      have e : w = b 3 := by omega
      rw [e, ← z_sec_ge hn] at hM
      exact ⟨⟨fun q => absurd q hwn, fun _ => trivial⟩, hM, fun _ _ => rfl⟩

