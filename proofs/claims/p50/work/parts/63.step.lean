/-! One second of a team: what it keeps to; the class. -/
theorem z_st_W0 {k : Nat} {b b' : Nat → Nat} {x : Nat → Nat} (hW : z_W0 k b x) (h0 : 400 ≤ b 0) (h1 : b 0 ≤ 4000) (e0 : b' 0 = b 0) (e1 : b' 1 = b 1) (e2 : b' 2 = b 2 + 1) (hb : b 1 = 1) (hr : x 6 = 1) : z_W0 k b' (z_st (b 0) (b 2 + 1) x) := by
  have a0 := hW.sp 0 (by decide)
  have a1 := hW.sp 1 (by decide)
  have a2 := hW.sp 2 (by decide)
  have a3 := hW.sp 3 (by decide)
  have l0 := hW.sl 0 (by decide)
  have l1 := hW.sl 1 (by decide)
  have l2 := hW.sl 2 (by decide)
  have l3 := hW.sl 3 (by decide)
  simp only [Nat.add_zero, show 14 + 1 = 15 from rfl, show 14 + 2 = 16 from rfl, show 14 + 3 = 17 from rfl] at l0 l1 l2 l3
  obtain ⟨-, c4, c5, c6, c7, c8, c9, c10, c11, c12, c13, -, c18, cf, cr, cu⟩ := hW
  have hsp : x (x 8) ≤ 99 := by
    rcases (show x 8 = 0 ∨ x 8 = 1 ∨ x 8 = 2 ∨ x 8 = 3 by omega) with e | e | e | e <;> rw [e] <;> omega
  have hpc := z_pc_le (v := x (x 8)) (n := x 9) hsp
  have hp3 := z_pc_le (v := x 3) (n := x 9) a3.2
  have e83 : x 8 = 3 → (x 8 + 1) * b 0 = 4 * b 0 := fun e => by rw [e]
  unfold z_st
  generalize hq : x 7 + z_pc (x (x 8)) (x 9) = q
  generalize hq3 : x 7 + z_pc (x 3) (x 9) = q3
  generalize hE : (x 8 + 1) * b 0 = B at c7 e83 ⊢
  split
  · refine ⟨fun j hj => ?_, ?_, ?_, ?_, ?_, ?_, ?_, ?_, ?_, ?_, ?_, fun j hj => ?_, ?_, ?_, ?_, ?_⟩
    · rcases (show j = 0 ∨ j = 1 ∨ j = 2 ∨ j = 3 by omega) with rfl | rfl | rfl | rfl <;> simp only [z_up, e0, e1, e2, hE] <;> simp <;> omega
    all_goals try (rcases (show j = 0 ∨ j = 1 ∨ j = 2 ∨ j = 3 by omega) with rfl | rfl | rfl | rfl)
    all_goals simp [z_up, e0, e1, e2, hE]
    all_goals omega
  · split
    · split
      · refine ⟨fun j hj => ?_, c4, c5, c6, ?_, c8, ?_, c10, c11, c12, ?_, fun j hj => ?_, ?_, cf, ?_, ?_⟩
        · rcases (show j = 0 ∨ j = 1 ∨ j = 2 ∨ j = 3 by omega) with rfl | rfl | rfl | rfl <;> omega
        · rw [e0, hE]; omega
        · omega
        · omega
        · rcases (show j = 0 ∨ j = 1 ∨ j = 2 ∨ j = 3 by omega) with rfl | rfl | rfl | rfl <;> simp <;> omega
        · omega
        · rw [e0]; exact cr
        · rw [e1]; exact cu
      · generalize hp : (if B + 300 < q then B + 300 else q) = p
        have hp2 : p ≤ B + 300 := by rw [← hp]; split <;> omega
        refine ⟨fun j hj => ?_, ?_, ?_, ?_, ?_, ?_, ?_, ?_, ?_, ?_, ?_, fun j hj => ?_, ?_, ?_, ?_, ?_⟩
        · rcases (show j = 0 ∨ j = 1 ∨ j = 2 ∨ j = 3 by omega) with rfl | rfl | rfl | rfl <;> simp [z_up] <;> omega
        all_goals try (rcases (show j = 0 ∨ j = 1 ∨ j = 2 ∨ j = 3 by omega) with rfl | rfl | rfl | rfl)
        all_goals simp [z_up, e0, e1, e2, hE]
        all_goals omega
    · have e8 : x 8 = 3 := by omega
      have hB := e83 e8
      split
      · refine ⟨fun j hj => ?_, ?_, ?_, ?_, ?_, ?_, ?_, ?_, ?_, ?_, ?_, fun j hj => ?_, ?_, ?_, ?_, ?_⟩
        · rcases (show j = 0 ∨ j = 1 ∨ j = 2 ∨ j = 3 by omega) with rfl | rfl | rfl | rfl <;> simp [z_up] <;> omega
        all_goals try (rcases (show j = 0 ∨ j = 1 ∨ j = 2 ∨ j = 3 by omega) with rfl | rfl | rfl | rfl)
        all_goals simp [z_up, e0, e1, e2, hE]
        all_goals omega
      · refine ⟨fun j hj => ?_, ?_, ?_, ?_, ?_, ?_, ?_, ?_, ?_, ?_, ?_, fun j hj => ?_, ?_, ?_, ?_, ?_⟩
        · rcases (show j = 0 ∨ j = 1 ∨ j = 2 ∨ j = 3 by omega) with rfl | rfl | rfl | rfl <;> simp [z_up] <;> omega
        all_goals try (rcases (show j = 0 ∨ j = 1 ∨ j = 2 ∨ j = 3 by omega) with rfl | rfl | rfl | rfl)
        all_goals simp [z_up, e0, e1, e2, hE]
        all_goals omega
theorem z_st_W {k : Nat} {b b' : Nat → Nat} {x : Nat → Nat} (hW : z_W k b x) (h0 : 400 ≤ b 0) (h1 : b 0 ≤ 4000) (e0 : b' 0 = b 0) (e1 : b' 1 = b 1) (e2 : b' 2 = b 2 + 1) (hb : b 1 = 1) (hr : x 6 = 1) : z_W k b' (z_st (b 0) (b 2 + 1) x) := by
  refine ⟨z_st_W0 hW.1 h0 h1 e0 e1 e2 hb hr, ?_⟩
  have l3 := (hW.sl 3 (by decide)).2
  have hx17 : x 17 = 0 := by
    have h8 := hW.lg
    have : ¬ 1 ≤ x (14 + 3) := fun q => by
      rcases l3.mp q with q | q <;> omega
    have e : x (14 + 3) = x 17 := rfl
    omega
  have h13 := hW.lp
  have h8 := hW.lg
  have hEm : (x 8 + 1) * b 0 = x 8 * b 0 + b 0 := Nat.succ_mul _ _
  obtain ⟨c1, -, c3, c4, -⟩ := hW.2
  have c3 := c3 (by omega)
  clear l3
  unfold z_E
  rw [e0, e1]
  unfold z_st
  generalize hq : x 7 + z_pc (x (x 8)) (x 9) = q
  generalize hq3 : x 7 + z_pc (x 3) (x 9) = q3
  have g1 : x 7 ≤ q := by omega
  have g3 : x 7 ≤ q3 := by omega
  generalize hE : (x 8 + 1) * b 0 = B at hEm
  generalize hM : x 8 * b 0 = M at hEm c1
  clear hq hq3
  split
  · simp only [z_up, show ((8 : Nat) = 10) = False by decide, if_false]
    simp [hM, hr]
    omega
  · split
    · split
      · rw [hM]
        exact ⟨c1, fun q => by omega, fun _ => c3, c4, fun q => by omega, fun q => by omega⟩
      · simp [z_up, hM, hr]
        refine ⟨?_, c3, c4⟩
        split <;> omega
    · split
      · simp [z_up, hM, hr]
        omega
      · simp [z_up, hM, hx17]
        omega
theorem z_W0.mono {k k' : Nat} {b b' : Nat → Nat} {x : Nat → Nat} (hW : z_W0 k b x) (hk : k ≤ k') (e0 : b' 0 = b 0) (e1 : b' 1 = b 1) (e2 : b 2 ≤ b' 2) : z_W0 k' b' x := by
  obtain ⟨c0, c4, c5, c6, c7, c8, c9, c10, c11, c12, c13, cl, c18, cf, cr, cu⟩ := hW
  refine ⟨c0, c4, by omega, c6, by rw [e0]; exact c7, c8, by omega, by omega, c11, c12, by omega, fun j hj => ⟨by have := (cl j hj).1; omega, (cl j hj).2⟩, by omega, cf, by rw [e0]; exact cr, by rw [e1]; exact cu⟩
theorem z_W.mono {k k' : Nat} {b b' : Nat → Nat} {x : Nat → Nat} (hW : z_W k b x) (hk : k ≤ k') (e0 : b' 0 = b 0) (e1 : b' 1 = b 1) (e2 : b 2 ≤ b' 2) : z_W k' b' x := ⟨hW.1.mono hk e0 e1 e2, by have h := hW.2; unfold z_E at h ⊢; rw [e0, e1]; exact h⟩
theorem z_at {c : q_M} {p j : Nat} (hp : q_len p = 4) (hj : j < 4) : F_X8_at p (nI j) c = c p j := by
  unfold F_X8_at
  rw [hp, if_neg (nI_pos (by omega)), if_pos (nI_lt hj (by decide)), nI_clamp (by omega)]
theorem z_atP {c : q_M} {p j : Nat} (hp : q_len p = 4) (hj : j < 4) : P_X8_at p (nI j) c := by
  unfold P_X8_at
  rw [hp]
  exact ⟨fun _ => trivial, fun _ => ⟨fun _ => ⟨vp_in_nI hj (by decide), trivial⟩, fun _ => trivial⟩⟩
theorem z_put {c : q_M} {p j : Nat} {v : Int32} (hp : q_len p = 4) (hj : j < 4) : F_X8_put p (nI j) v c = q_up c p j v := by
  unfold F_X8_put
  rw [hp, if_neg (nI_pos (by omega)), if_pos (nI_lt hj (by decide)), nI_clamp (by omega)]
theorem z_putP {c : q_M} {p j : Nat} {v : Int32} (hp : q_len p = 4) (hj : j < 4) : P_X8_put p (nI j) v c := by
  unfold P_X8_put
  rw [hp]
  exact ⟨fun _ => trivial, fun _ => ⟨fun _ => ⟨vp_in_nI hj (by decide), trivial⟩, fun _ => trivial⟩⟩
theorem z_len {p : Nat} (hp : p < 220) : q_len p = 4 := by
  unfold q_len
  rw [if_pos hp]
theorem z_legEnd {c : q_M} {p w L : Nat} {x : Nat → Nat} (h : z_T c p w x) : F_X6_legEnd p (nI L) c = nI ((x 8 + 1) * L) := by
  unfold F_X6_legEnd
  rw [h.lg, z_l1, z_add, z_mul]
/-- the class: a second of a team -/
theorem z_run1 {c : q_M} {p w k : Nat} {b : Nat → Nat} {x : Nat → Nat} (hp : p + 2 < 220) (h : z_T c p w x) (hW : z_W k b x) (hL : b 0 ≤ 4000) (hk : k ≤ 20000) (hT : b 2 ≤ 200 * k) :
    P_X6_runOneSecond p (nI (b 0)) c ∧ F_X6_runOneSecond p (nI (b 0)) c = (if x 8 < 3 then (if x 7 = (x 8 + 1) * b 0 + 300 then c else q_up (q_up c p 5 (nI (if (x 8 + 1) * b 0 + 300 < x 7 + z_pc (x (x 8)) (x 9) then (x 8 + 1) * b 0 + 300 else x 7 + z_pc (x (x 8)) (x 9)))) p 7 (nI (x 9 + 1))) else q_up (q_up c p 5 (nI (x 7 + z_pc (x 3) (x 9)))) p 7 (nI (x 9 + 1))) := by
  have h8 := hW.lg
  have h7 := hW.ps
  have h9 := hW.sr
  have hE := z_mE h8 hL
  have hsp := hW.sp (x 8) (by omega)
  have hpc := z_pc_le (v := x (x 8)) (n := x 9) hsp.2
  have ep : F_X8_pace (F_X8_at (p + 1) (c p 6) c) (c p 7) c = nI (z_pc (x (x 8)) (x 9)) := by
    rw [h.lg, h.sr, z_at (z_len (by omega)) (by omega), h.sp _ (by omega), z_pace hsp.2 (by omega)]
  constructor
  · unfold P_X6_runOneSecond
    intro x1 _
    refine ⟨?_, trivial⟩
    rw [h.lg]
    exact z_atP (z_len (by omega)) (by omega)
  · simp only [F_X6_runOneSecond, q_L]
    rw [ep, z_legEnd h, h.lg, h.ps, h.sr]
    generalize hB : (x 8 + 1) * b 0 = B at h7 hE ⊢
    simp (disch := omega) only [z_l300, z_l3, z_l1, z_add, z_lt, q_min]
    by_cases a : x 8 < 3
    · rw [if_pos a, if_pos a]
      by_cases e : x 7 = B + 300
      · rw [if_neg (by omega), if_pos e]
      · rw [if_pos (by omega), if_neg e]
        congr 2
        generalize x 7 + z_pc (x (x 8)) (x 9) = q
        by_cases e1 : q < B + 300
        · rw [if_pos e1, if_neg (by omega)]
        · rw [if_neg e1]
          by_cases e2 : B + 300 < q
          · rw [if_pos e2]
          · rw [if_neg e2, show q = B + 300 by omega]
    · rw [if_neg a, if_neg a, show x 8 = 3 by omega]
theorem z_move1 {c : q_M} {p w k : Nat} {b : Nat → Nat} {x : Nat → Nat} (hp : p + 2 < 220) (h : z_T c p w x) (hW : z_W k b x) (hL : b 0 ≤ 4000) (hL0 : 400 ≤ b 0) (hk : k ≤ 20000) (hT : b 2 ≤ 200 * k) (hr : x 6 = 1) :
    P_X6_moveOneSecond p (nI (b 0)) (nI (b 2)) c ∧ (F_X6_moveOneSecond p (nI (b 0)) (nI (b 2)) c).1 = nI (if z_st (b 0) (b 2) x 6 = 2 then 1 else 0) ∧ z_T (F_X6_moveOneSecond p (nI (b 0)) (nI (b 2)) c).2 p w (z_st (b 0) (b 2) x) ∧ ∀ a, a ≠ p → a ≠ p + 1 → a ≠ p + 2 → (F_X6_moveOneSecond p (nI (b 0)) (nI (b 2)) c).2 a = c a := by
  have h8 := hW.lg
  have h7 := hW.ps
  have h9 := hW.sr
  have h10 := hW.sd
  have h13 := hW.lp
  have hE := z_mE h8 hL
  have hsp := hW.sp (x 8) (by omega)
  have hsp3 := hW.sp 3 (by omega)
  have hpc := z_pc_le (v := x (x 8)) (n := x 9) hsp.2
  have hpc3 := z_pc_le (v := x 3) (n := x 9) hsp3.2
  obtain ⟨p1, f1⟩ := z_run1 hp h hW hL hk hT
  have e0 : ((0 : Int32) < c p 8) = (0 < x 10) := by rw [h.sd, z_l0, z_lt (by omega) (by omega)]
  by_cases a : 0 < x 10
  · have es : z_st (b 0) (b 2) x = z_up x 10 (x 10 - 1) := by unfold z_st; rw [if_pos a]
    have ef : F_X6_moveOneSecond p (nI (b 0)) (nI (b 2)) c = (0, q_up c p 8 (nI (x 10 - 1))) := by
      unfold F_X6_moveOneSecond
      rw [if_pos (by rw [e0]; exact a), h.sd, z_l1, z_sub (by omega)]
    rw [ef, es]
    refine ⟨?_, ?_, h.sd_, fun q q1 _ _ => q_up_off q1⟩
    · unfold P_X6_moveOneSecond
      rw [e0]
      exact ⟨fun _ => trivial, fun q => absurd a q⟩
    · rw [z_up_n (by decide), if_neg (by omega)]
      rfl
  · have ns : ¬ (0 : Int32) < c p 8 := by rw [e0]; exact a
    by_cases a8 : x 8 < 3
    · have es : z_st (b 0) (b 2) x = if x 7 = (x 8 + 1) * b 0 + 300 then x else z_up (z_up x 7 (if (x 8 + 1) * b 0 + 300 < x 7 + z_pc (x (x 8)) (x 9) then (x 8 + 1) * b 0 + 300 else x 7 + z_pc (x (x 8)) (x 9))) 9 (x 9 + 1) := by unfold z_st; rw [if_neg a, if_pos a8]
      rw [if_pos a8] at f1
      generalize hσ : F_X6_runOneSecond p (nI (b 0)) c = σ2 at f1 p1
      have hT2 : z_T σ2 p w (z_st (b 0) (b 2) x) ∧ (∀ q, q ≠ p → σ2 q = c q) ∧ z_st (b 0) (b 2) x 6 = 1 ∧ σ2 p 6 = nI (x 8) := by
        rw [es, f1]
        split
        · exact ⟨h, fun q _ => rfl, hr, h.lg⟩
        · refine ⟨h.ps_.sr_, fun q hq => by rw [q_up_off hq, q_up_off hq], ?_, ?_⟩
          · rw [z_up_n (by decide), z_up_n (by decide)]; exact hr
          · rw [q_up_nj (by decide), q_up_nj (by decide)]; exact h.lg
      have e3 : (σ2 p 6 < 3) = True := by rw [hT2.2.2.2, z_l3, z_lt (by omega) (by omega)]; exact eq_true a8
      have ef : F_X6_moveOneSecond p (nI (b 0)) (nI (b 2)) c = (0, σ2) := by
        simp only [F_X6_moveOneSecond, q_L, hσ]
        rw [if_neg ns]
        simp only [e3, if_true]
      rw [ef]
      refine ⟨?_, ?_, hT2.1, fun q q1 _ _ => hT2.2.1 q q1⟩
      · unfold P_X6_moveOneSecond
        refine ⟨fun _ => trivial, fun _ => ⟨p1, fun z hz => ?_⟩⟩
        rw [hσ] at hz
        subst hz
        exact ⟨fun _ => trivial, fun q => absurd (of_eq_true e3) q⟩
      · rw [hT2.2.2.1]
        rfl
    · have e8 : x 8 = 3 := by omega
      have es : z_st (b 0) (b 2) x = if x 7 + z_pc (x 3) (x 9) < 4 * b 0 then z_up (z_up x 7 (x 7 + z_pc (x 3) (x 9))) 9 (x 9 + 1) else z_up (z_up (z_up (z_up (z_up x 7 (x 7 + z_pc (x 3) (x 9))) 9 (x 9 + 1)) 6 2) 18 (b 2)) 17 (1 + b 2 - x 13) := by unfold z_st; rw [if_neg a, if_neg a8]
      rw [if_neg a8] at f1
      generalize hσ : F_X6_runOneSecond p (nI (b 0)) c = σ2 at f1 p1
      generalize hq : x 7 + z_pc (x 3) (x 9) = q at es f1
      have hq2 : q < 20000 := by omega
      have hT2 : z_T σ2 p w (z_up (z_up x 7 q) 9 (x 9 + 1)) := by rw [f1]; exact h.ps_.sr_
      have hof : ∀ y, y ≠ p → σ2 y = c y := fun y hy => by rw [f1, q_up_off hy, q_up_off hy]
      have e6 : σ2 p 6 = nI 3 := by rw [hT2.lg, z_up_n (by decide), z_up_n (by decide), e8]
      have e3 : (σ2 p 6 < 3) = False := by rw [e6, z_l3, z_lt (by omega) (by omega)]; exact eq_false (by omega)
      have e5 : σ2 p 5 = nI q := by rw [hT2.ps, z_up_n (by decide), z_up_s]
      have e4 : (σ2 p 5 < 4 * nI (b 0)) = (q < 4 * b 0) := by rw [e5, z_l4, z_mul, z_lt (by omega) (by omega)]
      by_cases a4 : q < 4 * b 0
      · rw [if_pos a4] at es
        have ef : F_X6_moveOneSecond p (nI (b 0)) (nI (b 2)) c = (0, σ2) := by
          simp only [F_X6_moveOneSecond, q_L, hσ]
          rw [if_neg ns]
          simp only [e3, e4, if_false]
          rw [if_pos a4]
        rw [ef, es]
        refine ⟨?_, ?_, hT2, fun y q1 _ _ => hof y q1⟩
        · unfold P_X6_moveOneSecond
          refine ⟨fun _ => trivial, fun _ => ⟨p1, fun z hz => ?_⟩⟩
          rw [hσ] at hz
          subst hz
          refine ⟨fun _ => trivial, fun _ => ⟨fun _ => trivial, fun y => absurd (by rw [e4]; exact a4) y⟩⟩
        · rw [z_up_n (by decide), z_up_n (by decide), hr]
          rfl
      · rw [if_neg a4] at es
        have h11 : z_T (q_up (q_up σ2 p 3 3) p 11 (nI (b 2))) p w (z_up (z_up (z_up (z_up x 7 q) 9 (x 9 + 1)) 6 2) 18 (b 2)) := (hT2.st_ (y := 2) (fun e => absurd (z_up_s _ _ _) e)).tm_
        have elp : (q_up (q_up σ2 p 3 3) p 11 (nI (b 2))) p 10 = nI (x 13) := by
          rw [q_up_nj (by decide), q_up_nj (by decide), f1, q_up_nj (by decide), q_up_nj (by decide)]
          exact h.lp (by omega)
        have elg : (q_up (q_up σ2 p 3 3) p 11 (nI (b 2))) p 6 = nI 3 := by
          rw [q_up_nj (by decide), q_up_nj (by decide)]
          exact e6
        generalize hσ6 : q_up (q_up σ2 p 3 3) p 11 (nI (b 2)) = σ6 at h11 elp elg
        have ee : F_X6_endLeg p (nI (b 2)) σ6 = (nI (b 2 - x 13), q_up (q_up σ6 (p + 2) 3 (nI (b 2 - x 13))) p 10 (nI (b 2))) := by
          simp only [F_X6_endLeg, q_L]
          rw [elp, elg, z_sub (by omega), z_put (z_len (by omega)) (by decide)]
        have ef : F_X6_moveOneSecond p (nI (b 0)) (nI (b 2)) c = (1, q_up (q_up σ6 (p + 2) 3 (nI (b 2 - x 13))) p 10 (nI (b 2))) := by
          simp only [F_X6_moveOneSecond, q_L, hσ]
          rw [if_neg ns]
          simp only [e3, e4, if_false]
          rw [if_neg a4, hσ6, ee]
        have hfin := (h11.sl_ (j := 3) (y := b 2 - x 13) (by decide)).lpf (v := nI (b 2)) (by
          rw [z_up_n (by decide), z_up_n (by decide), z_up_s])
        rw [show b 2 - x 13 + 1 = 1 + b 2 - x 13 by omega] at hfin
        rw [ef, es]
        refine ⟨?_, ?_, hfin, fun y q1 q2 q3 => ?_⟩
        · unfold P_X6_moveOneSecond
          refine ⟨fun _ => trivial, fun _ => ⟨p1, fun z hz => ?_⟩⟩
          rw [hσ] at hz
          subst hz
          refine ⟨fun _ => trivial, fun _ => ⟨fun _ => trivial, fun _ z hz => ⟨?_, trivial⟩⟩⟩
          rw [hσ6] at hz
          subst hz
          unfold P_X6_endLeg
          intro x1 _
          refine ⟨?_, trivial⟩
          rw [elg]
          exact z_putP (z_len (by omega)) (by decide)
        · rw [z_up_n (by decide), z_up_n (by decide), z_up_s]
          rfl
        · show (q_up (q_up σ6 (p + 2) 3 (nI (b 2 - x 13))) p 10 (nI (b 2))) y = c y
          rw [q_up_off q1, q_up_off q3, ← hσ6, q_up_off q1, q_up_off q1]
          exact hof y q1
