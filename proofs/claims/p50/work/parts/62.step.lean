/-! One second of a team, in the model and in the class. -/
theorem z_l0 : (0 : Int32) = nI 0 := rfl
theorem z_l1 : (1 : Int32) = nI 1 := rfl
theorem z_l2 : (2 : Int32) = nI 2 := rfl
theorem z_l3 : (3 : Int32) = nI 3 := rfl
theorem z_l4 : (4 : Int32) = nI 4 := rfl
theorem z_l5 : (5 : Int32) = nI 5 := rfl
theorem z_l6 : (6 : Int32) = nI 6 := rfl
theorem z_l7 : (7 : Int32) = nI 7 := rfl
theorem z_l8 : (8 : Int32) = nI 8 := rfl
theorem z_l9 : (9 : Int32) = nI 9 := rfl
theorem z_l10 : (10 : Int32) = nI 10 := rfl
theorem z_l13 : (13 : Int32) = nI 13 := rfl
theorem z_l14 : (14 : Int32) = nI 14 := rfl
theorem z_l18 : (18 : Int32) = nI 18 := rfl
theorem z_l20 : (20 : Int32) = nI 20 := rfl
theorem z_l32 : (32 : Int32) = nI 32 := rfl
theorem z_l60 : (60 : Int32) = nI 60 := rfl
theorem z_l99 : (99 : Int32) = nI 99 := rfl
theorem z_l100 : (100 : Int32) = nI 100 := rfl
theorem z_l118 : (118 : Int32) = nI 118 := rfl
theorem z_l126 : (126 : Int32) = nI 126 := rfl
theorem z_l200 : (200 : Int32) = nI 200 := rfl
theorem z_l300 : (300 : Int32) = nI 300 := rfl
theorem z_l400 : (400 : Int32) = nI 400 := rfl
theorem z_l999 : (999 : Int32) = nI 999 := rfl
theorem z_l1000 : (1000 : Int32) = nI 1000 := rfl
theorem z_l4000 : (4000 : Int32) = nI 4000 := rfl
theorem z_l1000000 : (1000000 : Int32) = nI 1000000 := rfl
def z_pc (v n : Nat) : Nat := if v - n / 10 < 10 then 10 else v - n / 10
theorem z_pc_le {v n : Nat} (h : v ≤ 99) : z_pc v n ≤ 99 ∧ 10 ≤ z_pc v n := by
  unfold z_pc
  split <;> omega
theorem z_step {m : q_M} {v n : Nat} (hv : v ≤ 99) (hn : n < 2 ^ 30) : F_X9_step (nI v) (nI n) m = nI (z_pc v n) := by
  have ed : nI n / nI 10 = nI (n / 10) := pk_div (by omega) (by omega) (by omega)
  simp only [F_X9_step, q_L, z_l10, ed]
  unfold z_pc
  by_cases h : n / 10 ≤ v
  · rw [z_sub h]
    simp (disch := omega) only [z_lt]
    split <;> rfl
  · have e : (nI v - nI (n / 10)).toInt = (v : Int) - (n / 10 : Nat) := pk_sub_toInt (by omega) (by omega)
    have e2 : nI v - nI (n / 10) < nI 10 := by
      rw [Int32.lt_iff_toInt_lt, e, nI_toInt (by omega)]
      omega
    rw [if_pos e2, if_pos (show v - n / 10 < 10 by omega)]
theorem z_pace {c : q_M} {v n : Nat} (hv : v ≤ 99) (hn : n < 2 ^ 30) : F_X8_pace (nI v) (nI n) c = nI (z_pc v n) := by
  have ed : nI n / nI 10 = nI (n / 10) := pk_div (by omega) (by omega) (by omega)
  simp only [F_X8_pace, q_max, z_l10, ed]
  unfold z_pc
  by_cases h : n / 10 ≤ v
  · rw [z_sub h]
    simp (disch := omega) only [z_lt]
    by_cases h2 : v - n / 10 < 10
    · rw [if_pos h2, if_neg (by omega)]
    · rw [if_neg h2]
      by_cases h3 : 10 < v - n / 10
      · rw [if_pos h3]
      · rw [if_neg h3, show v - n / 10 = 10 by omega]
  · have e : (nI v - nI (n / 10)).toInt = (v : Int) - (n / 10 : Nat) := pk_sub_toInt (by omega) (by omega)
    have e2 : ¬ nI 10 < nI v - nI (n / 10) := by
      rw [Int32.lt_iff_toInt_lt, e, nI_toInt (by omega)]
      omega
    rw [if_neg e2, if_pos (show v - n / 10 < 10 by omega)]
/-- what a second does to a team -/
def z_st (L T : Nat) (x : Nat → Nat) : Nat → Nat :=
  if 0 < x 10 then z_up x 10 (x 10 - 1)
  else if x 8 < 3 then
    (if x 7 = (x 8 + 1) * L + 300 then x
     else z_up (z_up x 7 (if (x 8 + 1) * L + 300 < x 7 + z_pc (x (x 8)) (x 9) then (x 8 + 1) * L + 300 else x 7 + z_pc (x (x 8)) (x 9))) 9 (x 9 + 1))
  else if x 7 + z_pc (x 3) (x 9) < 4 * L then z_up (z_up x 7 (x 7 + z_pc (x 3) (x 9))) 9 (x 9 + 1)
  else z_up (z_up (z_up (z_up (z_up x 7 (x 7 + z_pc (x 3) (x 9))) 9 (x 9 + 1)) 6 2) 18 T) 17 (1 + T - x 13)
theorem z_mE {a L : Nat} (ha : a ≤ 3) (hL : L ≤ 4000) : (a + 1) * L ≤ 16000 := by
  have := Nat.mul_le_mul (show a + 1 ≤ 4 by omega) hL
  omega
theorem z_end {m : q_M} {b : Nat → Nat} {t : Nat → Nat → Nat} (h : z_M m b t) {a : Nat} : F_X9_endOf (nI a) m = nI ((a + 1) * b 0) := by
  unfold F_X9_endOf
  rw [h.bs 0 (by decide), z_l1, z_add, z_mul]
theorem z_ofg {m : q_M} {b : Nat → Nat} {t : Nat → Nat → Nat} (h : z_M m b t) {w a : Nat} (hw : w < 6) (ha : a < 4) : F_X9_of (nI w) (0 + nI a) m = nI (t w a) := by
  rw [z_l0, z_add, Nat.zero_add]
  exact h.of hw (by omega)
theorem z_ofgP {m : q_M} {w a : Nat} (hw : w < 6) (ha : a < 4) : P_X9_of (nI w) (0 + nI a) m := by
  rw [z_l0, z_add, Nat.zero_add]
  exact z_ofP hw (by omega)
theorem z_stands {m : q_M} {b : Nat → Nat} {t : Nat → Nat → Nat} (h : z_M m b t) {w k : Nat} (hw : w < 6) (hW : z_W k b (t w)) (hL : b 0 ≤ 4000) : P_X9_standsAtBound (nI w) m ∧ F_X9_standsAtBound (nI w) m = if t w 8 < 3 ∧ t w 7 = (t w 8 + 1) * b 0 + 300 then 1 else 0 := by
  have h8 := hW.lg
  have h7 := hW.ps
  have hE := z_mE h8 hL
  constructor
  · unfold P_X9_standsAtBound
    refine ⟨z_p8 hw, fun x1 _ => ⟨fun _ => ⟨z_p7 hw, trivial⟩, fun _ => trivial⟩⟩
  · simp (disch := omega) only [F_X9_standsAtBound, q_L, h.o8 hw, h.o7 hw, z_end h, z_l3, z_lt, z_l300, z_add, z_eq]
    by_cases a : t w 8 < 3
    · rw [if_pos a]
      by_cases e : t w 7 = (t w 8 + 1) * b 0 + 300
      · rw [if_pos e, if_pos ⟨a, e⟩]
      · rw [if_neg e, if_neg (fun q => e q.2)]
    · rw [if_neg a, if_neg (fun q => a q.1)]
theorem z_offs {m : q_M} {w k a : Nat} {v : Int32} (hw : w < 6) (hk : k < 19) (ha : a ≠ 230) : F_X9_sets (nI w) (nI k) v m a = m a := by
  rw [z_sets hw hk]
  exact q_up_off ha
theorem z_carries {m : q_M} {b : Nat → Nat} {t : Nat → Nat → Nat} (h : z_M m b t) {w k : Nat} (hw : w < 6) (hW : z_W k b (t w)) (hL : b 0 ≤ 4000) (hk : k ≤ 20000) (hT : b 2 ≤ 200 * k) (h10 : ¬ 0 < t w 10) (hs : ¬ (t w 8 < 3 ∧ t w 7 = (t w 8 + 1) * b 0 + 300)) :
    P_X9_carries (nI w) m ∧ z_M (F_X9_carries (nI w) m) b (z_ut t w (z_st (b 0) (b 2) (t w))) ∧ ∀ a, a ≠ 230 → F_X9_carries (nI w) m a = m a := by
  have h8 := hW.lg
  have h7 := hW.ps
  have h9 := hW.sr
  have h13 := hW.lp
  have hE := z_mE h8 hL
  have hsp := hW.sp (t w 8) (by omega)
  have hpc := z_pc_le (v := t w (t w 8)) (n := t w 9) hsp.2
  have e3 : F_X9_of (nI w) 7 m + F_X9_step (F_X9_of (nI w) (0 + F_X9_of (nI w) 8 m) m) (F_X9_of (nI w) 9 m) m = nI (t w 7 + z_pc (t w (t w 8)) (t w 9)) := by
    rw [h.o8 hw, h.o7 hw, h.o9 hw, z_ofg h hw (by omega), z_step hsp.2 (by omega), z_add]
  have e5 : F_X9_endOf (F_X9_of (nI w) 8 m) m + 300 = nI ((t w 8 + 1) * b 0 + 300) := by
    rw [h.o8 hw, z_end h, z_l300, z_add]
  have e8 := h.o8 (w := w) hw
  generalize hq : t w 7 + z_pc (t w (t w 8)) (t w 9) = q at e3
  generalize hB : (t w 8 + 1) * b 0 + 300 = B at e5 hs
  have hq2 : q < 20000 := by omega
  have hB2 : B < 20000 := by omega
  -- the place
  have ex9 : (if F_X9_of (nI w) 8 m < 3 then (if nI B < nI q then nI B else nI q) else nI q) = nI (if t w 8 < 3 then (if B < q then B else q) else q) := by
    simp (disch := omega) only [e8, z_l3, z_lt]
    split
    · split <;> rfl
    · rfl
  generalize hp : (if t w 8 < 3 then (if B < q then B else q) else q) = p at ex9
  have hm1 := h.s7 (y := p) hw
  have e11 : F_X9_of (nI w) 9 (F_X9_sets (nI w) 7 (nI p) m) = nI (t w 9) := by
    rw [hm1.o9 hw, z_ut_s]
    rfl
  have hm2 := hm1.s9 (y := t w 9 + 1) hw
  rw [z_ut_ut, z_ut_s] at hm2
  have eE : F_X9_endOf (nI (t w 8)) (F_X9_sets (nI w) 9 (nI (t w 9 + 1)) (F_X9_sets (nI w) 7 (nI p) m)) = nI ((t w 8 + 1) * b 0) := z_end hm2
  have hst : z_st (b 0) (b 2) (t w) = if t w 8 < 3 then z_up (z_up (t w) 7 p) 9 (t w 9 + 1) else if q < 4 * b 0 then z_up (z_up (t w) 7 p) 9 (t w 9 + 1) else z_up (z_up (z_up (z_up (z_up (t w) 7 p) 9 (t w 9 + 1)) 6 2) 18 (b 2)) 17 (1 + b 2 - t w 13) := by
    unfold z_st
    rw [if_neg h10]
    by_cases a : t w 8 < 3
    · rw [if_pos a, if_pos a, if_neg (by rw [hB]; exact fun e => hs ⟨a, e⟩), hB, hq, ← hp, if_pos a]
    · have e : t w 8 = 3 := by omega
      rw [if_neg a, if_neg a, ← hp, if_neg a]
      rw [e] at hq
      rw [hq]
  have hm3 := hm2.s6 (y := 2) hw
  rw [z_ut_ut, z_ut_s] at hm3
  have hm4 := hm3.s18 (y := b 2) hw
  rw [z_ut_ut, z_ut_s] at hm4
  have e19 : ((1 : Int32) + (F_X9_sets (nI w) 18 (nI (b 2)) (F_X9_sets (nI w) 6 (nI 2) (F_X9_sets (nI w) 9 (nI (t w 9 + 1)) (F_X9_sets (nI w) 7 (nI p) m)))) 230 2) - F_X9_of (nI w) 13 (F_X9_sets (nI w) 18 (nI (b 2)) (F_X9_sets (nI w) 6 (nI 2) (F_X9_sets (nI w) 9 (nI (t w 9 + 1)) (F_X9_sets (nI w) 7 (nI p) m)))) = nI (1 + b 2 - t w 13) := by
    rw [hm4.bs 2 (by decide), hm4.o13 hw, z_ut_s, z_l1, z_add]
    show nI (1 + b 2) - nI (t w 13) = _
    rw [z_sub (by omega)]
  have hm5 := hm4.s17 (y := 1 + b 2 - t w 13) hw
  rw [z_ut_ut, z_ut_s] at hm5
  have e2c : ∀ σ : q_M, z_M σ b (z_ut t w (z_up (z_up (z_up (t w) 7 p) 9 (t w 9 + 1)) 6 2)) → σ 230 2 = nI (b 2) := fun σ hσ => hσ.bs 2 (by decide)
  refine ⟨?_, ?_, ?_⟩
  · unfold P_X9_carries
    simp only [forall_eq']
    refine ⟨z_p8 hw, z_p7 hw, by rw [e8]; exact z_ofgP hw (by omega), z_p9 hw, trivial, z_q7 hw, z_p9 hw, z_q9 hw, ?_⟩
    refine ⟨fun _ => ⟨fun _ => trivial, fun _ => ⟨z_q6 hw, z_q18 hw, z_p13 hw, ?_, trivial⟩⟩, fun _ => trivial⟩
    have e14 : (14 : Int32) + F_X9_of (nI w) 8 m = nI (14 + t w 8) := by rw [e8, z_l14, z_add]
    rw [e14]
    exact z_setsP hw (by omega)
  · simp only [F_X9_carries, q_L]
    rw [e3, e5, ex9, e11]
    simp (disch := omega) only [z_l1, z_add, e8, eE, z_l3, z_eq, z_lt]
    rw [hst]
    by_cases a : t w 8 < 3
    · rw [if_neg (by omega), if_pos a]
      exact hm2
    · have a3 : t w 8 = 3 := by omega
      rw [if_pos a3, if_neg a, a3]
      by_cases a4 : q < 4 * b 0
      · rw [if_pos (by omega), if_pos a4]
        exact hm2
      · rw [if_neg (by omega), if_neg a4]
        rw [z_l2, e2c _ hm3, show ((14 : Int32) + nI 3) = nI 17 from rfl, ← z_l1, e19]
        exact hm5
  · intro a ha
    simp only [F_X9_carries, q_L]
    rw [e3, e5, ex9, e11]
    simp only [z_l1, z_add, e8]
    have f7 : F_X9_sets (nI w) 7 (nI p) m a = m a := z_offs (k := 7) hw (by decide) ha
    have f9 : ∀ σ v, F_X9_sets (nI w) 9 v σ a = σ a := fun σ v => z_offs (k := 9) hw (by decide) ha
    have f6 : ∀ σ v, F_X9_sets (nI w) 6 v σ a = σ a := fun σ v => z_offs (k := 6) hw (by decide) ha
    have f18 : ∀ σ v, F_X9_sets (nI w) 18 v σ a = σ a := fun σ v => z_offs (k := 18) hw (by decide) ha
    have f14 : ∀ σ v, F_X9_sets (nI w) (14 + nI (t w 8)) v σ a = σ a := fun σ v => by
      rw [z_l14, z_add]
      exact z_offs hw (by omega) ha
    split
    · split
      · rw [f9, f7]
      · rw [f14, f18, f6, f9, f7]
    · rw [f9, f7]
theorem z_moves {m : q_M} {b : Nat → Nat} {t : Nat → Nat → Nat} (h : z_M m b t) {w k : Nat} (hw : w < 6) (hW : z_W k b (t w)) (hL : b 0 ≤ 4000) (hk : k ≤ 20000) (hT : b 2 ≤ 200 * k) :
    P_X9_moves (nI w) m ∧ z_M (F_X9_moves (nI w) m) b (z_ut t w (z_st (b 0) (b 2) (t w))) ∧ ∀ a, a ≠ 230 → F_X9_moves (nI w) m a = m a := by
  have h10 := hW.sd
  obtain ⟨p1, f1⟩ := z_stands h hw hW hL
  have e0 : ((0 : Int32) < F_X9_of (nI w) 10 m) = (0 < t w 10) := by rw [h.o10 hw, z_l0, z_lt (by omega) (by omega)]
  simp only [P_X9_moves, F_X9_moves, q_L, e0, f1]
  by_cases a : 0 < t w 10
  · have hm := h.s10 (y := t w 10 - 1) hw
    refine ⟨⟨z_p10 hw, fun _ => ⟨z_p10 hw, z_q10 hw, trivial⟩, fun q => absurd a q⟩, ?_, ?_⟩
    · rw [if_pos a, h.o10 hw, z_l1, z_sub (by omega)]
      unfold z_st
      rw [if_pos a]
      exact hm
    · intro c hc
      rw [if_pos a]
      exact z_offs (k := 10) hw (by decide) hc
  · by_cases s : t w 8 < 3 ∧ t w 7 = (t w 8 + 1) * b 0 + 300
    · rw [if_pos s]
      refine ⟨⟨z_p10 hw, fun q => absurd q a, fun _ => ⟨p1, fun q => absurd q (by decide), fun _ => trivial⟩⟩, ?_, ?_⟩
      · rw [if_neg a, if_neg (by decide)]
        unfold z_st
        rw [if_neg a, if_pos s.1, if_pos s.2]
        refine ⟨h.1, fun i hi j hj => ?_⟩
        rw [h.2 i hi j hj]
        by_cases e : i = w
        · subst e; rw [z_ut_s]
        · rw [z_ut_n e]
      · intro c _
        rw [if_neg a, if_neg (by decide)]
    · rw [if_neg s]
      obtain ⟨c1, c2, c3⟩ := z_carries h hw hW hL hk hT a s
      refine ⟨⟨z_p10 hw, fun q => absurd q a, fun _ => ⟨p1, fun _ => ⟨c1, trivial⟩, fun q => absurd rfl q⟩⟩, ?_, ?_⟩
      · rw [if_neg a, if_pos rfl]
        exact c2
      · intro c hc
        rw [if_neg a, if_pos rfl]
        exact c3 c hc

