/-! How the race begins. -/
theorem z_and (x : Int32) : ¬ (x &&& 2147483647) < 0 := by
  intro h
  rw [Int32.lt_iff_toInt_lt] at h
  have hm : (x &&& 2147483647).toBitVec.msb = false := by
    rw [Int32.toBitVec_and, BitVec.msb_and]
    have : (2147483647 : Int32).toBitVec.msb = false := by decide
    rw [this, Bool.and_false]
  have e : (x &&& 2147483647).toInt = (if 2 * (x &&& 2147483647).toBitVec.toNat < 2 ^ 32 then ((x &&& 2147483647).toBitVec.toNat : Int) else ((x &&& 2147483647).toBitVec.toNat : Int) - ((2 ^ 32 : Nat) : Int)) := rfl
  have h2 : 2 * (x &&& 2147483647).toBitVec.toNat < 2 ^ 32 := by
    rw [BitVec.msb_eq_decide] at hm
    have := of_decide_eq_false hm
    omega
  rw [if_pos h2] at e
  have : (0 : Int32).toInt = 0 := by decide
  omega
/-- a draw from the script: below n -/
theorem a_in (ζ : Nat → Nat) (i : Int32) {n : Nat} (σ : q_M) (h336 : ζ 336 ≤ 260) (hn : 0 < n) (hn2 : n < 2 ^ 31) (hi : ¬ i < 0) : P_L_in ζ i (nI n) σ ∧ ∃ a, a < n ∧ F_L_in ζ i (nI n) σ = nI a := by
  constructor
  · refine ⟨⟨⟨fun h => ⟨?_, trivial⟩, fun _ => trivial⟩, fun _ _ => trivial⟩, fun x1 _ => ⟨nI_ne0 hn hn2, trivial⟩⟩
    obtain ⟨j, hj, rfl⟩ := nI_of hi
    exact vp_in_nI ((nI_ltI hj (by omega)).mp h) (by omega)
  · obtain ⟨j, hj, e⟩ := nI_of (z_and (F_L_cell ζ i σ))
    refine ⟨j % n, Nat.mod_lt _ hn, ?_⟩
    show ((F_L_cell ζ i σ) &&& 2147483647) - ((F_L_cell ζ i σ) &&& 2147483647) / nI n * nI n = _
    rw [e, pk_rem hj hn hn2]
/-- a sum of n answers -/
def z_bd (n : Nat) (x : Int32) : Prop := -(1000000 * (n : Int)) ≤ x.toInt ∧ x.toInt ≤ 5000000 * (n : Int)
theorem z_bd.add {n m : Nat} {x y : Int32} (h1 : z_bd n x) (h2 : z_bd m y) (h : n + m ≤ 100) : z_bd (n + m) (x + y) := by
  unfold z_bd at h1 h2 ⊢
  have e : (x + y).toInt = x.toInt + y.toInt := by
    rw [Int32.toInt_add]
    apply Int.bmod_eq_of_le_mul_two <;> omega
  rw [e]
  omega
theorem z_bd.mono {n m : Nat} {x : Int32} (h : z_bd n x) (hm : n ≤ m) : z_bd m x := by
  unfold z_bd at h ⊢
  omega
theorem z_bd0 : z_bd 0 0 := ⟨by decide, by decide⟩
theorem z_bdn {a : Nat} (h : a < 5000000) : z_bd 1 (nI a) := by
  unfold z_bd
  rw [nI_toInt (by omega)]
  omega
theorem z_bdb {x : Int32} (h : z_bad x) : z_bd 1 x := by
  rcases h with rfl | rfl | rfl <;> exact ⟨by decide, by decide⟩
theorem z_bd.ok {n : Nat} {x : Int32} (h : z_bd n x) (hn : n ≤ 80) : ¬ x < -90000000 ∧ ¬ x ≤ -90000000 := by
  unfold z_bd at h
  have e : (-90000000 : Int32).toInt = -90000000 := by decide
  constructor
  · rw [Int32.lt_iff_toInt_lt, e]; omega
  · rw [Int32.le_iff_toInt_le, e]; omega
/-- what is kept, with n teams at least -/
def z_S (k n : Nat) (σ : q_M) : Prop := ∃ b t nw sz hb ht sb st, n ≤ b 3 ∧ z_C k σ b t nw sz hb ht sb st
theorem z_wo.any {k n : Nat} {b : Nat → Nat} {t : Nat → Nat → Nat} {nw sz : Nat} {hb : Nat → Nat → Nat} {ht : Nat → Nat → Nat → Nat} {sb : Nat → Nat} {st : Nat → Nat → Nat} {y : Int32 × q_M} (h : z_wo k b t nw sz hb ht sb st y) (hn : n ≤ b 3) : z_S (k + 1) n y.2 ∧ z_bd 1 y.1 := by
  rcases h with ⟨h1, h2⟩ | ⟨res, b', t', h1, h2, h3, h4⟩
  · exact ⟨⟨_, _, _, _, _, _, _, _, hn, h2⟩, z_bdb h1⟩
  · exact ⟨⟨_, _, _, _, _, _, _, _, Nat.le_trans hn h2, h4⟩, by rw [h3]; exact z_bdn h1⟩
theorem d_addTeam {k n : Nat} {σ : q_M} (hk : k < 20000) (h : z_S k n σ)  : Q_addTeam σ ∧ z_S (k + 1) n (W_addTeam σ).2 ∧ z_bd 1 (W_addTeam σ).1 := by
  obtain ⟨b, t, nw, sz, hb, ht, sb, st, hn, hC⟩ := h
  obtain ⟨h1, h2⟩ := c_addTeam hk hC 
  exact ⟨h1, h2.any hn⟩
theorem d_setSpeed {k n : Nat} {σ : q_M} (hk : k < 20000) (h : z_S k n σ) (g0 : Int32) (g1 : Int32) (g2 : Int32) : Q_setSpeed g0 g1 g2 σ ∧ z_S (k + 1) n (W_setSpeed g0 g1 g2 σ).2 ∧ z_bd 1 (W_setSpeed g0 g1 g2 σ).1 := by
  obtain ⟨b, t, nw, sz, hb, ht, sb, st, hn, hC⟩ := h
  obtain ⟨h1, h2⟩ := c_setSpeed hk hC g0 g1 g2
  exact ⟨h1, h2.any hn⟩
theorem d_setLength {k n : Nat} {σ : q_M} (hk : k < 20000) (h : z_S k n σ) (g0 : Int32) : Q_setLength g0 σ ∧ z_S (k + 1) n (W_setLength g0 σ).2 ∧ z_bd 1 (W_setLength g0 σ).1 := by
  obtain ⟨b, t, nw, sz, hb, ht, sb, st, hn, hC⟩ := h
  obtain ⟨h1, h2⟩ := c_setLength hk hC g0
  exact ⟨h1, h2.any hn⟩
theorem d_drawLanes {k n : Nat} {σ : q_M} (hk : k < 20000) (h : z_S k n σ) (g0 : Int32) : Q_drawLanes g0 σ ∧ z_S (k + 1) n (W_drawLanes g0 σ).2 ∧ z_bd 1 (W_drawLanes g0 σ).1 := by
  obtain ⟨b, t, nw, sz, hb, ht, sb, st, hn, hC⟩ := h
  obtain ⟨h1, h2⟩ := c_drawLanes hk hC g0
  exact ⟨h1, h2.any hn⟩
theorem d_start {k n : Nat} {σ : q_M} (hk : k < 20000) (h : z_S k n σ)  : Q_start σ ∧ z_S (k + 1) n (W_start σ).2 ∧ z_bd 1 (W_start σ).1 := by
  obtain ⟨b, t, nw, sz, hb, ht, sb, st, hn, hC⟩ := h
  obtain ⟨h1, h2⟩ := c_start hk hC 
  exact ⟨h1, h2.any hn⟩
theorem d_run {k n : Nat} {σ : q_M} (hk : k < 20000) (h : z_S k n σ) (g0 : Int32) : Q_run g0 σ ∧ z_S (k + 1) n (W_run g0 σ).2 ∧ z_bd 1 (W_run g0 σ).1 := by
  obtain ⟨b, t, nw, sz, hb, ht, sb, st, hn, hC⟩ := h
  obtain ⟨h1, h2⟩ := c_run hk hC g0
  exact ⟨h1, h2.any hn⟩
theorem d_pass {k n : Nat} {σ : q_M} (hk : k < 20000) (h : z_S k n σ) (g0 : Int32) : Q_pass g0 σ ∧ z_S (k + 1) n (W_pass g0 σ).2 ∧ z_bd 1 (W_pass g0 σ).1 := by
  obtain ⟨b, t, nw, sz, hb, ht, sb, st, hn, hC⟩ := h
  obtain ⟨h1, h2⟩ := c_pass hk hC g0
  exact ⟨h1, h2.any hn⟩
theorem d_drop {k n : Nat} {σ : q_M} (hk : k < 20000) (h : z_S k n σ) (g0 : Int32) (g1 : Int32) : Q_drop g0 g1 σ ∧ z_S (k + 1) n (W_drop g0 g1 σ).2 ∧ z_bd 1 (W_drop g0 g1 σ).1 := by
  obtain ⟨b, t, nw, sz, hb, ht, sb, st, hn, hC⟩ := h
  obtain ⟨h1, h2⟩ := c_drop hk hC g0 g1
  exact ⟨h1, h2.any hn⟩
theorem d_withdraw {k n : Nat} {σ : q_M} (hk : k < 20000) (h : z_S k n σ) (g0 : Int32) : Q_withdraw g0 σ ∧ z_S (k + 1) n (W_withdraw g0 σ).2 ∧ z_bd 1 (W_withdraw g0 σ).1 := by
  obtain ⟨b, t, nw, sz, hb, ht, sb, st, hn, hC⟩ := h
  obtain ⟨h1, h2⟩ := c_withdraw hk hC g0
  exact ⟨h1, h2.any hn⟩
theorem d_protest {k n : Nat} {σ : q_M} (hk : k < 20000) (h : z_S k n σ) (g0 : Int32) (g1 : Int32) (g2 : Int32) : Q_protest g0 g1 g2 σ ∧ z_S (k + 1) n (W_protest g0 g1 g2 σ).2 ∧ z_bd 1 (W_protest g0 g1 g2 σ).1 := by
  obtain ⟨b, t, nw, sz, hb, ht, sb, st, hn, hC⟩ := h
  obtain ⟨h1, h2⟩ := c_protest hk hC g0 g1 g2
  exact ⟨h1, h2.any hn⟩
theorem z_s0t {r w j : Nat} (hr : r % 20 = 0) (h2 : r + 20 ≤ 220) (hw : w < 6) : q_s0 (r + 2 + 3 * w) j = if j = 0 then nI w else if j = 4 then nI (w + 1) else 0 := by
  have e0 : (r + 2 + 3 * w) % 20 = 2 + 3 * w := by
    rcases (show w = 0 ∨ w = 1 ∨ w = 2 ∨ w = 3 ∨ w = 4 ∨ w = 5 by omega) with e | e | e | e | e | e <;> rw [e] <;> omega
  unfold q_s0
  rw [if_pos (by omega), if_neg (by omega), if_neg (by omega), if_pos (by omega), show ((r + 2 + 3 * w) % 20 - 2) / 3 = w by omega]
theorem z_s0s {r w j : Nat} (hr : r % 20 = 0) (h2 : r + 20 ≤ 220) (hw : w < 6) : q_s0 (r + 2 + 3 * w + 1) j = nI 60 := by
  have e0 : (r + 2 + 3 * w + 1) % 20 = 3 + 3 * w := by
    rcases (show w = 0 ∨ w = 1 ∨ w = 2 ∨ w = 3 ∨ w = 4 ∨ w = 5 by omega) with e | e | e | e | e | e <;> rw [e] <;> omega
  unfold q_s0
  rw [if_pos (by omega), if_neg (by omega), if_neg (by omega), if_neg (by omega), if_pos (by omega)]
  rfl
theorem z_s0p {r w j : Nat} (hr : r % 20 = 0) (h2 : r + 20 ≤ 220) (hw : w < 6) : q_s0 (r + 2 + 3 * w + 2) j = 0 := by
  unfold q_s0
  by_cases e : (r + 2 + 3 * w + 2) % 20 = 0
  · omega
  · rw [if_pos (by omega), if_neg e, if_neg (by omega), if_neg (by omega), if_neg (by omega)]
theorem z_s0N {r w : Nat} (hr : r % 20 = 0) (h2 : r + 20 ≤ 220) (hw : w < 6) : z_N q_s0 (r + 2 + 3 * w) w := by
  refine ⟨?_, ?_, ?_, fun j j1 j2 => ?_, fun j _ => z_s0s hr h2 hw, fun j _ => z_s0p hr h2 hw⟩
  · rw [z_s0t hr h2 hw, if_pos rfl]
  · rw [z_s0t hr h2 hw, if_neg (by decide), if_neg (by decide)]
  · rw [z_s0t hr h2 hw, if_neg (by decide), if_pos rfl]
  · rw [z_s0t hr h2 hw, if_neg (by omega), if_neg (by omega)]
theorem z_s0n {r : Nat} (hr : r % 20 = 0) (h2 : r + 20 ≤ 220) : z_no q_s0 r := fun _ hw => (z_s0N hr h2 hw).no
theorem z_s0C : z_C 0 q_s0 (fun j => if j = 0 then 1000 else 0) (fun _ _ => 0) 0 0 (fun _ _ => 0) (fun _ _ _ => 0) (fun _ => 77) (fun _ _ => 0) :=
  ⟨⟨rfl, rfl, rfl, fun w hw h => absurd h (Nat.not_lt_zero w), fun w hw _ => z_s0N rfl (by decide) hw⟩, z_s0n rfl (by decide), z_s0n rfl (by decide), ⟨by decide, by decide, by decide, by decide, by decide, fun w h => absurd h (Nat.not_lt_zero w), fun _ _ _ _ _ => rfl, fun w h => absurd h (Nat.not_lt_zero w)⟩, fun i hi => absurd hi (Nat.not_lt_zero i), ⟨rfl, rfl, by decide, by decide, fun i hi => absurd hi (Nat.not_lt_zero i), fun i hi => z_s0n (by omega) (by omega)⟩, .inl ⟨rfl, rfl⟩, ⟨0, by decide, rfl, fun i hi => absurd hi (Nat.not_lt_zero i)⟩, rfl⟩
set_option maxRecDepth 100000 in
theorem z_add1 : (W_addTeam q_s0).2 2 3 = 1 := by decide +kernel
theorem z_first : Q_addTeam q_s0 ∧ z_S 1 1 (W_addTeam q_s0).2 ∧ z_bd 1 (W_addTeam q_s0).1 := by
  obtain ⟨h1, h2⟩ := c_addTeam (by decide) z_s0C
  obtain ⟨⟨b, t, nw, sz, hb, ht, sb, st, -, hC⟩, h4⟩ := h2.any (Nat.zero_le _)
  refine ⟨h1, ⟨b, t, nw, sz, hb, ht, sb, st, ?_, hC⟩, h4⟩
  rcases Nat.lt_or_ge 0 (b 3) with h | h
  · exact h
  · have h0 := (hC.1.ab 0 (by decide) h).st
    rw [show 0 + 2 + 3 * 0 = 2 from rfl, z_add1] at h0
    exact absurd h0 (by decide)
