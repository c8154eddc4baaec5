/-! What the questions rest on. -/
theorem z_01i {v : Int32} (h : v = 0 ∨ v = 1) : (if v = 0 then (0 : Int32) else 1) = v := by
  rcases h with h | h <;> rw [h] <;> rfl
theorem z_tw1 {k w : Nat} {σ : q_M} {b : Nat → Nat} {t : Nat → Nat → Nat} (hR : z_R σ 0 b t) (hV : z_V k b t) (hw : w < b 3) : F_X8_teamWith (nI w) σ = .inl (0 + 2 + 3 * w) := by
  obtain ⟨e0, e1⟩ := z_tm0 hR hV hw
  rw [z_tw e1, e0]
theorem z_tw0 {g : Int32} {σ : q_M} {b : Nat → Nat} {t : Nat → Nat → Nat} (hR : z_R σ 0 b t) (hg : ¬ ∃ w, w < b 3 ∧ g = nI w) : F_X8_teamWith g σ = .inr "java/lang/IndexOutOfBoundsException" := by
  unfold F_X8_teamWith
  rw [z_none hR hg]
theorem z_atX {f : Nat} {j : Int32} {c : q_M} (hf : f < 220) : P_X8_at f j c := by
  unfold P_X8_at
  rw [z_len hf]
  refine ⟨fun _ => trivial, fun h1 => ⟨fun h2 => ⟨?_, trivial⟩, fun _ => trivial⟩⟩
  rcases z_int j with h | ⟨n, hn, rfl⟩
  · exact absurd h h1
  · rw [z_lt hn (by decide)] at h2
    exact vp_in_nI h2 (by decide)
theorem z_twI {g l : Int32} {σ : q_M} {v : Nat} (h : F_X8_teamWithLeg g l σ = .inl v) : F_X8_teamWith g σ = .inl v := by
  unfold F_X8_teamWithLeg at h
  cases e : F_X8_teamWith g σ with
  | inl u =>
    rw [e] at h
    dsimp only at h
    by_cases q : F_X8_isLeg l σ = 0
    · rw [if_pos q] at h; injection h
    · rw [if_neg q] at h; exact h
  | inr E =>
    rw [e] at h
    injection h
theorem z_twB {g : Int32} {σ : q_M} {v : Nat} (h : F_X8_teamWith g σ = .inl v) : v < 20 := by
  unfold F_X8_teamWith at h
  cases e : F_X4_find 0 g σ with
  | none => rw [e] at h; injection h
  | some u =>
    rw [e] at h
    injection h with h
    subst h
    unfold F_X4_find at e
    by_cases q : g < 0
    · rw [if_pos q] at e; injection e
    · rw [if_neg q] at e
      by_cases q6 : g < 6
      · rw [if_pos q6] at e
        rcases z_int g with h | ⟨n, hn, rfl⟩
        · exact absurd h q
        · have q6 : nI n < nI 6 := q6
          rw [z_lt hn (by decide)] at q6
          rw [nI_clamp hn] at e
          by_cases q3 : σ (0 + 1 + 1 + 3 * n) 3 = 0
          · rw [if_pos q3] at e; injection e
          · rw [if_neg q3] at e
            injection e with e
            omega
      · rw [if_neg q6] at e; injection e
theorem z_laneL {k r : Nat} {σ : q_M} {b : Nat → Nat} {t : Nat → Nat → Nat} (hR : z_R σ r b t) (hV : z_V k b t) (q : Int32) : ∀ (nn j : Nat), 7 ≤ nn + j → j ≤ 6 → PL_X4_numberInLane_11 r q nn (nI j) σ ∧ (b 3 ≤ j → FL_X4_numberInLane_11 r q nn (nI j) σ = -1) ∧ ((∃ w, w < b 3 ∧ FL_X4_numberInLane_11 r q nn (nI j) σ = nI w ∧ ∀ τ, z_M τ b t → PL_X9_teamInLane_2 q nn (nI j) τ ∧ FL_X9_teamInLane_2 q nn (nI j) τ = (nI w, q_up τ 229 5 0)) ∨ (FL_X4_numberInLane_11 r q nn (nI j) σ = -1 ∧ ∀ τ, z_M τ b t → PL_X9_teamInLane_2 q nn (nI j) τ ∧ FL_X9_teamInLane_2 q nn (nI j) τ = (0, q_up τ 229 5 1))) := by
  intro nn
  induction nn with
  | zero => intro j h1 h2; omega
  | succ nn ih =>
    intro j h1 h2
    have n6 := hV.n6
    have ej : nI j + 1 = nI (j + 1) := by rw [z_l1, z_add]
    have e3 : ∀ τ, z_M τ b t → (nI j < τ 230 3) = (j < b 3) := fun τ hM => by rw [hM.bs 3 (by decide), z_lt (by omega) (by omega)]
    by_cases h6 : j < 6
    · have e6 : nI j < 6 := nI_lt (b := 6) h6 (by decide)
      have hc : (nI j).toNatClampNeg = j := nI_clamp (by omega)
      unfold PL_X4_numberInLane_11 FL_X4_numberInLane_11
      rw [if_pos e6, hc, z_place, ej]
      obtain ⟨i1, i0, i2⟩ := ih (j + 1) (by omega) (by omega)
      by_cases hj : j < b 3
      · have hT := hR.te j h6 hj
        have hst := (hV.te j hj).st
        have es : ¬ σ (r + 2 + 3 * j) 3 = 0 := by rw [hT.st]; exact nI_ne0 (by omega) (by omega)
        rw [if_neg es, hT.ln, hT.no]
        by_cases hq : nI (t j 4) = q
        · rw [if_pos hq]
          refine ⟨⟨fun _ => ⟨z_in h6 (by decide), fun z => absurd z es, fun _ => ⟨fun _ => trivial, fun z => absurd hq z⟩⟩, fun z => absurd e6 z⟩, fun z => by omega, .inl ⟨j, hj, rfl, fun τ hM => ?_⟩⟩
          unfold PL_X9_teamInLane_2 FL_X9_teamInLane_2
          simp only [e3 τ hM]
          rw [if_pos hj, hM.o4 h6, if_pos hq]
          exact ⟨⟨fun _ => ⟨z_p4 h6, fun _ => trivial, fun z => absurd hq z⟩, fun z => absurd hj z⟩, rfl⟩
        · rw [if_neg hq]
          refine ⟨⟨fun _ => ⟨z_in h6 (by decide), fun z => absurd z es, fun _ => ⟨fun z => absurd z hq, fun _ => i1⟩⟩, fun z => absurd e6 z⟩, fun z => by omega, ?_⟩
          rcases i2 with ⟨w, a1, a2, a3⟩ | ⟨a2, a3⟩
          · refine .inl ⟨w, a1, a2, fun τ hM => ?_⟩
            obtain ⟨b1, b2⟩ := a3 τ hM
            unfold PL_X9_teamInLane_2 FL_X9_teamInLane_2
            simp only [e3 τ hM]
            rw [if_pos hj, hM.o4 h6, if_neg hq, ej]
            exact ⟨⟨fun _ => ⟨z_p4 h6, fun z => absurd z hq, fun _ => b1⟩, fun z => absurd hj z⟩, b2⟩
          · refine .inr ⟨a2, fun τ hM => ?_⟩
            obtain ⟨b1, b2⟩ := a3 τ hM
            unfold PL_X9_teamInLane_2 FL_X9_teamInLane_2
            simp only [e3 τ hM]
            rw [if_pos hj, hM.o4 h6, if_neg hq, ej]
            exact ⟨⟨fun _ => ⟨z_p4 h6, fun z => absurd z hq, fun _ => b1⟩, fun z => absurd hj z⟩, b2⟩
      · have hA := hR.ab j h6 (by omega)
        rw [if_pos hA.st]
        refine ⟨⟨fun _ => ⟨z_in h6 (by decide), fun _ => i1, fun z => absurd hA.st z⟩, fun z => absurd e6 z⟩, fun _ => i0 (by omega), .inr ⟨i0 (by omega), fun τ hM => ?_⟩⟩
        unfold PL_X9_teamInLane_2 FL_X9_teamInLane_2
        simp only [e3 τ hM]
        rw [if_neg hj]
        exact ⟨⟨fun z => absurd z hj, fun _ => trivial⟩, rfl⟩
    · have e6 : ¬ nI j < 6 := fun z => h6 ((nI_ltI (b := 6) (by omega) (by decide)).mp z)
      have hj : ¬ j < b 3 := by omega
      unfold PL_X4_numberInLane_11 FL_X4_numberInLane_11
      rw [if_neg e6]
      refine ⟨⟨fun z => absurd z e6, fun _ => trivial⟩, fun _ => rfl, .inr ⟨rfl, fun τ hM => ?_⟩⟩
      unfold PL_X9_teamInLane_2 FL_X9_teamInLane_2
      simp only [e3 τ hM]
      rw [if_neg hj]
      exact ⟨⟨fun z => absurd z hj, fun _ => trivial⟩, rfl⟩
theorem z_nm1 {w : Nat} (h : w < 2 ^ 31) : ¬ nI w = -1 := by
  intro q
  have : (nI w).toInt = (-1 : Int32).toInt := by rw [q]
  rw [nI_toInt h] at this
  have e : (-1 : Int32).toInt = -1 := by decide
  omega
theorem z_spC {σ : q_M} {p w : Nat} {x : Nat → Nat} (h : z_T σ p w x) (hp : p + 2 < 220) (g : Int32) : ∀ (nn j a : Nat), 5 ≤ nn + j → j ≤ 4 → PL_X8_splitSum_18 g p nn (nI a) (nI 4) (nI j) σ ∧ FL_X8_splitSum_18 g p nn (nI a) (nI 4) (nI j) σ = .inl (nI (a + z_sm (fun i => x (14 + i) - 1) j (4 - j))) := by
  intro nn
  induction nn with
  | zero => intro j a h1 h2; omega
  | succ nn ih =>
    intro j a h1 h2
    have ej : nI j + 1 = nI (j + 1) := by rw [z_l1, z_add]
    have e4 : (nI j < nI 4) = (j < 4) := by rw [z_lt (by omega) (by omega)]
    unfold PL_X8_splitSum_18 FL_X8_splitSum_18
    by_cases h4 : j < 4
    · have hc : (nI j).toNatClampNeg = j := nI_clamp (by omega)
      obtain ⟨q1, q2⟩ := ih (j + 1) (a + (x (14 + j) - 1)) (by omega) (by omega)
      simp only [e4, hc, ej, q_L, h.sl j h4, z_add, forall_eq']
      rw [if_pos h4]
      refine ⟨⟨fun _ => ⟨by rw [z_len hp]; exact vp_in_nI h4 (by decide), q1⟩, fun z => absurd h4 z⟩, ?_⟩
      rw [q2, show 4 - j = (4 - (j + 1)) + 1 by omega]
      show _ = Sum.inl (nI (a + (x (14 + j) - 1 + z_sm (fun i => x (14 + i) - 1) (j + 1) (4 - (j + 1)))))
      rw [Nat.add_assoc]
    · simp only [e4]
      rw [if_neg h4, show 4 - j = 0 by omega]
      exact ⟨⟨fun z => absurd z h4, fun _ => trivial⟩, rfl⟩
theorem z_dec {x : Nat} (hx : x < 2 ^ 30) : (if nI x - 1 < 0 then 0 else nI x - 1) = nI (x - 1) := by
  by_cases c : x = 0
  · subst c; decide
  · have e : nI x - 1 = nI (x - 1) := by rw [z_l1, z_sub (by omega)]
    rw [e, if_neg (nI_pos (by omega))]
def z_gp (x : Nat → Nat) : Nat := if x 6 = 2 then 0 else if x 6 = 3 then 2 else 1
def z_la (x y : Nat → Nat) : Nat := if x 6 = 2 then y 18 + y 5 else x 7
def z_lb (x y : Nat → Nat) : Nat := if x 6 = 2 then x 18 + x 5 else y 7
def z_ah (x y : Nat → Nat) : Nat := if z_gp x = z_gp y then (if z_la x y = z_lb x y then (if x 4 < y 4 then 1 else 0) else if z_lb x y < z_la x y then 1 else 0) else if z_gp x < z_gp y then 1 else 0
theorem z_gp2 (x : Nat → Nat) : z_gp x ≤ 2 := by
  unfold z_gp
  split
  · omega
  · split <;> omega
theorem z_ahs (x : Nat → Nat) : z_ah x x = 0 := by
  unfold z_ah
  rw [if_pos rfl]
  have e : z_la x x = z_lb x x := by unfold z_la z_lb; split <;> rfl
  rw [if_pos e, if_neg (by omega)]
theorem z_ah1 (x y : Nat → Nat) : z_ah x y ≤ 1 := by
  unfold z_ah
  split
  · split
    · split <;> omega
    · split <;> omega
  · split <;> omega
theorem z_rgC {x : Nat → Nat} (h : x 6 ≤ 3) : q_rg (nI (x 6 + 1)) = nI (z_gp x) ∧ q_okS (nI (x 6 + 1)) := by
  unfold z_gp
  rcases (show x 6 = 0 ∨ x 6 = 1 ∨ x 6 = 2 ∨ x 6 = 3 by omega) with e | e | e | e <;> rw [e] <;> exact ⟨by decide, by unfold q_okS; decide⟩
theorem z_sb0 {a b : Nat} (ha : a < 2 ^ 30) (hb : b < 2 ^ 30) : (nI a - nI b = 0) = (a = b) := by
  apply propext
  have e := pk_sub_toInt (a := a) (b := b) (by omega) (by omega)
  constructor
  · intro h
    rw [h] at e
    have e0 : (0 : Int32).toInt = 0 := rfl
    omega
  · rintro rfl
    rw [z_sub (Nat.le_refl _), Nat.sub_self]
    rfl
theorem z_sbl {a b : Nat} (ha : a < 2 ^ 30) (hb : b < 2 ^ 30) : ((0 : Int32) < nI a - nI b) = (b < a) := by
  apply propext
  have e := pk_sub_toInt (a := a) (b := b) (by omega) (by omega)
  rw [Int32.lt_iff_toInt_lt, e]
  have e0 : (0 : Int32).toInt = 0 := rfl
  omega
theorem z_lab {k : Nat} {b x y : Nat → Nat} (hx : z_W k b x) (hy : z_W k b y) (l1 : b 0 ≤ 4000) (hk : k ≤ 20000) (hT : b 2 ≤ 200 * k) : z_la x y < 2 ^ 30 ∧ z_lb x y < 2 ^ 30 := by
  have a1 := hx.ps
  have a2 := hy.ps
  have a3 := z_mE hx.lg l1
  have a4 := z_mE hy.lg l1
  have a5 := hx.tm
  have a6 := hy.tm
  have a7 := hx.pn
  have a8 := hy.pn
  unfold z_la z_lb
  constructor <;> split <;> omega
theorem z_ahC {k p q u w : Nat} {σ : q_M} {b x y : Nat → Nat} (hTx : z_T σ p u x) (hTy : z_T σ q w y) (hx : z_W k b x) (hy : z_W k b y) (l1 : b 0 ≤ 4000) (hk : k ≤ 20000) (hT : b 2 ≤ 200 * k) : P_X6_isAheadOf p q σ ∧ F_X6_isAheadOf p q σ = nI (z_ah x y) := by
  obtain ⟨r1, o1⟩ := z_rgC hx.st
  obtain ⟨r2, o2⟩ := z_rgC hy.st
  have g1 := z_gp2 x
  have g2 := z_gp2 y
  obtain ⟨b1, b2⟩ := z_lab hx hy l1 hk hT
  have n1 := hx.ln
  have n2 := hy.ln
  have s1 := hx.st
  have el : (if σ p 3 = 3 then F_X6_result q σ - F_X6_result p σ else σ p 5 - σ q 5) = nI (z_la x y) - nI (z_lb x y) := by
    unfold F_X6_result z_la z_lb
    rw [hTx.st, hTx.ps, hTy.ps, hTx.tm, hTy.tm, hTx.pn, hTy.pn, z_add, z_add, z_l3]
    simp (disch := omega) only [z_eq]
    by_cases c : x 6 = 2
    · rw [if_pos (by omega), if_pos c, if_pos c]
    · rw [if_neg (by omega), if_neg c, if_neg c]
  constructor
  · unfold P_X6_isAheadOf
    rw [hTx.st, hTy.st]
    exact ⟨o1, o2, fun _ => trivial, fun _ => ⟨o1, o2, trivial⟩⟩
  · unfold F_X6_isAheadOf z_ah
    rw [el]
    simp (disch := omega) only [hTx.st, hTy.st, r1, r2, hTx.ln, hTy.ln, q_L, z_eq, z_lt, z_sb0, z_sbl]
    split
    · split
      · split <;> rfl
      · split <;> rfl
    · split <;> rfl
theorem z_ahM {k i j : Nat} {τ : q_M} {b : Nat → Nat} {t : Nat → Nat → Nat} (h : z_M τ b t) (hi : i < 6) (hj : j < 6) (hx : z_W k b (t i)) (hy : z_W k b (t j)) (l1 : b 0 ≤ 4000) (hk : k ≤ 20000) (hT : b 2 ≤ 200 * k) : P_X9_isAhead (nI i) (nI j) τ ∧ F_X9_isAhead (nI i) (nI j) τ = nI (z_ah (t i) (t j)) := by
  have g1 := z_gp2 (t i)
  have g2 := z_gp2 (t j)
  obtain ⟨b1, b2⟩ := z_lab hx hy l1 hk hT
  have n1 := hx.ln
  have n2 := hy.ln
  have s1 := hx.st
  have eg : ∀ w, w < 6 → t w 6 ≤ 3 → P_X9_group (nI w) τ ∧ F_X9_group (nI w) τ = nI (z_gp (t w)) := by
    intro w hw hs
    refine ⟨⟨z_p6 hw, trivial⟩, ?_⟩
    unfold F_X9_group z_gp q_L
    rw [h.o6 hw, z_l2, z_l3]
    simp (disch := omega) only [z_eq]
    split
    · rfl
    · split <;> rfl
  obtain ⟨p1, e1⟩ := eg i hi hx.st
  obtain ⟨p2, e2⟩ := eg j hj hy.st
  have el : (if nI (z_gp (t i)) = 0 then F_X9_result (nI j) τ - F_X9_result (nI i) τ else F_X9_of (nI i) 7 τ - F_X9_of (nI j) 7 τ) = nI (z_la (t i) (t j)) - nI (z_lb (t i) (t j)) := by
    unfold F_X9_result z_la z_lb z_gp
    rw [h.o7 hi, h.o7 hj, h.o18 hi, h.o18 hj, h.o5 hi, h.o5 hj, z_add, z_add]
    by_cases c : t i 6 = 2
    · rw [if_pos c, if_pos (show nI 0 = 0 from rfl), if_pos c, if_pos c]
    · rw [if_neg c, if_neg c, if_neg c]
      by_cases d : t i 6 = 3
      · rw [if_pos d, if_neg (by decide)]
      · rw [if_neg d, if_neg (by decide)]
  constructor
  · unfold P_X9_isAhead
    exact ⟨p1, p2, fun _ => ⟨p1, ⟨fun _ => ⟨⟨z_p18 hj, z_p5 hj, trivial⟩, ⟨z_p18 hi, z_p5 hi, trivial⟩, trivial⟩, fun _ => ⟨z_p7 hi, z_p7 hj, trivial⟩⟩, fun _ _ => ⟨fun _ => ⟨z_p4 hi, z_p4 hj, trivial⟩, fun _ => trivial⟩⟩, fun _ => ⟨p1, p2, trivial⟩⟩
  · unfold F_X9_isAhead z_ah
    rw [e1, e2, el]
    simp (disch := omega) only [h.o4 hi, h.o4 hj, q_L, z_eq, z_lt, z_sb0, z_sbl]
    split
    · split
      · split <;> rfl
      · split <;> rfl
    · split <;> rfl
def z_rk (t : Nat → Nat → Nat) (n w : Nat) : Nat := z_sm (fun i => z_ah (t i) (t w)) 0 n
theorem z_caL {k r w : Nat} {σ : q_M} {b : Nat → Nat} {t : Nat → Nat → Nat} (hR : z_R σ r b t) (hV : z_V k b t) (hk : k ≤ 20000) (hw : w < b 3) : ∀ (nn j a : Nat), 7 ≤ nn + j → j ≤ 6 → PL_X4_countAhead_14 r (r + 2 + 3 * w) nn (nI a) (nI j) σ ∧ FL_X4_countAhead_14 r (r + 2 + 3 * w) nn (nI a) (nI j) σ = nI (a + z_sm (fun i => if i < b 3 then z_ah (t i) (t w) else 0) j (6 - j)) := by
  intro nn
  induction nn with
  | zero => intro j a h1 h2; omega
  | succ nn ih =>
    intro j a h1 h2
    have n6 := hV.n6
    have ej : nI j + 1 = nI (j + 1) := by rw [z_l1, z_add]
    have ea : nI a + 1 = nI (a + 1) := by rw [z_l1, z_add]
    have hTw := hR.te w (by omega) hw
    unfold PL_X4_countAhead_14 FL_X4_countAhead_14
    by_cases h6 : j < 6
    · have e6 : nI j < 6 := nI_lt (b := 6) h6 (by decide)
      have hc : (nI j).toNatClampNeg = j := nI_clamp (by omega)
      have hsm : z_sm (fun i => if i < b 3 then z_ah (t i) (t w) else 0) j (6 - j) = (if j < b 3 then z_ah (t j) (t w) else 0) + z_sm (fun i => if i < b 3 then z_ah (t i) (t w) else 0) (j + 1) (6 - (j + 1)) := by
        rw [show 6 - j = (6 - (j + 1)) + 1 by omega]
        rfl
      rw [if_pos e6, hc, z_place, ej, ea, hsm]
      by_cases hj : j < b 3
      · have hT := hR.te j h6 hj
        have hst := (hV.te j hj).st
        have es : ¬ σ (r + 2 + 3 * j) 3 = 0 := by rw [hT.st]; exact nI_ne0 (by omega) (by omega)
        obtain ⟨p1, p2⟩ := z_ahC hT hTw (hV.te j hj) (hV.te w hw) hV.l1 hk hV.ck
        have h1' := z_ah1 (t j) (t w)
        rw [if_neg es, if_pos hj, p2]
        by_cases c : z_ah (t j) (t w) = 0
        · have c1 : nI (z_ah (t j) (t w)) = 0 := by rw [c]; rfl
          obtain ⟨q1, q2⟩ := ih (j + 1) a (by omega) (by omega)
          rw [if_pos c1]
          refine ⟨⟨fun _ => ⟨z_in h6 (by decide), fun z => absurd z es, fun _ => ⟨p1, fun _ => q1, fun z => absurd c1 z⟩⟩, fun z => absurd e6 z⟩, ?_⟩
          rw [q2, c, Nat.zero_add]
        · have c1 : ¬ nI (z_ah (t j) (t w)) = 0 := nI_ne0 (by omega) (by omega)
          obtain ⟨q1, q2⟩ := ih (j + 1) (a + 1) (by omega) (by omega)
          rw [if_neg c1]
          refine ⟨⟨fun _ => ⟨z_in h6 (by decide), fun z => absurd z es, fun _ => ⟨p1, fun z => absurd z c1, fun _ => q1⟩⟩, fun z => absurd e6 z⟩, ?_⟩
          rw [q2, show z_ah (t j) (t w) = 1 by omega, Nat.add_assoc]
      · have hA := hR.ab j h6 (by omega)
        obtain ⟨q1, q2⟩ := ih (j + 1) a (by omega) (by omega)
        rw [if_pos hA.st, if_neg hj]
        refine ⟨⟨fun _ => ⟨z_in h6 (by decide), fun _ => q1, fun z => absurd hA.st z⟩, fun z => absurd e6 z⟩, ?_⟩
        rw [q2, Nat.zero_add]
    · have e6 : ¬ nI j < 6 := fun z => h6 ((nI_ltI (b := 6) (by omega) (by decide)).mp z)
      rw [if_neg e6, show 6 - j = 0 by omega]
      exact ⟨⟨fun z => absurd z e6, fun _ => trivial⟩, rfl⟩
theorem z_ca {k r w : Nat} {σ : q_M} {b : Nat → Nat} {t : Nat → Nat → Nat} (hR : z_R σ r b t) (hV : z_V k b t) (hk : k ≤ 20000) (hw : w < b 3) : P_X4_countAhead r (r + 2 + 3 * w) σ ∧ F_X4_countAhead r (r + 2 + 3 * w) σ = nI (z_rk t (b 3) w) := by
  obtain ⟨q1, q2⟩ := z_caL hR hV hk hw 10 0 0 (by omega) (by omega)
  refine ⟨q1, ?_⟩
  have e : z_sm (fun i => if i < b 3 then z_ah (t i) (t w) else 0) 0 6 = z_rk t (b 3) w := by
    rw [z_sm_n hV.n6 (fun i h1 _ => by rw [if_neg (by omega)])]
    exact z_sm_cg _ _ (fun i _ hi => by rw [if_pos (by omega)])
  rw [Nat.zero_add, Nat.sub_zero, e] at q2
  exact q2
theorem z_rkL {k w : Nat} {τ : q_M} {b : Nat → Nat} {t : Nat → Nat → Nat} (h : z_M τ b t) (hV : z_V k b t) (hk : k ≤ 20000) (hw : w < b 3) : ∀ (nn j a : Nat), 7 ≤ nn + j → j ≤ b 3 → PL_X9_rank_4 (nI w) nn (nI a) (nI j) τ ∧ FL_X9_rank_4 (nI w) nn (nI a) (nI j) τ = nI (a + z_sm (fun i => z_ah (t i) (t w)) j (b 3 - j)) := by
  intro nn
  induction nn with
  | zero => intro j a h1 h2; have := hV.n6; omega
  | succ nn ih =>
    intro j a h1 h2
    have n6 := hV.n6
    have ej : nI j + 1 = nI (j + 1) := by rw [z_l1, z_add]
    have e3 : (nI j < τ 230 3) = (j < b 3) := by rw [h.bs 3 (by decide), z_lt (by omega) (by omega)]
    unfold PL_X9_rank_4 FL_X9_rank_4
    by_cases hj : j < b 3
    · have hsm : z_sm (fun i => z_ah (t i) (t w)) j (b 3 - j) = z_ah (t j) (t w) + z_sm (fun i => z_ah (t i) (t w)) (j + 1) (b 3 - (j + 1)) := by
        rw [show b 3 - j = (b 3 - (j + 1)) + 1 by omega]
        rfl
      obtain ⟨p1, p2⟩ := z_ahM h (show j < 6 by omega) (show w < 6 by omega) (hV.te j hj) (hV.te w hw) hV.l1 hk hV.ck
      have h1' := z_ah1 (t j) (t w)
      have ex : (if nI j = nI w then 0 else if F_X9_isAhead (nI j) (nI w) τ = 0 then 0 else 1) = nI (z_ah (t j) (t w)) := by
        rw [p2]
        by_cases c : j = w
        · subst c
          rw [if_pos rfl, z_ahs]
          rfl
        · rw [if_neg (by rw [z_eq (by omega) (by omega)]; exact c)]
          rcases (show z_ah (t j) (t w) = 0 ∨ z_ah (t j) (t w) = 1 by omega) with e | e <;> rw [e] <;> rfl
      obtain ⟨q1, q2⟩ := ih (j + 1) (a + z_ah (t j) (t w)) (by omega) (by omega)
      simp only [e3, ej, ex, q_L, forall_eq', z_add]
      rw [if_pos hj, hsm]
      refine ⟨⟨fun _ => ⟨⟨fun _ => trivial, fun _ => ⟨p1, trivial⟩⟩, q1⟩, fun z => absurd hj z⟩, ?_⟩
      rw [q2, Nat.add_assoc]
    · simp only [e3]
      rw [if_neg hj, show b 3 - j = 0 by omega]
      exact ⟨⟨fun z => absurd z hj, fun _ => trivial⟩, rfl⟩
theorem z_rkM {k w : Nat} {τ : q_M} {b : Nat → Nat} {t : Nat → Nat → Nat} (h : z_M τ b t) (hV : z_V k b t) (hk : k ≤ 20000) (hw : w < b 3) : P_X9_rank (nI w) τ ∧ F_X9_rank (nI w) τ = nI (z_rk t (b 3) w) := by
  obtain ⟨q1, q2⟩ := z_rkL h hV hk hw 10 0 0 (by omega) (by omega)
  rw [Nat.zero_add, Nat.sub_zero] at q2
  exact ⟨q1, q2⟩
theorem z_arL {k r : Nat} {σ : q_M} {b : Nat → Nat} {t : Nat → Nat → Nat} (hR : z_R σ r b t) (hV : z_V k b t) (hk : k ≤ 20000) (q : Int32) : ∀ (nn j : Nat), 7 ≤ nn + j → j ≤ 6 → PL_X4_numberAtRank_11 r q nn (nI j) σ ∧ (b 3 ≤ j → FL_X4_numberAtRank_11 r q nn (nI j) σ = -1) ∧ ((∃ w, w < b 3 ∧ FL_X4_numberAtRank_11 r q nn (nI j) σ = nI w ∧ ∀ τ, z_M τ b t → PL_X9_teamAtRank_2 q nn (nI j) τ ∧ FL_X9_teamAtRank_2 q nn (nI j) τ = (nI w, q_up τ 229 5 0)) ∨ (FL_X4_numberAtRank_11 r q nn (nI j) σ = -1 ∧ ∀ τ, z_M τ b t → PL_X9_teamAtRank_2 q nn (nI j) τ ∧ FL_X9_teamAtRank_2 q nn (nI j) τ = (0, q_up τ 229 5 1))) := by
  intro nn
  induction nn with
  | zero => intro j h1 h2; omega
  | succ nn ih =>
    intro j h1 h2
    have n6 := hV.n6
    have ej : nI j + 1 = nI (j + 1) := by rw [z_l1, z_add]
    have e3 : ∀ τ, z_M τ b t → (nI j < τ 230 3) = (j < b 3) := fun τ hM => by rw [hM.bs 3 (by decide), z_lt (by omega) (by omega)]
    have hend : ¬ j < b 3 → ∀ τ, z_M τ b t → PL_X9_teamAtRank_2 q (nn + 1) (nI j) τ ∧ FL_X9_teamAtRank_2 q (nn + 1) (nI j) τ = (0, q_up τ 229 5 1) := by
      intro hj τ hM
      unfold PL_X9_teamAtRank_2 FL_X9_teamAtRank_2
      simp only [e3 τ hM]
      rw [if_neg hj]
      exact ⟨⟨fun z => absurd z hj, fun _ => trivial⟩, rfl⟩
    by_cases h6 : j < 6
    · have e6 : nI j < 6 := nI_lt (b := 6) h6 (by decide)
      have hc : (nI j).toNatClampNeg = j := nI_clamp (by omega)
      unfold PL_X4_numberAtRank_11 FL_X4_numberAtRank_11
      rw [if_pos e6, hc, z_place, ej]
      obtain ⟨i1, i0, i2⟩ := ih (j + 1) (by omega) (by omega)
      by_cases hj : j < b 3
      · have hT := hR.te j h6 hj
        have hst := (hV.te j hj).st
        have es : ¬ σ (r + 2 + 3 * j) 3 = 0 := by rw [hT.st]; exact nI_ne0 (by omega) (by omega)
        obtain ⟨p1, p2⟩ := z_ca hR hV hk hj
        rw [if_neg es, p2, hT.no]
        by_cases hq : nI (z_rk t (b 3) j) = q
        · rw [if_pos hq]
          refine ⟨⟨fun _ => ⟨z_in h6 (by decide), fun z => absurd z es, fun _ => ⟨p1, fun _ => trivial, fun z => absurd hq z⟩⟩, fun z => absurd e6 z⟩, fun z => by omega, .inl ⟨j, hj, rfl, fun τ hM => ?_⟩⟩
          obtain ⟨m1, m2⟩ := z_rkM hM hV hk hj
          unfold PL_X9_teamAtRank_2 FL_X9_teamAtRank_2
          simp only [e3 τ hM]
          rw [if_pos hj, m2, if_pos hq]
          exact ⟨⟨fun _ => ⟨m1, fun _ => trivial, fun z => absurd hq z⟩, fun z => absurd hj z⟩, rfl⟩
        · rw [if_neg hq]
          refine ⟨⟨fun _ => ⟨z_in h6 (by decide), fun z => absurd z es, fun _ => ⟨p1, fun z => absurd z hq, fun _ => i1⟩⟩, fun z => absurd e6 z⟩, fun z => by omega, ?_⟩
          rcases i2 with ⟨w, a1, a2, a3⟩ | ⟨a2, a3⟩
          · refine .inl ⟨w, a1, a2, fun τ hM => ?_⟩
            obtain ⟨b1, b2⟩ := a3 τ hM
            obtain ⟨m1, m2⟩ := z_rkM hM hV hk hj
            unfold PL_X9_teamAtRank_2 FL_X9_teamAtRank_2
            simp only [e3 τ hM]
            rw [if_pos hj, m2, if_neg hq, ej]
            exact ⟨⟨fun _ => ⟨m1, fun z => absurd z hq, fun _ => b1⟩, fun z => absurd hj z⟩, b2⟩
          · refine .inr ⟨a2, fun τ hM => ?_⟩
            obtain ⟨b1, b2⟩ := a3 τ hM
            obtain ⟨m1, m2⟩ := z_rkM hM hV hk hj
            unfold PL_X9_teamAtRank_2 FL_X9_teamAtRank_2
            simp only [e3 τ hM]
            rw [if_pos hj, m2, if_neg hq, ej]
            exact ⟨⟨fun _ => ⟨m1, fun z => absurd z hq, fun _ => b1⟩, fun z => absurd hj z⟩, b2⟩
      · have hA := hR.ab j h6 (by omega)
        rw [if_pos hA.st]
        exact ⟨⟨fun _ => ⟨z_in h6 (by decide), fun _ => i1, fun z => absurd hA.st z⟩, fun z => absurd e6 z⟩, fun _ => i0 (by omega), .inr ⟨i0 (by omega), hend hj⟩⟩
    · have e6 : ¬ nI j < 6 := fun z => h6 ((nI_ltI (b := 6) (by omega) (by decide)).mp z)
      unfold PL_X4_numberAtRank_11 FL_X4_numberAtRank_11
      rw [if_neg e6]
      exact ⟨⟨fun z => absurd z e6, fun _ => trivial⟩, fun _ => rfl, .inr ⟨rfl, hend (by omega)⟩⟩
theorem z_sm_c {f : Nat → Nat} {c : Nat} : ∀ (k w : Nat), (∀ i, w ≤ i → i < w + k → f i = c) → z_sm f w k = k * c := by
  intro k
  induction k with
  | zero => intro w h; rw [Nat.zero_mul]; rfl
  | succ k ih =>
    intro w h
    show f w + z_sm f (w + 1) k = (k + 1) * c
    rw [h w (Nat.le_refl w) (by omega), ih (w + 1) (fun i h1 h2 => h i (by omega) (by omega)), Nat.add_mul]
    omega
theorem z_reC {v n : Nat} (hv : v ≤ 99) (hn : n ≤ 999) (g l : Int32) (σ : q_M) : ∀ (nn j a : Nat), n + 1 ≤ nn + j → j ≤ n → PL_X8_reach_15 g l (nI n) nn (nI v) (nI a) (nI j) σ ∧ FL_X8_reach_15 g l (nI n) nn (nI v) (nI a) (nI j) σ = .inl (nI (a + z_sm (z_pc v) j (n - j))) := by
  intro nn
  induction nn with
  | zero => intro j a h1 h2; omega
  | succ nn ih =>
    intro j a h1 h2
    have ej : nI j + 1 = nI (j + 1) := by rw [z_l1, z_add]
    have e4 : (nI j < nI n) = (j < n) := by rw [z_lt (by omega) (by omega)]
    unfold PL_X8_reach_15 FL_X8_reach_15
    by_cases h4 : j < n
    · obtain ⟨q1, q2⟩ := ih (j + 1) (a + z_pc v j) (by omega) (by omega)
      simp only [e4, ej, q_L, z_pace hv (show j < 2 ^ 30 by omega), z_add, forall_eq']
      rw [if_pos h4]
      refine ⟨⟨fun _ => q1, fun z => absurd h4 z⟩, ?_⟩
      rw [q2, show n - j = (n - (j + 1)) + 1 by omega]
      show _ = Sum.inl (nI (a + (z_pc v j + z_sm (z_pc v) (j + 1) (n - (j + 1)))))
      rw [Nat.add_assoc]
    · simp only [e4]
      rw [if_neg h4, show n - j = 0 by omega]
      exact ⟨⟨fun z => absurd z h4, fun _ => trivial⟩, rfl⟩
theorem z_reM {w l n : Nat} {τ : q_M} {b : Nat → Nat} {t : Nat → Nat → Nat} (h : z_M τ b t) (hw : w < 6) (hl : l < 4) (hv : t w l ≤ 99) (hn : n ≤ 999) : ∀ (nn j a : Nat), n + 1 ≤ nn + j → j ≤ n → PL_X9_reach_60 (nI w) (nI l) (nI n) nn (nI a) (nI j) τ ∧ FL_X9_reach_60 (nI w) (nI l) (nI n) nn (nI a) (nI j) τ = (nI (a + z_sm (z_pc (t w l)) j (n - j)), τ) := by
  intro nn
  induction nn with
  | zero => intro j a h1 h2; omega
  | succ nn ih =>
    intro j a h1 h2
    have ej : nI j + 1 = nI (j + 1) := by rw [z_l1, z_add]
    have e4 : (nI j < nI n) = (j < n) := by rw [z_lt (by omega) (by omega)]
    unfold PL_X9_reach_60 FL_X9_reach_60
    by_cases h4 : j < n
    · obtain ⟨q1, q2⟩ := ih (j + 1) (a + z_pc (t w l) j) (by omega) (by omega)
      simp only [e4, ej, q_L, z_ofg h hw hl, z_step hv (show j < 2 ^ 30 by omega), z_add, forall_eq']
      rw [if_pos h4]
      refine ⟨⟨fun _ => ⟨z_ofgP hw hl, q1⟩, fun z => absurd h4 z⟩, ?_⟩
      rw [q2, show n - j = (n - (j + 1)) + 1 by omega]
      show _ = (nI (a + (z_pc (t w l) j + z_sm (z_pc (t w l)) (j + 1) (n - (j + 1)))), τ)
      rw [Nat.add_assoc]
    · simp only [e4]
      rw [if_neg h4, show n - j = 0 by omega]
      exact ⟨⟨fun z => absurd z h4, fun _ => trivial⟩, rfl⟩
theorem z_sfr {k : Nat} {σ : q_M} {b : Nat → Nat} {t : Nat → Nat → Nat} (hR : z_R σ 0 b t) (hV : z_V k b t) (g l v : Int32) :
    (∃ w a n, w < b 3 ∧ a < 4 ∧ n ≤ 999 ∧ g = nI w ∧ l = nI a ∧ v = nI n ∧ F_X8_speedForReach g l v σ = .inl (nI (t w a)) ∧ ∀ τ, z_M τ b t → P_X9_reach g l v τ ∧ F_X9_reach g l v τ = (nI (z_sm (z_pc (t w a)) 0 n), q_up τ 229 5 0)) ∨
    (F_X8_speedForReach g l v σ = .inr "java/lang/IndexOutOfBoundsException" ∧ ∀ τ, z_M τ b t → P_X9_reach g l v τ ∧ F_X9_reach g l v τ = (0, q_up τ 229 5 (nI 1))) ∨
    (F_X8_speedForReach g l v σ = .inr "java/lang/IllegalArgumentException" ∧ ∀ τ, z_M τ b t → P_X9_reach g l v τ ∧ F_X9_reach g l v τ = (0, q_up τ 229 5 (nI 2))) := by
  have n6 := hV.n6
  by_cases hg : ∃ w, w < b 3 ∧ g = nI w
  · obtain ⟨w, hw, rfl⟩ := hg
    have h6 : w < 6 := by omega
    have hT := hR.te w h6 hw
    rcases z_leg l with ⟨a, ha, rfl, ea, eb⟩ | ⟨ea, eb⟩
    · have hsp := (hV.te w hw).sp a ha
      have bad : v < 0 ∨ 999 < v → F_X8_speedForReach (nI w) (nI a) v σ = .inr "java/lang/IllegalArgumentException" ∧ ∀ τ, z_M τ b t → P_X9_reach (nI w) (nI a) v τ ∧ F_X9_reach (nI w) (nI a) v τ = (0, q_up τ 229 5 (nI 2)) := by
        intro hv
        refine ⟨?_, fun τ hM => ?_⟩
        · unfold F_X8_speedForReach F_X8_teamWithLeg
          simp only [z_tw1 hR hV hw, ea, z_10, if_false]
          rcases hv with hv | hv
          · rw [if_pos hv]
          · by_cases h0 : v < 0
            · rw [if_pos h0]
            · rw [if_neg h0, if_pos hv]
        · have e : F_X9_isIn v 0 999 (q_up τ 229 5 0) = 0 := by
            unfold F_X9_isIn
            rcases hv with hv | hv
            · rw [if_pos hv]
            · by_cases h0 : v < 0
              · rw [if_pos h0]
              · rw [if_neg h0, if_pos hv]
          simp only [P_X9_reach, F_X9_reach, z_isT hM hw n6, eb, z_10, if_false, q_L, z_uu, forall_eq', e, if_true]
          exact ⟨⟨fun q => q.elim, fun _ => ⟨fun q => q.elim, fun _ => ⟨fun _ => trivial, fun q => absurd trivial q⟩⟩⟩, rfl⟩
      by_cases v1 : v < 0
      · exact .inr (.inr (bad (.inl v1)))
      · by_cases v2 : 999 < v
        · exact .inr (.inr (bad (.inr v2)))
        · obtain ⟨n, _, u2, rfl⟩ := z_rg (a := 0) (b := 999) (by decide) (by decide) v1 v2
          refine .inl ⟨w, a, n, hw, ha, u2, rfl, rfl, rfl, ?_, fun τ hM => ?_⟩
          · unfold F_X8_speedForReach F_X8_teamWithLeg F_X6_speedOn
            simp only [z_tw1 hR hV hw, ea, z_10, if_false]
            rw [if_neg v1, if_neg v2, z_at (z_len (by omega)) ha, hT.sp a ha]
          · have e : ∀ τ, F_X9_isIn (nI n) 0 999 τ = 1 := fun τ => by unfold F_X9_isIn; rw [if_neg v1, if_neg v2]
            have hM1 : z_M (q_up τ 229 5 0) b t := hM.u9
            obtain ⟨m1, m2⟩ := z_reM hM1 h6 ha hsp.2 u2 1010 0 0 (by omega) (by omega)
            rw [Nat.zero_add, Nat.sub_zero] at m2
            simp only [P_X9_reach, F_X9_reach, z_isT hM hw n6, eb, z_10, if_false, q_L, z_uu, forall_eq', e]
            exact ⟨⟨fun q => q.elim, fun _ => ⟨fun q => q.elim, fun _ => ⟨fun q => q.elim, fun _ => m1⟩⟩⟩, m2⟩
    · refine .inr (.inl ⟨?_, fun τ hM => ?_⟩)
      · unfold F_X8_speedForReach F_X8_teamWithLeg
        simp only [z_tw1 hR hV hw, ea, if_true]
      · simp only [P_X9_reach, F_X9_reach, z_isT hM hw n6, eb, z_10, if_false, if_true, q_L]
        exact ⟨⟨fun q => q.elim, fun _ => ⟨fun _ => trivial, fun q => absurd trivial q⟩⟩, rfl⟩
  · refine .inr (.inl ⟨?_, fun τ hM => ?_⟩)
    · unfold F_X8_speedForReach F_X8_teamWithLeg
      rw [z_tw0 hR hg]
    · simp only [P_X9_reach, F_X9_reach, z_noT hM n6 hg, if_true, q_L]
      exact ⟨⟨fun _ => trivial, fun q => absurd trivial q⟩, rfl⟩
theorem z_sfP {g l v : Int32} {σ : q_M} : P_X8_speedForReach g l v σ := by
  intro r hr
  cases r with
  | inr E => trivial
  | inl u => exact ⟨fun _ => trivial, fun _ => ⟨fun _ => trivial, fun _ => ⟨⟨z_atX (by have := z_twB (z_twI hr); omega), trivial⟩, trivial⟩⟩⟩
theorem z_szL {p w sd sec a E : Nat} {σ : q_M} {b : Nat → Nat} {t : Nat → Nat → Nat} (hp : p + 2 < 220) (hw : w < 6) (ha : a < 4) (h6 : σ p 6 = nI a) (h7 : σ p 7 = nI sec) (h8 : σ p 8 = nI sd) (hs : σ (p + 1) a = nI (t w a)) (hv : t w a ≤ 99) (hsec : sec < 2 ^ 29) (hE : E ≤ 16000) (q : Int32) :
    ∀ (nn po c : Nat), E ≤ po + 10 * nn → po ≤ 20000 → c + nn ≤ 5000 → ∃ r, c ≤ r ∧ r ≤ 5000 ∧ (po < E → c < r) ∧ (E ≤ po → r = c) ∧ PL_X6_secondsUntilZone_27 p q (nn + 1) (nI E) (nI po) (nI c) σ ∧ FL_X6_secondsUntilZone_27 p q (nn + 1) (nI E) (nI po) (nI c) σ = nI (sd + r) ∧
      ∀ τ, z_M τ b t → t w 10 = sd → F_X9_endOf (nI a) τ - 100 = nI E → PL_X9_secondsToZone_99 (nI w) (nn + 1) (nI a) (nI po) (nI (sec + c)) (nI c) τ ∧ FL_X9_secondsToZone_99 (nI w) (nn + 1) (nI a) (nI po) (nI (sec + c)) (nI c) τ = (if r = 0 then 0 else nI (sd + r), τ) := by
  intro nn
  induction nn with
  | zero =>
    intro po c h1 h2 h3
    have e4 : ¬ nI po < nI E := by rw [z_lt (by omega) (by omega)]; omega
    refine ⟨c, Nat.le_refl _, by omega, fun z => by omega, fun _ => rfl, ?_, ?_, fun τ hM hsd hE2 => ?_⟩
    · unfold PL_X6_secondsUntilZone_27
      exact ⟨fun z => absurd z e4, fun _ => trivial⟩
    · unfold FL_X6_secondsUntilZone_27
      rw [if_neg e4, h8, z_add]
    · unfold PL_X9_secondsToZone_99 FL_X9_secondsToZone_99
      rw [hE2, if_neg e4]
      have ec : (nI c = 0) = (c = 0) := by rw [z_l0, z_eq (by omega) (by decide)]
      simp only [ec, hM.o10 hw, hsd, z_add]
      refine ⟨⟨fun z => absurd z e4, fun _ => ⟨fun _ => trivial, fun _ => ⟨z_p10 hw, trivial⟩⟩⟩, ?_⟩
      by_cases z : c = 0
      · rw [if_pos z, if_pos z]
      · rw [if_neg z, if_neg z, Nat.add_comm]
  | succ nn ih =>
    intro po c h1 h2 h3
    by_cases hlt : po < E
    · have e4 : nI po < nI E := nI_lt hlt (by omega)
      have e5 : nI c < 1000000 := nI_lt (b := 1000000) (by omega) (by decide)
      have ec : nI c + 1 = nI (c + 1) := by rw [z_l1, z_add]
      have hpc := z_pc_le (v := t w a) (n := sec + c) hv
      have ep : nI po + F_X8_pace (F_X8_at (p + 1) (σ p 6) σ) (σ p 7 + nI c) σ = nI (po + z_pc (t w a) (sec + c)) := by
        rw [h6, h7, z_at (z_len (by omega)) ha, hs, z_add, z_pace hv (by omega), z_add]
      obtain ⟨r, r1, r2, r3, r4, r5, r6, r7⟩ := ih (po + z_pc (t w a) (sec + c)) (c + 1) (by omega) (by omega) (by omega)
      refine ⟨r, by omega, r2, fun _ => by omega, fun z => by omega, ?_, ?_, fun τ hM hsd hE2 => ?_⟩
      · unfold PL_X6_secondsUntilZone_27
        simp only [ep, ec, forall_eq']
        exact ⟨fun _ => ⟨fun _ => ⟨by rw [h6]; exact z_atP (z_len (by omega)) ha, r5⟩, fun z => absurd e5 z⟩, fun z => absurd e4 z⟩
      · unfold FL_X6_secondsUntilZone_27
        rw [if_pos e4, if_pos e5]
        simp only [ep, ec, q_L]
        exact r6
      · obtain ⟨m1, m2⟩ := r7 τ hM hsd hE2
        have eq : nI po + F_X9_step (F_X9_of (nI w) (0 + nI a) τ) (nI (sec + c)) τ = nI (po + z_pc (t w a) (sec + c)) := by
          rw [z_ofg hM hw ha, z_step hv (by omega), z_add]
        have es : nI (sec + c) + 1 = nI (sec + (c + 1)) := by rw [z_l1, z_add, Nat.add_assoc]
        unfold PL_X9_secondsToZone_99 FL_X9_secondsToZone_99
        rw [hE2, if_pos e4]
        simp only [eq, es, ec, q_L, forall_eq']
        exact ⟨⟨fun _ => ⟨z_ofgP hw ha, m1⟩, fun z => absurd e4 z⟩, m2⟩
    · have e4 : ¬ nI po < nI E := by rw [z_lt (by omega) (by omega)]; omega
      refine ⟨c, Nat.le_refl _, by omega, fun z => by omega, fun _ => rfl, ?_, ?_, fun τ hM hsd hE2 => ?_⟩
      · unfold PL_X6_secondsUntilZone_27
        exact ⟨fun z => absurd z e4, fun _ => trivial⟩
      · unfold FL_X6_secondsUntilZone_27
        rw [if_neg e4, h8, z_add]
      · unfold PL_X9_secondsToZone_99 FL_X9_secondsToZone_99
        rw [hE2, if_neg e4]
        have ec : (nI c = 0) = (c = 0) := by rw [z_l0, z_eq (by omega) (by decide)]
        simp only [ec, hM.o10 hw, hsd, z_add]
        refine ⟨⟨fun z => absurd z e4, fun _ => ⟨fun _ => trivial, fun _ => ⟨z_p10 hw, trivial⟩⟩⟩, ?_⟩
        by_cases z : c = 0
        · rw [if_pos z, if_pos z]
        · rw [if_neg z, if_neg z, Nat.add_comm]
theorem z_szP {w k : Nat} {σ : q_M} {b : Nat → Nat} {t : Nat → Nat → Nat} (hR : z_R σ 0 b t) (hw : w < b 3) (h6 : w < 6) (hV : z_V k b t) (hk : k ≤ 20000) : ∃ r, r ≤ 500000 ∧ P_X6_secondsUntilZone (0 + 2 + 3 * w) (σ 0 3) σ ∧ F_X6_secondsUntilZone (0 + 2 + 3 * w) (σ 0 3) σ = nI r ∧ (t w 8 < 3 → ∀ τ, z_M τ b t → PL_X9_secondsToZone_99 (nI w) 2010 (nI (t w 8)) (nI (t w 7)) (nI (t w 9)) 0 τ ∧ FL_X9_secondsToZone_99 (nI w) 2010 (nI (t w 8)) (nI (t w 7)) (nI (t w 9)) 0 τ = (nI r, τ)) := by
  have hT := hR.te w h6 hw
  have hW := hV.te w hw
  have l0 := hV.l0
  have l1 := hV.l1
  have h8 := hW.lg
  have h7 := hW.ps
  have h9 := hW.sr
  have hck := hV.ck
  have hE := z_mE h8 l1
  have hE0 := z_zL (a := t w 8) l0
  have eE : F_X6_legEnd (0 + 2 + 3 * w) (nI (b 0)) σ - 100 = nI ((t w 8 + 1) * b 0 - 100) := by
    rw [z_legEnd hT, z_l100, z_sub hE0]
  generalize hB : (t w 8 + 1) * b 0 = B at h7 hE hE0 eE
  obtain ⟨r, r1, r2, r3, r4, r5, r6, r7⟩ := z_szL (p := 0 + 2 + 3 * w) (b := b) (by omega) h6 (show t w 8 < 4 by omega) hT.lg hT.sr hT.sd (hT.sp (t w 8) (by omega)) (hW.sp (t w 8) (by omega)).2 (by omega) (show B - 100 ≤ 16000 by omega) (nI (b 0)) 2009 (t w 7) 0 (by omega) (by omega) (by omega)
  have ePx : (nI (t w 7) < nI (B - 100)) = (t w 7 < B - 100) := by rw [z_lt (by omega) (by omega)]
  have hP : P_X6_secondsUntilZone (0 + 2 + 3 * w) (σ 0 3) σ := by
    unfold P_X6_secondsUntilZone
    rw [hR.ll, eE, hT.ps]
    intro x1 h1
    subst h1
    exact ⟨fun _ => r5, fun _ => trivial⟩
  refine ⟨if r = 0 then 0 else t w 10 + r, by have := hW.sd; split <;> omega, hP, ?_, fun h3 τ hM => ?_⟩
  · unfold F_X6_secondsUntilZone q_L
    rw [hR.ll, eE, hT.ps]
    dsimp only
    by_cases c : t w 7 < B - 100
    · have c1 : nI (t w 7) < nI (B - 100) := by rw [ePx]; exact c
      have c2 : ¬ r = 0 := by have := r3 c; omega
      rw [if_pos c1, if_neg c2]
      exact r6
    · have c1 : ¬ nI (t w 7) < nI (B - 100) := by rw [ePx]; exact c
      rw [if_neg c1, if_pos (r4 (by omega))]
      rfl
  · have eM : F_X9_endOf (nI (t w 8)) τ - 100 = nI (B - 100) := by rw [z_end hM, hB, z_l100, z_sub hE0]
    obtain ⟨m1, m2⟩ := r7 τ hM rfl eM
    refine ⟨m1, m2.trans ?_⟩
    split <;> rfl
theorem z_self {x y : Int32} (h : ¬ y = 0) : FP.dcmp (FP.ddiv (FP.i2d x) (FP.i2d y)) (FP.ddiv (FP.i2d x) (FP.i2d y)) = some .eq := by
  have h0 : FP.Core.dIsNaN (FP.Core.i2d x) = false := by
    cases hn : FP.Core.dIsNaN (FP.Core.i2d x) with
    | false => rfl
    | true =>
      have h1 := (FP.Core.isNaN_bits _).mp hn
      have h2 := FP.Core.i2d_mag x
      omega
  have h1 : FP.Core.dIsNaN (FP.Core.ddiv (FP.Core.i2d x) (FP.Core.i2d y)) = false := FP.Core.ddiv_out h0 (FP.Core.i2d_fin y) (fun z => FP.Core.i2d_ne_zero h ((FP.Core.zero_bits2 _).mp z))
  exact FP.Core.dcmp_self ((FP.Core.notNaN_iff _).mp h1)
def z_tt (t : Nat → Nat → Nat) (i : Nat) : Nat := if t i 6 = 2 then t i 18 else 0
theorem z_sumC {k r : Nat} {σ : q_M} {b : Nat → Nat} {t : Nat → Nat → Nat} (hR : z_R σ r b t) (hV : z_V k b t) : ∀ (nn j a : Nat), 7 ≤ nn + j → j ≤ 6 → PL_X4_sumOfTimes_13 r nn (nI a) (nI j) σ ∧ FL_X4_sumOfTimes_13 r nn (nI a) (nI j) σ = nI (a + z_sm (fun i => if i < b 3 then z_tt t i else 0) j (6 - j)) := by
  intro nn
  induction nn with
  | zero => intro j a h1 h2; omega
  | succ nn ih =>
    intro j a h1 h2
    have n6 := hV.n6
    have ej : nI j + 1 = nI (j + 1) := by rw [z_l1, z_add]
    unfold PL_X4_sumOfTimes_13 FL_X4_sumOfTimes_13
    by_cases h6 : j < 6
    · have e6 : nI j < 6 := nI_lt (b := 6) h6 (by decide)
      have hc : (nI j).toNatClampNeg = j := nI_clamp (by omega)
      have hsm : z_sm (fun i => if i < b 3 then z_tt t i else 0) j (6 - j) = (if j < b 3 then z_tt t j else 0) + z_sm (fun i => if i < b 3 then z_tt t i else 0) (j + 1) (6 - (j + 1)) := by
        rw [show 6 - j = (6 - (j + 1)) + 1 by omega]
        rfl
      rw [if_pos e6, hc, z_place, ej, hsm]
      by_cases hj : j < b 3
      · have hT := hR.te j h6 hj
        have hst := (hV.te j hj).st
        rw [if_pos hj]
        unfold z_tt
        by_cases c : t j 6 = 2
        · have es : σ (r + 2 + 3 * j) 3 = 3 := by rw [hT.st, c]; rfl
          obtain ⟨q1, q2⟩ := ih (j + 1) (a + t j 18) (by omega) (by omega)
          rw [if_pos es, if_pos c, hT.tm]
          simp only [q_L, z_add, forall_eq']
          refine ⟨⟨fun _ => ⟨z_in h6 (by decide), fun _ => q1, fun z => absurd es z⟩, fun z => absurd e6 z⟩, ?_⟩
          rw [q2, Nat.add_assoc]
          rfl
        · have es : ¬ σ (r + 2 + 3 * j) 3 = 3 := by rw [hT.st, z_l3, z_eq (by omega) (by omega)]; omega
          obtain ⟨q1, q2⟩ := ih (j + 1) a (by omega) (by omega)
          rw [if_neg es, if_neg c]
          refine ⟨⟨fun _ => ⟨z_in h6 (by decide), fun z => absurd z es, fun _ => q1⟩, fun z => absurd e6 z⟩, ?_⟩
          rw [q2, Nat.zero_add]
          rfl
      · have hA := hR.ab j h6 (by omega)
        have es : ¬ σ (r + 2 + 3 * j) 3 = 3 := by rw [hA.st]; decide
        obtain ⟨q1, q2⟩ := ih (j + 1) a (by omega) (by omega)
        rw [if_neg es, if_neg hj]
        refine ⟨⟨fun _ => ⟨z_in h6 (by decide), fun z => absurd z es, fun _ => q1⟩, fun z => absurd e6 z⟩, ?_⟩
        rw [q2, Nat.zero_add]
    · have e6 : ¬ nI j < 6 := fun z => h6 ((nI_ltI (b := 6) (by omega) (by decide)).mp z)
      rw [if_neg e6, show 6 - j = 0 by omega]
      exact ⟨⟨fun z => absurd z e6, fun _ => trivial⟩, rfl⟩
