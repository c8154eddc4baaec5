/-! Lanes, sums of splits, ranks. -/
theorem z_laneL {k r : Nat} {σ : q_M} {b : Nat → Nat} {t : Nat → Nat → Nat} (hR : z_R σ r b t) (hV : z_V k b t) (q : Int32) : ∀ (nn j : Nat), 7 ≤ nn + j → j ≤ 6 → PL_X4_numberInLane_11 r q nn (nI j) σ ∧ (b 3 ≤ j → FL_X4_numberInLane_11 r q nn (nI j) σ = -1) ∧ ((∃ w, w < b 3 ∧ FL_X4_numberInLane_11 r q nn (nI j) σ = nI w ∧ ∀ τ, z_M τ b t → PL_X9_teamInLane_2 q nn (nI j) τ ∧ FL_X9_teamInLane_2 q nn (nI j) τ = (nI w, q_up τ 229 5 0)) ∨ (FL_X4_numberInLane_11 r q nn (nI j) σ = -1 ∧ ∀ τ, z_M τ b t → PL_X9_teamInLane_2 q nn (nI j) τ ∧ FL_X9_teamInLane_2 q nn (nI j) τ = (0, q_up τ 229 5 1))) := by
  intro nn
  induction nn with
  | zero => intro j h1 h2; omega
  | succ nn ih =>
    intro j h1 h2
    have n6 := hV.n6
    have ej : nI j + 1 = nI (j + 1) := by rw [z_l1, z_add]
    have e3 : ∀ τ, z_M τ b t → (nI j < τ 230 3) = (j < b 3) := fun τ hM => by rw [hM.bs 3 (by decide), z_lt (by omega) (by omega)]
    by_cases h6 : j < 6
    · have e6 : nI j < 6 := nI_lt (b := 6) h6 (by decide)
      have hc : (nI j).toNatClampNeg = j := nI_clamp (by omega)
      unfold PL_X4_numberInLane_11 FL_X4_numberInLane_11
      rw [if_pos e6, hc, z_place, ej]
      obtain ⟨i1, i0, i2⟩ := ih (j + 1) (by omega) (by omega)
      by_cases hj : j < b 3
      · have hT := hR.te j h6 hj
        have hst := (hV.te j hj).st
        have es : ¬ σ (r + 2 + 3 * j) 3 = 0 := by rw [hT.st]; exact nI_ne0 (by omega) (by omega)
        rw [if_neg es, hT.ln, hT.no]
        by_cases hq : nI (t j 4) = q
        · rw [if_pos hq]
          refine ⟨⟨fun _ => ⟨z_in h6 (by decide), fun z => absurd z es, fun _ => ⟨fun _ => trivial, fun z => absurd hq z⟩⟩, fun z => absurd e6 z⟩, fun z => by omega, .inl ⟨j, hj, rfl, fun τ hM => ?_⟩⟩
          unfold PL_X9_teamInLane_2 FL_X9_teamInLane_2
          simp only [e3 τ hM]
          rw [if_pos hj, hM.o4 h6, if_pos hq]
          exact ⟨⟨fun _ => ⟨z_p4 h6, fun _ => trivial, fun z => absurd hq z⟩, fun z => absurd hj z⟩, rfl⟩
        · rw [if_neg hq]
          refine ⟨⟨fun _ => ⟨z_in h6 (by decide), fun z => absurd z es, fun _ => ⟨fun z => absurd z hq, fun _ => i1⟩⟩, fun z => absurd e6 z⟩, fun z => by omega, ?_⟩
          rcases i2 with ⟨w, a1, a2, a3⟩ | ⟨a2, a3⟩
          · refine .inl ⟨w, a1, a2, fun τ hM => ?_⟩
            obtain ⟨b1, b2⟩ := a3 τ hM
            unfold PL_X9_teamInLane_2 FL_X9_teamInLane_2
            simp only [e3 τ hM]
            rw [if_pos hj, hM.o4 h6, if_neg hq, ej]
            exact ⟨⟨fun _ => ⟨z_p4 h6, fun z => absurd z hq, fun _ => b1⟩, fun z => absurd hj z⟩, b2⟩
          · refine .inr ⟨a2, fun τ hM => ?_⟩
            obtain ⟨b1, b2⟩ := a3 τ hM
            unfold PL_X9_teamInLane_2 FL_X9_teamInLane_2
            simp only [e3 τ hM]
            rw [if_pos hj, hM.o4 h6, if_neg hq, ej]
            exact ⟨⟨fun _ => ⟨z_p4 h6, fun z => absurd z hq, fun _ => b1⟩, fun z => absurd hj z⟩, b2⟩
      · have hA := hR.ab j h6 (by omega)
        rw [if_pos hA.st]
        refine ⟨⟨fun _ => ⟨z_in h6 (by decide), fun _ => i1, fun z => absurd hA.st z⟩, fun z => absurd e6 z⟩, fun _ => i0 (by omega), .inr ⟨i0 (by omega), fun τ hM => ?_⟩⟩
        unfold PL_X9_teamInLane_2 FL_X9_teamInLane_2
        simp only [e3 τ hM]
        rw [if_neg hj]
        exact ⟨⟨fun z => absurd z hj, fun _ => trivial⟩, rfl⟩
    · have e6 : ¬ nI j < 6 := fun z => h6 ((nI_ltI (b := 6) (by omega) (by decide)).mp z)
      have hj : ¬ j < b 3 := by omega
      unfold PL_X4_numberInLane_11 FL_X4_numberInLane_11
      rw [if_neg e6]
      refine ⟨⟨fun z => absurd z e6, fun _ => trivial⟩, fun _ => rfl, .inr ⟨rfl, fun τ hM => ?_⟩⟩
      unfold PL_X9_teamInLane_2 FL_X9_teamInLane_2
      simp only [e3 τ hM]
      rw [if_neg hj]
      exact ⟨⟨fun z => absurd z hj, fun _ => trivial⟩, rfl⟩
theorem z_nm1 {w : Nat} (h : w < 2 ^ 31) : ¬ nI w = -1 := by
  intro q
  have : (nI w).toInt = (-1 : Int32).toInt := by rw [q]
  rw [nI_toInt h] at this
  have e : (-1 : Int32).toInt = -1 := by decide
  omega
theorem sq_teamInLane {k : Nat} {σ : q_M} (hk : k < 512) (hI : z_Inv k σ) (g : Int32) : sim_teamInLane g σ ∧ z_Inv (k + 1) (to_teamInLane g σ) := by
  obtain ⟨b, t, nw, sz, hb, ht, sb, st, hJ⟩ := hI
  have hR := hJ.1
  have hV := hJ.2.2.2.2.1
  have n6 := hV.n6
  have l0 := hV.l0
  have l1 := hV.l1
  have hck := hV.ck
  have ha : z_ans nx_teamInLane (F_X8_teamInLane g σ) (P_X9_teamInLane g) (F_X9_teamInLane g) b t (fun v => True) := by
    rcases (z_laneL hR hV g 10 0 (by omega) (by omega)).2.2 with ⟨w, a1, a2, a3⟩ | ⟨a2, a3⟩
    · have a2 : F_X4_numberInLane 0 g σ = nI w := a2
      exact .inl ⟨nI w, by unfold F_X8_teamInLane q_L; dsimp only; rw [a2, if_neg (z_nm1 (by omega))], trivial, a3⟩
    · have a2 : F_X4_numberInLane 0 g σ = -1 := a2
      exact .inr ⟨"java/util/NoSuchElementException", 1, 0, by unfold F_X8_teamInLane q_L; dsimp only; rw [a2, if_pos rfl], trivial, by simp, by decide +kernel, by decide, by decide, a3⟩
  have hP : P_X8_teamInLane g σ := by
    exact ⟨(z_laneL hR hV g 10 0 (by omega) (by omega)).1, trivial⟩
  obtain ⟨c1, c2, c3, c4, cQ, c5⟩ := z_ask hJ ha (W_teamInLane g σ) (fun v e q => by unfold W_teamInLane; rw [e]) (fun E e => by unfold W_teamInLane; rw [e])
  unfold sim_teamInLane q_SimI to_teamInLane
  exact ⟨⟨⟨hP, c1⟩, c2, c3, c4⟩, c5⟩
theorem z_spC {σ : q_M} {p w : Nat} {x : Nat → Nat} (h : z_T σ p w x) (hp : p + 2 < 220) (g : Int32) : ∀ (nn j a : Nat), 5 ≤ nn + j → j ≤ 4 → PL_X8_splitSum_18 g p nn (nI a) (nI 4) (nI j) σ ∧ FL_X8_splitSum_18 g p nn (nI a) (nI 4) (nI j) σ = .inl (nI (a + z_sm (fun i => x (14 + i) - 1) j (4 - j))) := by
  intro nn
  induction nn with
  | zero => intro j a h1 h2; omega
  | succ nn ih =>
    intro j a h1 h2
    have ej : nI j + 1 = nI (j + 1) := by rw [z_l1, z_add]
    have e4 : (nI j < nI 4) = (j < 4) := by rw [z_lt (by omega) (by omega)]
    unfold PL_X8_splitSum_18 FL_X8_splitSum_18
    by_cases h4 : j < 4
    · have hc : (nI j).toNatClampNeg = j := nI_clamp (by omega)
      obtain ⟨q1, q2⟩ := ih (j + 1) (a + (x (14 + j) - 1)) (by omega) (by omega)
      simp only [e4, hc, ej, q_L, h.sl j h4, z_add, forall_eq']
      rw [if_pos h4]
      refine ⟨⟨fun _ => ⟨by rw [z_len hp]; exact vp_in_nI h4 (by decide), q1⟩, fun z => absurd h4 z⟩, ?_⟩
      rw [q2, show 4 - j = (4 - (j + 1)) + 1 by omega]
      show _ = Sum.inl (nI (a + (x (14 + j) - 1 + z_sm (fun i => x (14 + i) - 1) (j + 1) (4 - (j + 1)))))
      rw [Nat.add_assoc]
    · simp only [e4]
      rw [if_neg h4, show 4 - j = 0 by omega]
      exact ⟨⟨fun z => absurd z h4, fun _ => trivial⟩, rfl⟩
theorem z_dec {x : Nat} (hx : x < 2 ^ 30) : (if nI x - 1 < 0 then 0 else nI x - 1) = nI (x - 1) := by
  by_cases c : x = 0
  · subst c; decide
  · have e : nI x - 1 = nI (x - 1) := by rw [z_l1, z_sub (by omega)]
    rw [e, if_neg (nI_pos (by omega))]
theorem z_spM {τ : q_M} {w : Nat} {b : Nat → Nat} {t : Nat → Nat → Nat} (h : z_M τ b t) (hw : w < 6) (hx : ∀ j, j < 4 → t w (14 + j) < 2 ^ 30) : ∀ (nn j a : Nat), 5 ≤ nn + j → j ≤ 4 → PL_X9_splitSum_27 (nI w) nn (nI a) (nI j) τ ∧ FL_X9_splitSum_27 (nI w) nn (nI a) (nI j) τ = (nI (a + z_sm (fun i => t w (14 + i) - 1) j (4 - j)), τ) := by
  intro nn
  induction nn with
  | zero => intro j a h1 h2; omega
  | succ nn ih =>
    intro j a h1 h2
    have ej : nI j + 1 = nI (j + 1) := by rw [z_l1, z_add]
    have e4 : (nI j < 4) = (j < 4) := by rw [z_l4, z_lt (by omega) (by omega)]
    unfold PL_X9_splitSum_27 FL_X9_splitSum_27
    by_cases h4 : j < 4
    · have e14 : (14 : Int32) + nI j = nI (14 + j) := by rw [z_l14, z_add]
      obtain ⟨q1, q2⟩ := ih (j + 1) (a + (t w (14 + j) - 1)) (by omega) (by omega)
      have ed := z_dec (hx j h4)
      simp only [e4, ej, q_L, e14, h.of hw (show 14 + j < 19 by omega), ed, z_add, forall_eq']
      rw [if_pos h4]
      refine ⟨⟨fun _ => ⟨z_ofP hw (by omega), trivial, q1⟩, fun z => absurd h4 z⟩, ?_⟩
      rw [q2, show 4 - j = (4 - (j + 1)) + 1 by omega]
      show _ = (nI (a + (t w (14 + j) - 1 + z_sm (fun i => t w (14 + i) - 1) (j + 1) (4 - (j + 1)))), τ)
      rw [Nat.add_assoc]
    · simp only [e4]
      rw [if_neg h4, show 4 - j = 0 by omega]
      exact ⟨⟨fun z => absurd z h4, fun _ => trivial⟩, rfl⟩
theorem sq_splitSum {k : Nat} {σ : q_M} (hk : k < 512) (hI : z_Inv k σ) (g : Int32) : sim_splitSum g σ ∧ z_Inv (k + 1) (to_splitSum g σ) := by
  obtain ⟨b, t, nw, sz, hb, ht, sb, st, hJ⟩ := hI
  have hR := hJ.1
  have hV := hJ.2.2.2.2.1
  have n6 := hV.n6
  have l0 := hV.l0
  have l1 := hV.l1
  have hck := hV.ck
  have ha : z_ans nx_splitSum (F_X8_splitSum g σ) (P_X9_splitSum g) (F_X9_splitSum g) b t (fun v => True) := by
    by_cases hg : ∃ w, w < b 3 ∧ g = nI w
    · obtain ⟨w, hw, rfl⟩ := hg
      have h6 : w < 6 := by omega
      have hT := hR.te w h6 hw
      have hW := hV.te w hw
      have hst := hW.st
      have hl := z_len (show 0 + 2 + 3 * w + 2 < 220 by omega)
      obtain ⟨s1, s2⟩ := z_spC hT (by omega) (nI w) 8 0 0 (by omega) (by omega)
      refine .inl ⟨nI (z_sm (fun i => t w (14 + i) - 1) 0 4), ?_, trivial, fun τ hM => ?_⟩
      · unfold F_X8_splitSum
        rw [z_tw1 hR hV hw]
        show FL_X8_splitSum_18 (nI w) (0 + 2 + 3 * w) 8 0 (nI (q_len (0 + 2 + 3 * w + 2))) 0 σ = _
        rw [hl]
        refine s2.trans ?_
        rw [Nat.zero_add]
      · have hM1 : z_M (q_up τ 229 5 0) b t := hM.u9
        obtain ⟨m1, m2⟩ := z_spM hM1 h6 (fun j hj => by have := (hW.sl j hj).1; omega) 8 0 0 (by omega) (by omega)
        rw [Nat.zero_add] at m2
        simp only [P_X9_splitSum, F_X9_splitSum, z_isT hM hw n6, z_10, if_false]
        exact ⟨⟨fun q => q.elim, fun _ => m1⟩, m2⟩
    · refine .inr ⟨"java/lang/IndexOutOfBoundsException", 1, 0, by unfold F_X8_splitSum; rw [z_tw0 hR hg], trivial, by simp, by decide +kernel, by decide, by decide, fun τ hM => ?_⟩
      simp only [P_X9_splitSum, F_X9_splitSum, z_noT hM n6 hg, if_true]
      exact ⟨⟨fun _ => trivial, fun q => absurd trivial q⟩, rfl⟩
  have hP : P_X8_splitSum g σ := by
    intro r hr
    cases r with
    | inr E => trivial
    | inl u =>
      intro x3 h3
      subst h3
      by_cases hg : ∃ w, w < b 3 ∧ g = nI w
      · obtain ⟨w, hw, rfl⟩ := hg
        have h6 : w < 6 := by omega
        rw [z_tw1 hR hV hw] at hr
        injection hr with hr
        subst hr
        rw [z_len (show 0 + 2 + 3 * w + 2 < 220 by omega)]
        exact (z_spC (hR.te w h6 hw) (by omega) (nI w) 8 0 0 (by omega) (by omega)).1
      · rw [z_tw0 hR hg] at hr
        injection hr
  obtain ⟨c1, c2, c3, c4, cQ, c5⟩ := z_ask hJ ha (W_splitSum g σ) (fun v e q => by unfold W_splitSum; rw [e]) (fun E e => by unfold W_splitSum; rw [e])
  unfold sim_splitSum q_SimI to_splitSum
  exact ⟨⟨⟨hP, c1⟩, c2, c3, c4⟩, c5⟩
/-! ranks -/
def z_gp (x : Nat → Nat) : Nat := if x 6 = 2 then 0 else if x 6 = 3 then 2 else 1
def z_la (x y : Nat → Nat) : Nat := if x 6 = 2 then y 18 + y 5 else x 7
def z_lb (x y : Nat → Nat) : Nat := if x 6 = 2 then x 18 + x 5 else y 7
def z_ah (x y : Nat → Nat) : Nat := if z_gp x = z_gp y then (if z_la x y = z_lb x y then (if x 4 < y 4 then 1 else 0) else if z_lb x y < z_la x y then 1 else 0) else if z_gp x < z_gp y then 1 else 0
theorem z_gp2 (x : Nat → Nat) : z_gp x ≤ 2 := by
  unfold z_gp
  split
  · omega
  · split <;> omega
theorem z_ahs (x : Nat → Nat) : z_ah x x = 0 := by
  unfold z_ah
  rw [if_pos rfl]
  have e : z_la x x = z_lb x x := by unfold z_la z_lb; split <;> rfl
  rw [if_pos e, if_neg (by omega)]
theorem z_ah1 (x y : Nat → Nat) : z_ah x y ≤ 1 := by
  unfold z_ah
  split
  · split
    · split <;> omega
    · split <;> omega
  · split <;> omega
theorem z_rgC {x : Nat → Nat} (h : x 6 ≤ 3) : q_rg (nI (x 6 + 1)) = nI (z_gp x) ∧ q_okS (nI (x 6 + 1)) := by
  unfold z_gp
  rcases (show x 6 = 0 ∨ x 6 = 1 ∨ x 6 = 2 ∨ x 6 = 3 by omega) with e | e | e | e <;> rw [e] <;> exact ⟨by decide, by unfold q_okS; decide⟩
theorem z_sb0 {a b : Nat} (ha : a < 2 ^ 30) (hb : b < 2 ^ 30) : (nI a - nI b = 0) = (a = b) := by
  apply propext
  have e := pk_sub_toInt (a := a) (b := b) (by omega) (by omega)
  constructor
  · intro h
    rw [h] at e
    have e0 : (0 : Int32).toInt = 0 := rfl
    omega
  · rintro rfl
    rw [z_sub (Nat.le_refl _), Nat.sub_self]
    rfl
theorem z_sbl {a b : Nat} (ha : a < 2 ^ 30) (hb : b < 2 ^ 30) : ((0 : Int32) < nI a - nI b) = (b < a) := by
  apply propext
  have e := pk_sub_toInt (a := a) (b := b) (by omega) (by omega)
  rw [Int32.lt_iff_toInt_lt, e]
  have e0 : (0 : Int32).toInt = 0 := rfl
  omega
theorem z_lab {k : Nat} {b x y : Nat → Nat} (hx : z_W k b x) (hy : z_W k b y) (l1 : b 0 ≤ 4000) (hk : k ≤ 20000) (hT : b 2 ≤ 200 * k) : z_la x y < 2 ^ 30 ∧ z_lb x y < 2 ^ 30 := by
  have a1 := hx.ps
  have a2 := hy.ps
  have a3 := z_mE hx.lg l1
  have a4 := z_mE hy.lg l1
  have a5 := hx.tm
  have a6 := hy.tm
  have a7 := hx.pn
  have a8 := hy.pn
  unfold z_la z_lb
  constructor <;> split <;> omega
theorem z_ahC {k p q u w : Nat} {σ : q_M} {b x y : Nat → Nat} (hTx : z_T σ p u x) (hTy : z_T σ q w y) (hx : z_W k b x) (hy : z_W k b y) (l1 : b 0 ≤ 4000) (hk : k ≤ 20000) (hT : b 2 ≤ 200 * k) : P_X6_isAheadOf p q σ ∧ F_X6_isAheadOf p q σ = nI (z_ah x y) := by
  obtain ⟨r1, o1⟩ := z_rgC hx.st
  obtain ⟨r2, o2⟩ := z_rgC hy.st
  have g1 := z_gp2 x
  have g2 := z_gp2 y
  obtain ⟨b1, b2⟩ := z_lab hx hy l1 hk hT
  have n1 := hx.ln
  have n2 := hy.ln
  have s1 := hx.st
  have el : (if σ p 3 = 3 then F_X6_result q σ - F_X6_result p σ else σ p 5 - σ q 5) = nI (z_la x y) - nI (z_lb x y) := by
    unfold F_X6_result z_la z_lb
    rw [hTx.st, hTx.ps, hTy.ps, hTx.tm, hTy.tm, hTx.pn, hTy.pn, z_add, z_add, z_l3]
    simp (disch := omega) only [z_eq]
    by_cases c : x 6 = 2
    · rw [if_pos (by omega), if_pos c, if_pos c]
    · rw [if_neg (by omega), if_neg c, if_neg c]
  constructor
  · unfold P_X6_isAheadOf
    rw [hTx.st, hTy.st]
    exact ⟨o1, o2, fun _ => trivial, fun _ => ⟨o1, o2, trivial⟩⟩
  · unfold F_X6_isAheadOf z_ah
    rw [el]
    simp (disch := omega) only [hTx.st, hTy.st, r1, r2, hTx.ln, hTy.ln, q_L, z_eq, z_lt, z_sb0, z_sbl]
    split
    · split
      · split <;> rfl
      · split <;> rfl
    · split <;> rfl
theorem z_ahM {k i j : Nat} {τ : q_M} {b : Nat → Nat} {t : Nat → Nat → Nat} (h : z_M τ b t) (hi : i < 6) (hj : j < 6) (hx : z_W k b (t i)) (hy : z_W k b (t j)) (l1 : b 0 ≤ 4000) (hk : k ≤ 20000) (hT : b 2 ≤ 200 * k) : P_X9_isAhead (nI i) (nI j) τ ∧ F_X9_isAhead (nI i) (nI j) τ = nI (z_ah (t i) (t j)) := by
  have g1 := z_gp2 (t i)
  have g2 := z_gp2 (t j)
  obtain ⟨b1, b2⟩ := z_lab hx hy l1 hk hT
  have n1 := hx.ln
  have n2 := hy.ln
  have s1 := hx.st
  have eg : ∀ w, w < 6 → t w 6 ≤ 3 → P_X9_group (nI w) τ ∧ F_X9_group (nI w) τ = nI (z_gp (t w)) := by
    intro w hw hs
    refine ⟨⟨z_p6 hw, trivial⟩, ?_⟩
    unfold F_X9_group z_gp q_L
    rw [h.o6 hw, z_l2, z_l3]
    simp (disch := omega) only [z_eq]
    split
    · rfl
    · split <;> rfl
  obtain ⟨p1, e1⟩ := eg i hi hx.st
  obtain ⟨p2, e2⟩ := eg j hj hy.st
  have el : (if nI (z_gp (t i)) = 0 then F_X9_result (nI j) τ - F_X9_result (nI i) τ else F_X9_of (nI i) 7 τ - F_X9_of (nI j) 7 τ) = nI (z_la (t i) (t j)) - nI (z_lb (t i) (t j)) := by
    unfold F_X9_result z_la z_lb z_gp
    rw [h.o7 hi, h.o7 hj, h.o18 hi, h.o18 hj, h.o5 hi, h.o5 hj, z_add, z_add]
    by_cases c : t i 6 = 2
    · rw [if_pos c, if_pos (show nI 0 = 0 from rfl), if_pos c, if_pos c]
    · rw [if_neg c, if_neg c, if_neg c]
      by_cases d : t i 6 = 3
      · rw [if_pos d, if_neg (by decide)]
      · rw [if_neg d, if_neg (by decide)]
  constructor
  · unfold P_X9_isAhead
    exact ⟨p1, p2, fun _ => ⟨p1, ⟨fun _ => ⟨⟨z_p18 hj, z_p5 hj, trivial⟩, ⟨z_p18 hi, z_p5 hi, trivial⟩, trivial⟩, fun _ => ⟨z_p7 hi, z_p7 hj, trivial⟩⟩, fun _ _ => ⟨fun _ => ⟨z_p4 hi, z_p4 hj, trivial⟩, fun _ => trivial⟩⟩, fun _ => ⟨p1, p2, trivial⟩⟩
  · unfold F_X9_isAhead z_ah
    rw [e1, e2, el]
    simp (disch := omega) only [h.o4 hi, h.o4 hj, q_L, z_eq, z_lt, z_sb0, z_sbl]
    split
    · split
      · split <;> rfl
      · split <;> rfl
    · split <;> rfl
def z_rk (t : Nat → Nat → Nat) (n w : Nat) : Nat := z_sm (fun i => z_ah (t i) (t w)) 0 n
theorem z_caL {k r w : Nat} {σ : q_M} {b : Nat → Nat} {t : Nat → Nat → Nat} (hR : z_R σ r b t) (hV : z_V k b t) (hk : k ≤ 20000) (hw : w < b 3) : ∀ (nn j a : Nat), 7 ≤ nn + j → j ≤ 6 → PL_X4_countAhead_14 r (r + 2 + 3 * w) nn (nI a) (nI j) σ ∧ FL_X4_countAhead_14 r (r + 2 + 3 * w) nn (nI a) (nI j) σ = nI (a + z_sm (fun i => if i < b 3 then z_ah (t i) (t w) else 0) j (6 - j)) := by
  intro nn
  induction nn with
  | zero => intro j a h1 h2; omega
  | succ nn ih =>
    intro j a h1 h2
    have n6 := hV.n6
    have ej : nI j + 1 = nI (j + 1) := by rw [z_l1, z_add]
    have ea : nI a + 1 = nI (a + 1) := by rw [z_l1, z_add]
    have hTw := hR.te w (by omega) hw
    unfold PL_X4_countAhead_14 FL_X4_countAhead_14
    by_cases h6 : j < 6
    · have e6 : nI j < 6 := nI_lt (b := 6) h6 (by decide)
      have hc : (nI j).toNatClampNeg = j := nI_clamp (by omega)
      have hsm : z_sm (fun i => if i < b 3 then z_ah (t i) (t w) else 0) j (6 - j) = (if j < b 3 then z_ah (t j) (t w) else 0) + z_sm (fun i => if i < b 3 then z_ah (t i) (t w) else 0) (j + 1) (6 - (j + 1)) := by
        rw [show 6 - j = (6 - (j + 1)) + 1 by omega]
        rfl
      rw [if_pos e6, hc, z_place, ej, ea, hsm]
      by_cases hj : j < b 3
      · have hT := hR.te j h6 hj
        have hst := (hV.te j hj).st
        have es : ¬ σ (r + 2 + 3 * j) 3 = 0 := by rw [hT.st]; exact nI_ne0 (by omega) (by omega)
        obtain ⟨p1, p2⟩ := z_ahC hT hTw (hV.te j hj) (hV.te w hw) hV.l1 hk hV.ck
        have h1' := z_ah1 (t j) (t w)
        rw [if_neg es, if_pos hj, p2]
        by_cases c : z_ah (t j) (t w) = 0
        · have c1 : nI (z_ah (t j) (t w)) = 0 := by rw [c]; rfl
          obtain ⟨q1, q2⟩ := ih (j + 1) a (by omega) (by omega)
          rw [if_pos c1]
          refine ⟨⟨fun _ => ⟨z_in h6 (by decide), fun z => absurd z es, fun _ => ⟨p1, fun _ => q1, fun z => absurd c1 z⟩⟩, fun z => absurd e6 z⟩, ?_⟩
          rw [q2, c, Nat.zero_add]
        · have c1 : ¬ nI (z_ah (t j) (t w)) = 0 := nI_ne0 (by omega) (by omega)
          obtain ⟨q1, q2⟩ := ih (j + 1) (a + 1) (by omega) (by omega)
          rw [if_neg c1]
          refine ⟨⟨fun _ => ⟨z_in h6 (by decide), fun z => absurd z es, fun _ => ⟨p1, fun z => absurd z c1, fun _ => q1⟩⟩, fun z => absurd e6 z⟩, ?_⟩
          rw [q2, show z_ah (t j) (t w) = 1 by omega, Nat.add_assoc]
      · have hA := hR.ab j h6 (by omega)
        obtain ⟨q1, q2⟩ := ih (j + 1) a (by omega) (by omega)
        rw [if_pos hA.st, if_neg hj]
        refine ⟨⟨fun _ => ⟨z_in h6 (by decide), fun _ => q1, fun z => absurd hA.st z⟩, fun z => absurd e6 z⟩, ?_⟩
        rw [q2, Nat.zero_add]
    · have e6 : ¬ nI j < 6 := fun z => h6 ((nI_ltI (b := 6) (by omega) (by decide)).mp z)
      rw [if_neg e6, show 6 - j = 0 by omega]
      exact ⟨⟨fun z => absurd z e6, fun _ => trivial⟩, rfl⟩
theorem z_ca {k r w : Nat} {σ : q_M} {b : Nat → Nat} {t : Nat → Nat → Nat} (hR : z_R σ r b t) (hV : z_V k b t) (hk : k ≤ 20000) (hw : w < b 3) : P_X4_countAhead r (r + 2 + 3 * w) σ ∧ F_X4_countAhead r (r + 2 + 3 * w) σ = nI (z_rk t (b 3) w) := by
  obtain ⟨q1, q2⟩ := z_caL hR hV hk hw 10 0 0 (by omega) (by omega)
  refine ⟨q1, ?_⟩
  have e : z_sm (fun i => if i < b 3 then z_ah (t i) (t w) else 0) 0 6 = z_rk t (b 3) w := by
    rw [z_sm_n hV.n6 (fun i h1 _ => by rw [if_neg (by omega)])]
    exact z_sm_cg _ _ (fun i _ hi => by rw [if_pos (by omega)])
  rw [Nat.zero_add, Nat.sub_zero, e] at q2
  exact q2
theorem z_rkL {k w : Nat} {τ : q_M} {b : Nat → Nat} {t : Nat → Nat → Nat} (h : z_M τ b t) (hV : z_V k b t) (hk : k ≤ 20000) (hw : w < b 3) : ∀ (nn j a : Nat), 7 ≤ nn + j → j ≤ b 3 → PL_X9_rank_4 (nI w) nn (nI a) (nI j) τ ∧ FL_X9_rank_4 (nI w) nn (nI a) (nI j) τ = nI (a + z_sm (fun i => z_ah (t i) (t w)) j (b 3 - j)) := by
  intro nn
  induction nn with
  | zero => intro j a h1 h2; have := hV.n6; omega
  | succ nn ih =>
    intro j a h1 h2
    have n6 := hV.n6
    have ej : nI j + 1 = nI (j + 1) := by rw [z_l1, z_add]
    have e3 : (nI j < τ 230 3) = (j < b 3) := by rw [h.bs 3 (by decide), z_lt (by omega) (by omega)]
    unfold PL_X9_rank_4 FL_X9_rank_4
    by_cases hj : j < b 3
    · have hsm : z_sm (fun i => z_ah (t i) (t w)) j (b 3 - j) = z_ah (t j) (t w) + z_sm (fun i => z_ah (t i) (t w)) (j + 1) (b 3 - (j + 1)) := by
        rw [show b 3 - j = (b 3 - (j + 1)) + 1 by omega]
        rfl
      obtain ⟨p1, p2⟩ := z_ahM h (show j < 6 by omega) (show w < 6 by omega) (hV.te j hj) (hV.te w hw) hV.l1 hk hV.ck
      have h1' := z_ah1 (t j) (t w)
      have ex : (if nI j = nI w then 0 else if F_X9_isAhead (nI j) (nI w) τ = 0 then 0 else 1) = nI (z_ah (t j) (t w)) := by
        rw [p2]
        by_cases c : j = w
        · subst c
          rw [if_pos rfl, z_ahs]
          rfl
        · rw [if_neg (by rw [z_eq (by omega) (by omega)]; exact c)]
          rcases (show z_ah (t j) (t w) = 0 ∨ z_ah (t j) (t w) = 1 by omega) with e | e <;> rw [e] <;> rfl
      obtain ⟨q1, q2⟩ := ih (j + 1) (a + z_ah (t j) (t w)) (by omega) (by omega)
      simp only [e3, ej, ex, q_L, forall_eq', z_add]
      rw [if_pos hj, hsm]
      refine ⟨⟨fun _ => ⟨⟨fun _ => trivial, fun _ => ⟨p1, trivial⟩⟩, q1⟩, fun z => absurd hj z⟩, ?_⟩
      rw [q2, Nat.add_assoc]
    · simp only [e3]
      rw [if_neg hj, show b 3 - j = 0 by omega]
      exact ⟨⟨fun z => absurd z hj, fun _ => trivial⟩, rfl⟩
theorem z_rkM {k w : Nat} {τ : q_M} {b : Nat → Nat} {t : Nat → Nat → Nat} (h : z_M τ b t) (hV : z_V k b t) (hk : k ≤ 20000) (hw : w < b 3) : P_X9_rank (nI w) τ ∧ F_X9_rank (nI w) τ = nI (z_rk t (b 3) w) := by
  obtain ⟨q1, q2⟩ := z_rkL h hV hk hw 10 0 0 (by omega) (by omega)
  rw [Nat.zero_add, Nat.sub_zero] at q2
  exact ⟨q1, q2⟩
theorem sq_rankOf {k : Nat} {σ : q_M} (hk : k < 512) (hI : z_Inv k σ) (g : Int32) : sim_rankOf g σ ∧ z_Inv (k + 1) (to_rankOf g σ) := by
  obtain ⟨b, t, nw, sz, hb, ht, sb, st, hJ⟩ := hI
  have hR := hJ.1
  have hV := hJ.2.2.2.2.1
  have n6 := hV.n6
  have l0 := hV.l0
  have l1 := hV.l1
  have hck := hV.ck
  have ha : z_ans nx_rankOf (F_X8_rankOf g σ) (P_X9_rankOf g) (F_X9_rankOf g) b t (fun v => True) := by
    by_cases hg : ∃ w, w < b 3 ∧ g = nI w
    · obtain ⟨w, hw, rfl⟩ := hg
      have h6 : w < 6 := by omega
      have hT := hR.te w h6 hw
      have hW := hV.te w hw
      have hst := hW.st
      obtain ⟨p1, p2⟩ := z_ca hR hV (by omega) hw
      refine .inl ⟨nI (z_rk t (b 3) w), by unfold F_X8_rankOf; rw [z_tw1 hR hV hw]; exact congrArg Sum.inl p2, trivial, fun τ hM => ?_⟩
      have hM1 : z_M (q_up τ 229 5 0) b t := hM.u9
      obtain ⟨m1, m2⟩ := z_rkM hM1 hV (by omega) hw
      simp only [P_X9_rankOf, F_X9_rankOf, z_isT hM hw n6, z_10, if_false, q_L, forall_eq', m2]
      exact ⟨⟨fun q => q.elim, fun _ => ⟨m1, trivial⟩⟩, trivial⟩
    · refine .inr ⟨"java/lang/IndexOutOfBoundsException", 1, 0, by unfold F_X8_rankOf; rw [z_tw0 hR hg], trivial, by simp, by decide +kernel, by decide, by decide, fun τ hM => ?_⟩
      simp only [P_X9_rankOf, F_X9_rankOf, z_noT hM n6 hg, if_true, q_L]
      exact ⟨⟨fun _ => trivial, fun q => absurd trivial q⟩, rfl⟩
  have hP : P_X8_rankOf g σ := by
    intro r hr
    cases r with
    | inr E => trivial
    | inl u =>
      by_cases hg : ∃ w, w < b 3 ∧ g = nI w
      · obtain ⟨w, hw, rfl⟩ := hg
        rw [z_tw1 hR hV hw] at hr
        injection hr with hr
        subst hr
        exact ⟨(z_ca hR hV (by omega) hw).1, trivial⟩
      · rw [z_tw0 hR hg] at hr
        injection hr
  obtain ⟨c1, c2, c3, c4, cQ, c5⟩ := z_ask hJ ha (W_rankOf g σ) (fun v e q => by unfold W_rankOf; rw [e]) (fun E e => by unfold W_rankOf; rw [e])
  unfold sim_rankOf q_SimI to_rankOf
  exact ⟨⟨⟨hP, c1⟩, c2, c3, c4⟩, c5⟩
theorem z_arL {k r : Nat} {σ : q_M} {b : Nat → Nat} {t : Nat → Nat → Nat} (hR : z_R σ r b t) (hV : z_V k b t) (hk : k ≤ 20000) (q : Int32) : ∀ (nn j : Nat), 7 ≤ nn + j → j ≤ 6 → PL_X4_numberAtRank_11 r q nn (nI j) σ ∧ (b 3 ≤ j → FL_X4_numberAtRank_11 r q nn (nI j) σ = -1) ∧ ((∃ w, w < b 3 ∧ FL_X4_numberAtRank_11 r q nn (nI j) σ = nI w ∧ ∀ τ, z_M τ b t → PL_X9_teamAtRank_2 q nn (nI j) τ ∧ FL_X9_teamAtRank_2 q nn (nI j) τ = (nI w, q_up τ 229 5 0)) ∨ (FL_X4_numberAtRank_11 r q nn (nI j) σ = -1 ∧ ∀ τ, z_M τ b t → PL_X9_teamAtRank_2 q nn (nI j) τ ∧ FL_X9_teamAtRank_2 q nn (nI j) τ = (0, q_up τ 229 5 1))) := by
  intro nn
  induction nn with
  | zero => intro j h1 h2; omega
  | succ nn ih =>
    intro j h1 h2
    have n6 := hV.n6
    have ej : nI j + 1 = nI (j + 1) := by rw [z_l1, z_add]
    have e3 : ∀ τ, z_M τ b t → (nI j < τ 230 3) = (j < b 3) := fun τ hM => by rw [hM.bs 3 (by decide), z_lt (by omega) (by omega)]
    have hend : ¬ j < b 3 → ∀ τ, z_M τ b t → PL_X9_teamAtRank_2 q (nn + 1) (nI j) τ ∧ FL_X9_teamAtRank_2 q (nn + 1) (nI j) τ = (0, q_up τ 229 5 1) := by
      intro hj τ hM
      unfold PL_X9_teamAtRank_2 FL_X9_teamAtRank_2
      simp only [e3 τ hM]
      rw [if_neg hj]
      exact ⟨⟨fun z => absurd z hj, fun _ => trivial⟩, rfl⟩
    by_cases h6 : j < 6
    · have e6 : nI j < 6 := nI_lt (b := 6) h6 (by decide)
      have hc : (nI j).toNatClampNeg = j := nI_clamp (by omega)
      unfold PL_X4_numberAtRank_11 FL_X4_numberAtRank_11
      rw [if_pos e6, hc, z_place, ej]
      obtain ⟨i1, i0, i2⟩ := ih (j + 1) (by omega) (by omega)
      by_cases hj : j < b 3
      · have hT := hR.te j h6 hj
        have hst := (hV.te j hj).st
        have es : ¬ σ (r + 2 + 3 * j) 3 = 0 := by rw [hT.st]; exact nI_ne0 (by omega) (by omega)
        obtain ⟨p1, p2⟩ := z_ca hR hV hk hj
        rw [if_neg es, p2, hT.no]
        by_cases hq : nI (z_rk t (b 3) j) = q
        · rw [if_pos hq]
          refine ⟨⟨fun _ => ⟨z_in h6 (by decide), fun z => absurd z es, fun _ => ⟨p1, fun _ => trivial, fun z => absurd hq z⟩⟩, fun z => absurd e6 z⟩, fun z => by omega, .inl ⟨j, hj, rfl, fun τ hM => ?_⟩⟩
          obtain ⟨m1, m2⟩ := z_rkM hM hV hk hj
          unfold PL_X9_teamAtRank_2 FL_X9_teamAtRank_2
          simp only [e3 τ hM]
          rw [if_pos hj, m2, if_pos hq]
          exact ⟨⟨fun _ => ⟨m1, fun _ => trivial, fun z => absurd hq z⟩, fun z => absurd hj z⟩, rfl⟩
        · rw [if_neg hq]
          refine ⟨⟨fun _ => ⟨z_in h6 (by decide), fun z => absurd z es, fun _ => ⟨p1, fun z => absurd z hq, fun _ => i1⟩⟩, fun z => absurd e6 z⟩, fun z => by omega, ?_⟩
          rcases i2 with ⟨w, a1, a2, a3⟩ | ⟨a2, a3⟩
          · refine .inl ⟨w, a1, a2, fun τ hM => ?_⟩
            obtain ⟨b1, b2⟩ := a3 τ hM
            obtain ⟨m1, m2⟩ := z_rkM hM hV hk hj
            unfold PL_X9_teamAtRank_2 FL_X9_teamAtRank_2
            simp only [e3 τ hM]
            rw [if_pos hj, m2, if_neg hq, ej]
            exact ⟨⟨fun _ => ⟨m1, fun z => absurd z hq, fun _ => b1⟩, fun z => absurd hj z⟩, b2⟩
          · refine .inr ⟨a2, fun τ hM => ?_⟩
            obtain ⟨b1, b2⟩ := a3 τ hM
            obtain ⟨m1, m2⟩ := z_rkM hM hV hk hj
            unfold PL_X9_teamAtRank_2 FL_X9_teamAtRank_2
            simp only [e3 τ hM]
            rw [if_pos hj, m2, if_neg hq, ej]
            exact ⟨⟨fun _ => ⟨m1, fun z => absurd z hq, fun _ => b1⟩, fun z => absurd hj z⟩, b2⟩
      · have hA := hR.ab j h6 (by omega)
        rw [if_pos hA.st]
        exact ⟨⟨fun _ => ⟨z_in h6 (by decide), fun _ => i1, fun z => absurd hA.st z⟩, fun z => absurd e6 z⟩, fun _ => i0 (by omega), .inr ⟨i0 (by omega), hend hj⟩⟩
    · have e6 : ¬ nI j < 6 := fun z => h6 ((nI_ltI (b := 6) (by omega) (by decide)).mp z)
      unfold PL_X4_numberAtRank_11 FL_X4_numberAtRank_11
      rw [if_neg e6]
      exact ⟨⟨fun z => absurd z e6, fun _ => trivial⟩, fun _ => rfl, .inr ⟨rfl, hend (by omega)⟩⟩
theorem sq_teamAtRank {k : Nat} {σ : q_M} (hk : k < 512) (hI : z_Inv k σ) (g : Int32) : sim_teamAtRank g σ ∧ z_Inv (k + 1) (to_teamAtRank g σ) := by
  obtain ⟨b, t, nw, sz, hb, ht, sb, st, hJ⟩ := hI
  have hR := hJ.1
  have hV := hJ.2.2.2.2.1
  have n6 := hV.n6
  have l0 := hV.l0
  have l1 := hV.l1
  have hck := hV.ck
  have ha : z_ans nx_teamAtRank (F_X8_teamAtRank g σ) (P_X9_teamAtRank g) (F_X9_teamAtRank g) b t (fun v => True) := by
    rcases (z_arL hR hV (by omega) g 10 0 (by omega) (by omega)).2.2 with ⟨w, a1, a2, a3⟩ | ⟨a2, a3⟩
    · have a2 : F_X4_numberAtRank 0 g σ = nI w := a2
      exact .inl ⟨nI w, by unfold F_X8_teamAtRank q_L; dsimp only; rw [a2, if_neg (z_nm1 (by omega))], trivial, a3⟩
    · have a2 : F_X4_numberAtRank 0 g σ = -1 := a2
      exact .inr ⟨"java/util/NoSuchElementException", 1, 0, by unfold F_X8_teamAtRank q_L; dsimp only; rw [a2, if_pos rfl], trivial, by simp, by decide +kernel, by decide, by decide, a3⟩
  have hP : P_X8_teamAtRank g σ := by
    exact ⟨(z_arL hR hV (by omega) g 10 0 (by omega) (by omega)).1, trivial⟩
  obtain ⟨c1, c2, c3, c4, cQ, c5⟩ := z_ask hJ ha (W_teamAtRank g σ) (fun v e q => by unfold W_teamAtRank; rw [e]) (fun E e => by unfold W_teamAtRank; rw [e])
  unfold sim_teamAtRank q_SimI to_teamAtRank
  exact ⟨⟨⟨hP, c1⟩, c2, c3, c4⟩, c5⟩
