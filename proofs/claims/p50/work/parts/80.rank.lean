/-! Ranks and lanes tell the teams apart. -/
def z_ky (x : Nat → Nat) : Nat := if x 6 = 2 then x 18 + x 5 else 100000000 - x 7
theorem z_ah_iff {x y : Nat → Nat} (hx : x 7 < 100000000) (hy : y 7 < 100000000) : z_ah x y = 1 ↔ z_gp x < z_gp y ∨ (z_gp x = z_gp y ∧ (z_ky x < z_ky y ∨ (z_ky x = z_ky y ∧ x 4 < y 4))) := by
  have h1 := z_ah1 x y
  unfold z_ah z_la z_lb z_ky z_gp
  by_cases a : x 6 = 2
  · by_cases c : y 6 = 2
    · simp only [if_pos a, if_pos c, if_true, true_and]
      (repeat' split) <;> omega
    · simp only [if_pos a, if_neg c]
      split <;> simp
  · by_cases c : y 6 = 2
    · simp only [if_neg a, if_pos c]
      split <;> simp
    · simp only [if_neg a, if_neg c]
      by_cases d : x 6 = 3
      · by_cases e : y 6 = 3
        · simp only [if_pos d, if_pos e, if_true, true_and]
          (repeat' split) <;> omega
        · simp only [if_pos d, if_neg e]
          simp
      · by_cases e : y 6 = 3
        · simp only [if_neg d, if_pos e]
          simp
        · simp only [if_neg d, if_neg e, if_true, true_and]
          (repeat' split) <;> omega
theorem z_sm_mono {f g : Nat → Nat} : ∀ (k w : Nat), (∀ i, w ≤ i → i < w + k → f i ≤ g i) → z_sm f w k ≤ z_sm g w k := by
  intro k
  induction k with
  | zero => intro w h; exact Nat.le_refl _
  | succ k ih =>
    intro w h
    have h1 := h w (Nat.le_refl _) (by omega)
    have h2 := ih (w + 1) (fun i a c => h i (by omega) (by omega))
    show f w + z_sm f (w + 1) k ≤ g w + z_sm g (w + 1) k
    omega
theorem z_sm_lt {f g : Nat → Nat} {i : Nat} : ∀ (k w : Nat), (∀ i, w ≤ i → i < w + k → f i ≤ g i) → w ≤ i → i < w + k → f i < g i → z_sm f w k < z_sm g w k := by
  intro k
  induction k with
  | zero => intro w h h1 h2; omega
  | succ k ih =>
    intro w h h1 h2 h3
    show f w + z_sm f (w + 1) k < g w + z_sm g (w + 1) k
    by_cases e : i = w
    · subst e
      have := z_sm_mono k (i + 1) (fun j a c => h j (by omega) (by omega))
      omega
    · have h4 := h w (Nat.le_refl _) (by omega)
      have := ih (w + 1) (fun j a c => h j (by omega) (by omega)) (by omega) (by omega) h3
      omega
theorem z_rk_lt {t : Nat → Nat → Nat} {n i w : Nat} (hi : i < n) (hw : w < n) (h7 : ∀ j, j < n → t j 7 < 100000000) (h : z_ah (t i) (t w) = 1) : z_rk t n i < z_rk t n w := by
  unfold z_rk
  refine z_sm_lt (i := i) n 0 (fun j _ hj => ?_) (Nat.zero_le _) (by omega) (by rw [z_ahs, h]; decide)
  have h1 := z_ah1 (t j) (t i)
  have h2 := z_ah1 (t j) (t w)
  rcases (show z_ah (t j) (t i) = 0 ∨ z_ah (t j) (t i) = 1 by omega) with e | e
  · omega
  · have a1 := (z_ah_iff (h7 j (by omega)) (h7 i hi)).mp e
    have a2 := (z_ah_iff (h7 i hi) (h7 w hw)).mp h
    have a3 := (z_ah_iff (h7 j (by omega)) (h7 w hw)).mpr (by omega)
    omega
theorem z_V.p7 {k : Nat} {b : Nat → Nat} {t : Nat → Nat → Nat} (h : z_V k b t) : ∀ j, j < b 3 → t j 7 < 100000000 := fun j hj => by
  have h1 := (h.te j hj).ps
  have h2 := z_mE (h.te j hj).lg h.l1
  omega
theorem z_V.l4 {k : Nat} {b : Nat → Nat} {t : Nat → Nat → Nat} (h : z_V k b t) {i w : Nat} (hi : i < b 3) (hw : w < b 3) (e : i ≠ w) : t i 4 ≠ t w 4 := by
  rcases Nat.lt_or_ge i w with a | a
  · exact (h.ls w hw).2 i a
  · exact fun q => (h.ls i hi).2 w (by omega) q.symm
theorem z_rk_ne {k : Nat} {b : Nat → Nat} {t : Nat → Nat → Nat} (h : z_V k b t) {i w : Nat} (hi : i < b 3) (hw : w < b 3) (e : i ≠ w) : z_rk t (b 3) i ≠ z_rk t (b 3) w := by
  have h7 := h.p7
  have hl := h.l4 hi hw e
  by_cases q : z_ah (t i) (t w) = 1
  · have := z_rk_lt hi hw h7 q
    omega
  · have q2 : z_ah (t w) (t i) = 1 := by
      rw [z_ah_iff (h7 i hi) (h7 w hw)] at q
      rw [z_ah_iff (h7 w hw) (h7 i hi)]
      omega
    have := z_rk_lt hw hi h7 q2
    omega
theorem z_rk_le {k : Nat} {b : Nat → Nat} {t : Nat → Nat → Nat} (h : z_V k b t) (w : Nat) : z_rk t (b 3) w ≤ 6 := by
  have h1 := z_sm_le (f := fun i => z_ah (t i) (t w)) 1 (b 3) 0 (fun i _ _ => z_ah1 _ _)
  have h2 := h.n6
  unfold z_rk
  omega
theorem a_rankL {k w : Nat} {σ : q_M} {b : Nat → Nat} {t : Nat → Nat → Nat} (hR : z_R σ 0 b t) (hV : z_V k b t) (hk : k ≤ 20000) (hw : w < b 3) : ∀ (nn j : Nat), 7 ≤ nn + j → j ≤ w → PL_X4_numberAtRank_11 0 (nI (z_rk t (b 3) w)) nn (nI j) σ ∧ FL_X4_numberAtRank_11 0 (nI (z_rk t (b 3) w)) nn (nI j) σ = nI w := by
  have n6 := hV.n6
  intro nn
  induction nn with
  | zero => intro j h1 h2; omega
  | succ nn ih =>
    intro j h1 h2
    have ej : nI j + 1 = nI (j + 1) := by rw [z_l1, z_add]
    have h6 : j < 6 := by omega
    have hj : j < b 3 := by omega
    have e6 : nI j < 6 := nI_lt (b := 6) h6 (by decide)
    have hc : (nI j).toNatClampNeg = j := nI_clamp (by omega)
    unfold PL_X4_numberAtRank_11 FL_X4_numberAtRank_11
    rw [if_pos e6, hc, z_place, ej]
    have hT := hR.te j h6 hj
    have hst := (hV.te j hj).st
    have es : ¬ σ (0 + 2 + 3 * j) 3 = 0 := by rw [hT.st]; exact nI_ne0 (by omega) (by omega)
    obtain ⟨p1, p2⟩ := z_ca hR hV hk hj
    rw [if_neg es, p2, hT.no]
    have b1 := z_rk_le hV j
    have b2 := z_rk_le hV w
    by_cases e : j = w
    · subst e
      rw [if_pos rfl]
      exact ⟨⟨fun _ => ⟨z_in h6 (by decide), fun z => absurd z es, fun _ => ⟨p1, fun _ => trivial, fun z => absurd rfl z⟩⟩, fun z => absurd e6 z⟩, rfl⟩
    · have hq : ¬ nI (z_rk t (b 3) j) = nI (z_rk t (b 3) w) := fun q => z_rk_ne hV hj hw e ((nI_eq (by omega) (by omega)).mp q)
      obtain ⟨i1, i2⟩ := ih (j + 1) (by omega) (by omega)
      rw [if_neg hq]
      exact ⟨⟨fun _ => ⟨z_in h6 (by decide), fun z => absurd z es, fun _ => ⟨p1, fun z => absurd z hq, fun _ => i1⟩⟩, fun z => absurd e6 z⟩, i2⟩
theorem a_atRank {k w : Nat} {σ : q_M} {b : Nat → Nat} {t : Nat → Nat → Nat} (hR : z_R σ 0 b t) (hV : z_V k b t) (hk : k ≤ 20000) (hw : w < b 3) : Q_teamAtRank (nI (z_rk t (b 3) w)) σ ∧ W_teamAtRank (nI (z_rk t (b 3) w)) σ = nI w := by
  have n6 := hV.n6
  obtain ⟨p, e⟩ := a_rankL hR hV hk hw 10 0 (by decide) (Nat.zero_le _)
  have e : F_X4_numberAtRank 0 (nI (z_rk t (b 3) w)) σ = nI w := e
  have ef : F_X8_teamAtRank (nI (z_rk t (b 3) w)) σ = .inl (nI w) := by
    unfold F_X8_teamAtRank q_L
    rw [e]
    exact if_neg (z_nm1 (by omega))
  exact ⟨⟨⟨p, trivial⟩, fun E q => by rw [ef] at q; injection q⟩, by unfold W_teamAtRank; rw [ef]⟩
theorem a_laneL {k w : Nat} {σ : q_M} {b : Nat → Nat} {t : Nat → Nat → Nat} (hR : z_R σ 0 b t) (hV : z_V k b t) (hw : w < b 3) : ∀ (nn j : Nat), 7 ≤ nn + j → j ≤ w → PL_X4_numberInLane_11 0 (nI (t w 4)) nn (nI j) σ ∧ FL_X4_numberInLane_11 0 (nI (t w 4)) nn (nI j) σ = nI w := by
  have n6 := hV.n6
  intro nn
  induction nn with
  | zero => intro j h1 h2; omega
  | succ nn ih =>
    intro j h1 h2
    have ej : nI j + 1 = nI (j + 1) := by rw [z_l1, z_add]
    have h6 : j < 6 := by omega
    have hj : j < b 3 := by omega
    have e6 : nI j < 6 := nI_lt (b := 6) h6 (by decide)
    have hc : (nI j).toNatClampNeg = j := nI_clamp (by omega)
    unfold PL_X4_numberInLane_11 FL_X4_numberInLane_11
    rw [if_pos e6, hc, z_place, ej]
    have hT := hR.te j h6 hj
    have hst := (hV.te j hj).st
    have es : ¬ σ (0 + 2 + 3 * j) 3 = 0 := by rw [hT.st]; exact nI_ne0 (by omega) (by omega)
    rw [if_neg es, hT.ln, hT.no]
    have b1 := (hV.te j hj).ln
    have b2 := (hV.te w hw).ln
    by_cases e : j = w
    · subst e
      rw [if_pos rfl]
      exact ⟨⟨fun _ => ⟨z_in h6 (by decide), fun z => absurd z es, fun _ => ⟨fun _ => trivial, fun z => absurd rfl z⟩⟩, fun z => absurd e6 z⟩, rfl⟩
    · have hq : ¬ nI (t j 4) = nI (t w 4) := fun q => hV.l4 hj hw e ((nI_eq (by omega) (by omega)).mp q)
      obtain ⟨i1, i2⟩ := ih (j + 1) (by omega) (by omega)
      rw [if_neg hq]
      exact ⟨⟨fun _ => ⟨z_in h6 (by decide), fun z => absurd z es, fun _ => ⟨fun z => absurd z hq, fun _ => i1⟩⟩, fun z => absurd e6 z⟩, i2⟩
theorem a_inLane {k w : Nat} {σ : q_M} {b : Nat → Nat} {t : Nat → Nat → Nat} (hR : z_R σ 0 b t) (hV : z_V k b t) (hw : w < b 3) : Q_teamInLane (nI (t w 4)) σ ∧ W_teamInLane (nI (t w 4)) σ = nI w := by
  have n6 := hV.n6
  obtain ⟨p, e⟩ := a_laneL hR hV hw 10 0 (by decide) (Nat.zero_le _)
  have e : F_X4_numberInLane 0 (nI (t w 4)) σ = nI w := e
  have ef : F_X8_teamInLane (nI (t w 4)) σ = .inl (nI w) := by
    unfold F_X8_teamInLane q_L
    rw [e]
    exact if_neg (z_nm1 (by omega))
  exact ⟨⟨⟨p, trivial⟩, fun E q => by rw [ef] at q; injection q⟩, by unfold W_teamInLane; rw [ef]⟩
theorem a_rankOf {k w : Nat} {σ : q_M} {b : Nat → Nat} {t : Nat → Nat → Nat} (hR : z_R σ 0 b t) (hV : z_V k b t) (hk : k ≤ 20000) (hw : w < b 3) : P_N8_rankOf (nI w) σ ∧ F_N8_rankOf (nI w) σ = nI (z_rk t (b 3) w) := by
  obtain ⟨p1, p2⟩ := z_ca hR hV hk hw
  have e : F_X8_rankOf (nI w) σ = .inl (nI (z_rk t (b 3) w)) := by
    unfold F_X8_rankOf
    rw [z_tw1 hR hV hw]
    exact congrArg Sum.inl p2
  refine ⟨⟨fun r hr => ?_, _, e⟩, by unfold F_N8_rankOf; rw [e]; rfl⟩
  rw [z_tw1 hR hV hw] at hr
  subst hr
  exact ⟨p1, trivial⟩
def z_sp (x : Nat → Nat) (j : Nat) : Nat := x (14 + j) - 1
theorem a_splitSum {k w : Nat} {σ : q_M} {b : Nat → Nat} {t : Nat → Nat → Nat} (hR : z_R σ 0 b t) (hV : z_V k b t) (hw : w < b 3) : P_N8_splitSum (nI w) σ ∧ F_N8_splitSum (nI w) σ = nI (z_sm (z_sp (t w)) 0 4) := by
  have n6 := hV.n6
  have h6 : w < 6 := by omega
  have hT := hR.te w h6 hw
  obtain ⟨q1, q2⟩ := z_spC hT (by omega) (nI w) 8 0 0 (by decide) (by decide)
  have e4 : nI (q_len (0 + 2 + 3 * w + 2)) = nI 4 := by rw [z_len (by omega)]
  have e : F_X8_splitSum (nI w) σ = .inl (nI (z_sm (z_sp (t w)) 0 4)) := by
    unfold F_X8_splitSum q_L
    rw [z_tw1 hR hV hw]
    dsimp only
    rw [e4]
    exact q2.trans (congrArg (fun x => Sum.inl (nI x)) (Nat.zero_add _))
  refine ⟨⟨fun r hr => ?_, _, e⟩, by unfold F_N8_splitSum; rw [e]; rfl⟩
  rw [z_tw1 hR hV hw] at hr
  subst hr
  intro x3 h3
  rw [e4] at h3
  subst h3
  exact q1
