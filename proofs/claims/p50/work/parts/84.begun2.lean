/-! begun. -/
theorem q_L2r {α β γ : Type} {X : α × β} {f : α → β → γ} {a : α} {c : β} (e : X = (a, c)) : q_L2 X f = f a c := by rw [e]; rfl
theorem z_C.k {k k' : Nat} {σ : q_M} {b : Nat → Nat} {t : Nat → Nat → Nat} {nw sz : Nat} {hb : Nat → Nat → Nat} {ht : Nat → Nat → Nat → Nat} {sb : Nat → Nat} {st : Nat → Nat → Nat} (h : z_C k σ b t nw sz hb ht sb st) (hk : k ≤ k') : z_C k' σ b t nw sz hb ht sb st := h.mv hk (fun _ _ _ => rfl) rfl rfl rfl rfl
theorem z_S.k {k k' n : Nat} {σ : q_M} (h : z_S k n σ) (hk : k ≤ k') : z_S k' n σ := by
  obtain ⟨b, t, nw, sz, hb, ht, sb, st, hn, hC⟩ := h
  exact ⟨b, t, nw, sz, hb, ht, sb, st, hn, hC.k hk⟩
theorem b_22 (ζ : Nat → Nat) {T : Nat} (hT : T ≤ 6) : ∀ (nn j : Nat) (v : Int32) (τ : q_M), nn + j = 7 → j ≤ T → z_S j 1 τ → z_bd j v → PL_L_begun_22 ζ (nI T) nn v (nI j) τ ∧ ∃ v' τ', FL_L_begun_22 ζ (nI T) nn v (nI j) τ = (v', τ') ∧ z_S 6 1 τ' ∧ z_bd 6 v' := by
  intro nn
  induction nn with
  | zero => intro j v τ h1 h2; omega
  | succ nn ih =>
    intro j v τ h1 h2 hS hv
    rcases Nat.lt_or_ge j T with hj | hj
    · have c : nI j < nI T := nI_lt hj (by omega)
      obtain ⟨qA, sA, bA⟩ := d_addTeam (by omega) hS
      obtain ⟨i1, v', τ', i2, i3, i4⟩ := ih (j + 1) (v + (W_addTeam τ).1) (W_addTeam τ).2 (by omega) (by omega) sA (hv.add bA (by omega))
      rw [← nI_1] at i1 i2
      refine ⟨⟨fun _ => ⟨qA, fun σ65 h65 x67 h67 x69 h69 => ?_⟩, fun q => absurd c q⟩, v', τ', (if_pos c).trans i2, i3, i4⟩
      subst h65
      subst h67
      subst h69
      exact i1
    · have c : ¬ nI j < nI T := nI_nlt hj (by omega)
      exact ⟨⟨fun q => absurd q c, fun _ => trivial⟩, v, τ, if_neg c, hS.k (by omega), hv.mono (by omega)⟩
theorem b_44 (ζ : Nat → Nat) (h336 : ζ 336 ≤ 260) {T : Nat} (hT : T ≤ 6) (hT0 : 0 < T) : ∀ (nn j : Nat) (v : Int32) (τ : q_M), nn + j = 11 → j ≤ 10 → z_S (6 + j) 1 τ → z_bd (6 + j) v → PL_L_begun_44 ζ (nI T) nn v (nI j) τ ∧ ∃ v' τ', FL_L_begun_44 ζ (nI T) nn v (nI j) τ = (v', τ') ∧ z_S 16 1 τ' ∧ z_bd 16 v' := by
  intro nn
  induction nn with
  | zero => intro j v τ h1 h2; omega
  | succ nn ih =>
    intro j v τ h1 h2 hS hv
    have e10 : (10 : Int32) = nI 10 := rfl
    rcases Nat.lt_or_ge j 10 with hj | hj
    · have c : nI j < 10 := by rw [e10]; exact nI_lt hj (by decide)
      have n1 : ¬ (1 + nI j) < 0 := by rw [z_l1, z_add]; exact nI_pos (by omega)
      have n2 : ¬ (11 + nI j) < 0 := by
        show ¬ (nI 11 + nI j) < 0
        rw [z_add]; exact nI_pos (by omega)
      have n3 : ¬ (21 + nI j) < 0 := by
        show ¬ (nI 21 + nI j) < 0
        rw [z_add]; exact nI_pos (by omega)
      have p1 := (a_in ζ (1 + nI j) τ h336 hT0 (by omega) n1).1
      have p2 := (a_in ζ (11 + nI j) (n := 4) τ h336 (by decide) (by decide) n2).1
      have p3 := (a_in ζ (21 + nI j) (n := 80) τ h336 (by decide) (by decide) n3).1
      obtain ⟨qA, sA, bA⟩ := d_setSpeed (by omega) hS (F_L_in ζ (1 + nI j) (nI T) τ) (F_L_in ζ (11 + nI j) 4 τ) (20 + F_L_in ζ (21 + nI j) 80 τ)
      obtain ⟨i1, v', τ', i2, i3, i4⟩ := ih (j + 1) _ _ (by omega) (by omega) sA (hv.add bA (by omega))
      rw [← nI_1] at i1 i2
      refine ⟨⟨fun _ => ⟨p1, fun x72 h72 => ⟨p2, fun x74 h74 => ⟨p3, fun x76 h76 => ?_⟩⟩⟩, fun q => absurd c q⟩, v', τ', (if_pos c).trans i2, i3, i4⟩
      subst h72
      subst h74
      subst h76
      refine ⟨qA, fun σ78 h78 x80 h80 x82 h82 => ?_⟩
      subst h78
      subst h80
      subst h82
      exact i1
    · obtain rfl : j = 10 := by omega
      have c : ¬ nI 10 < 10 := by rw [e10]; exact nI_nlt (Nat.le_refl _) (by decide)
      exact ⟨⟨fun q => absurd q c, fun _ => trivial⟩, v, τ, if_neg c, hS, hv⟩
theorem q_LG {α β : Type} {X : α} {f : α → β} {G : β → Prop} (h : ∀ x, X = x → G (f x)) : G (q_L X f) := h X rfl
theorem q_L2G {α β γ : Type} {X : α × β} {f : α → β → γ} {G : γ → Prop} (h : ∀ a c, X = (a, c) → G (f a c)) : G (q_L2 X f) := h X.1 X.2 rfl
def z_G (r : Int32 × q_M) : Prop := z_bd 20 r.1 ∧ z_S 20 1 r.2
theorem b_pre (ζ : Nat → Nat) (h336 : ζ 336 ≤ 260) : P_L_in ζ 0 5 q_s0 ∧ ∃ T, T ≤ 6 ∧ 2 + F_L_in ζ 0 5 q_s0 = nI T ∧ PL_L_begun_22 ζ (nI T) 7 0 0 q_s0 ∧ ∃ y6 σ5, FL_L_begun_22 ζ (nI T) 7 0 0 q_s0 = (y6, σ5) ∧ PL_L_begun_44 ζ (nI T) 11 y6 0 σ5 ∧ ∃ y9 σ8, FL_L_begun_44 ζ (nI T) 11 y6 0 σ5 = (y9, σ8) ∧ z_S 16 1 σ8 ∧ z_bd 16 y9 := by
  obtain ⟨pT, a, ha, eT⟩ := a_in ζ (nI 0) (n := 5) q_s0 h336 (by decide) (by decide) (nI_pos (by decide))
  have e3 : (2 : Int32) + F_L_in ζ (nI 0) (nI 5) q_s0 = nI (2 + a) := by rw [eT, z_l2, z_add]
  obtain ⟨qF, sF, bF⟩ := z_first
  have c0 : nI 0 < nI (2 + a) := nI_lt (by omega) (by omega)
  have z0x : ∀ x : Int32, nI 0 + x = x := fun x => by rw [← z_l0, Int32.zero_add]
  obtain ⟨i1, y6, σ5, i2, i3, i4⟩ := b_22 ζ (T := 2 + a) (by omega) 6 1 (W_addTeam q_s0).1 (W_addTeam q_s0).2 rfl (by omega) sF bF
  have i1 : PL_L_begun_22 ζ (nI (2 + a)) 6 (W_addTeam q_s0).1 (nI 0 + 1) (W_addTeam q_s0).2 := by rw [nI_1]; exact i1
  have i2 : FL_L_begun_22 ζ (nI (2 + a)) 6 (W_addTeam q_s0).1 (nI 0 + 1) (W_addTeam q_s0).2 = (y6, σ5) := by rw [nI_1]; exact i2
  have f22 : FL_L_begun_22 ζ (nI (2 + a)) 7 (nI 0) (nI 0) q_s0 = (y6, σ5) := by
    refine (if_pos c0).trans ((q_Lr rfl).trans ((q_Lr rfl).trans ((q_Lr (z0x _)).trans i2)))
  have p22 : PL_L_begun_22 ζ (nI (2 + a)) 7 (nI 0) (nI 0) q_s0 := by
    refine ⟨fun _ => ⟨qF, fun σ65 h65 x67 h67 x69 h69 => ?_⟩, fun q => absurd c0 q⟩
    subst h65
    subst h67
    rw [z0x] at h69
    subst h69
    exact i1
  obtain ⟨j1, y9, σ8, j2, j3, j4⟩ := b_44 ζ h336 (T := 2 + a) (by omega) (by omega) 11 0 y6 σ5 rfl (by decide) i3 i4
  exact ⟨pT, 2 + a, by omega, e3, p22, y6, σ5, f22, j1, y9, σ8, j2, j3, j4⟩
theorem b_SR (ζ : Nat → Nat) {k : Nat} {σ : q_M} (hk : k < 1000) (hS : z_S k 1 σ) : Q_start σ ∧ ∀ σ1 x1, (W_start σ).2 = σ1 → (W_start σ).1 = x1 → ∀ g, Q_run g σ1 ∧ ∀ σ2 x2, (W_run g σ1).2 = σ2 → (W_run g σ1).1 = x2 → z_S (k + 2) 1 σ2 ∧ z_bd 2 (x1 + x2) := by
  obtain ⟨q1, s1, b1⟩ := d_start (by omega) hS
  refine ⟨q1, fun σ1 x1 h1 h2 g => ?_⟩
  rw [h1] at s1
  rw [h2] at b1
  obtain ⟨q2, s2, b2⟩ := d_run (by omega) s1 g
  refine ⟨q2, fun σ2 x2 h3 h4 => ?_⟩
  rw [h3] at s2
  rw [h4] at b2
  exact ⟨s2, b1.add b2 (by decide)⟩
theorem b_P (ζ : Nat → Nat) (h336 : ζ 336 ≤ 260) : P_L_begun ζ q_s0 := by
  obtain ⟨pT, T, hT, e3, p22, y6, σ5, f22, j1, y9, σ8, j2, j3, j4⟩ := b_pre ζ h336
  have hin : ∀ (i : Nat) (n : Nat) (σ : q_M), i < 100 → 0 < n → n < 2 ^ 31 → P_L_in ζ (nI i) (nI n) σ := fun i n σ hi h0 h1 => (a_in ζ (nI i) σ h336 h0 h1 (nI_pos (by omega))).1
  have p31 : P_L_in ζ 31 300 σ8 := hin 31 300 σ8 (by decide) (by decide) (by decide)
  have p32 : ∀ σ, P_L_in ζ 32 2 σ := fun σ => hin 32 2 σ (by decide) (by decide) (by decide)
  have p33 : ∀ σ, P_L_in ζ 33 1000 σ := fun σ => hin 33 1000 σ (by decide) (by decide) (by decide)
  have p34 : ∀ σ, P_L_in ζ 34 6 σ := fun σ => hin 34 6 σ (by decide) (by decide) (by decide)
  have p35 : ∀ σ, P_L_in ζ 35 14 σ := fun σ => hin 35 14 σ (by decide) (by decide) (by decide)
  refine ⟨pT, fun x1 h1 x3 h3 => ?_⟩
  rw [← h1, e3] at h3
  subst h3
  refine ⟨p22, fun y σ h => ?_⟩
  rw [f22] at h
  cases h
  refine ⟨j1, fun y σ h => ?_⟩
  rw [j2] at h
  cases h
  refine ⟨p31, fun x11 h11 => ?_⟩
  obtain ⟨qL, sL, bL⟩ := d_setLength (by decide) j3 (400 + x11)
  refine ⟨qL, fun σ13 h13 x15 h15 => ⟨p32 _, fun x17 h17 => ⟨fun _ => ⟨p33 _, fun x20 h20 => ?_⟩, fun _ x45 h45 => ⟨p34 _, fun x47 h47 => ⟨fun _ => ?_, fun _ => trivial⟩⟩⟩⟩⟩
  · rw [h13] at sL
    obtain ⟨qD, sD, bD⟩ := d_drawLanes (by decide) sL x20
    refine ⟨qD, fun σ22 h22 x24 h24 x26 h26 => ⟨p34 _, fun x28 h28 => ⟨fun _ => ?_, fun _ => trivial⟩⟩⟩
    rw [h22] at sD
    obtain ⟨q1, q2⟩ := b_SR ζ (by decide) sD
    exact ⟨q1, fun σ31 h31 x33 h33 => ⟨p35 _, fun x35 h35 => ⟨(q2 _ _ h31 h33 _).1, trivial⟩⟩⟩
  · rw [h13] at sL
    obtain ⟨q1, q2⟩ := b_SR ζ (by decide) sL
    exact ⟨q1, fun σ50 h50 x52 h52 => ⟨p35 _, fun x54 h54 => ⟨(q2 _ _ h50 h52 _).1, trivial⟩⟩⟩
theorem b_F (ζ : Nat → Nat) (h336 : ζ 336 ≤ 260) : z_G (F_L_begun ζ q_s0) := by
  obtain ⟨pT, T, hT, e3, p22, y6, σ5, f22, j1, y9, σ8, j2, j3, j4⟩ := b_pre ζ h336
  unfold F_L_begun
  refine q_LG (G := z_G) (fun x1 h1 => ?_)
  refine q_LG (G := z_G) (fun x3 h3 => ?_)
  rw [← h1, e3] at h3
  subst h3
  refine q_L2G (G := z_G) (fun y σ h => ?_)
  rw [f22] at h
  cases h
  refine q_L2G (G := z_G) (fun y σ h => ?_)
  rw [j2] at h
  cases h
  refine q_LG (G := z_G) (fun x11 h11 => ?_)
  obtain ⟨qL, sL, bL⟩ := d_setLength (by decide) j3 (400 + x11)
  refine q_LG (G := z_G) (fun σ13 h13 => ?_)
  refine q_LG (G := z_G) (fun x15 h15 => ?_)
  rw [h13] at sL
  rw [h15] at bL
  refine q_LG (G := z_G) (fun x17 h17 => ?_)
  by_cases c17 : x17 = 0
  · rw [if_pos c17]
    refine q_LG (G := z_G) (fun x20 h20 => ?_)
    obtain ⟨qD, sD, bD⟩ := d_drawLanes (by decide) sL x20
    refine q_LG (G := z_G) (fun σ22 h22 => ?_)
    refine q_LG (G := z_G) (fun x24 h24 => ?_)
    rw [h22] at sD
    rw [h24] at bD
    refine q_LG (G := z_G) (fun x26 h26 => ?_)
    have b26 : z_bd 18 x26 := by rw [← h26]; exact j4.add (bL.add bD (by decide)) (by decide)
    refine q_LG (G := z_G) (fun x28 h28 => ?_)
    by_cases c28 : 0 < x28
    · rw [if_pos c28]
      obtain ⟨q1, q2⟩ := b_SR ζ (by decide) sD
      refine q_LG (G := z_G) (fun σ31 h31 => ?_)
      refine q_LG (G := z_G) (fun x33 h33 => ?_)
      refine q_LG (G := z_G) (fun x35 h35 => ?_)
      refine q_LG (G := z_G) (fun σ37 h37 => ?_)
      refine q_LG (G := z_G) (fun x39 h39 => ?_)
      refine q_LG (G := z_G) (fun x41 h41 => ?_)
      obtain ⟨s1, b1⟩ := (q2 _ _ h31 h33 _).2 _ _ h37 h39
      exact ⟨by show z_bd 20 x41; rw [← h41]; exact b26.add b1 (by decide), s1.k (by decide)⟩
    · rw [if_neg c28]
      refine q_LG (G := z_G) (fun x43 h43 => ?_)
      exact ⟨by show z_bd 20 x43; rw [← h43, Int32.add_zero]; exact b26.mono (by decide), sD.k (by decide)⟩
  · rw [if_neg c17]
    refine q_LG (G := z_G) (fun x45 h45 => ?_)
    have b26 : z_bd 17 x45 := by rw [← h45, Int32.add_zero]; exact j4.add bL (by decide)
    refine q_LG (G := z_G) (fun x47 h47 => ?_)
    by_cases c28 : 0 < x47
    · rw [if_pos c28]
      obtain ⟨q1, q2⟩ := b_SR ζ (by decide) sL
      refine q_LG (G := z_G) (fun σ50 h50 => ?_)
      refine q_LG (G := z_G) (fun x52 h52 => ?_)
      refine q_LG (G := z_G) (fun x54 h54 => ?_)
      refine q_LG (G := z_G) (fun σ56 h56 => ?_)
      refine q_LG (G := z_G) (fun x58 h58 => ?_)
      refine q_LG (G := z_G) (fun x60 h60 => ?_)
      obtain ⟨s1, b1⟩ := (q2 _ _ h50 h52 _).2 _ _ h56 h58
      exact ⟨by show z_bd 20 x60; rw [← h60]; exact (b26.add b1 (by decide)).mono (by decide), s1.k (by decide)⟩
    · rw [if_neg c28]
      refine q_LG (G := z_G) (fun x62 h62 => ?_)
      exact ⟨by show z_bd 20 x62; rw [← h62, Int32.add_zero]; exact b26.mono (by decide), sL.k (by decide)⟩
def z_I (k : Nat) (σ : q_M) : Prop := k ≤ 12 ∧ z_S (40 * (k + 1)) 1 σ
theorem b_OK (ζ : Nat → Nat) (h336 : ζ 336 ≤ 260) : P_L_begun ζ q_s0 ∧ ¬ (F_L_begun ζ q_s0).1 < -90000000 ∧ z_I 0 (F_L_begun ζ q_s0).2 := by
  obtain ⟨h2, h3⟩ := b_F ζ h336
  exact ⟨b_P ζ h336, (h2.ok (by decide)).1, by decide, h3.k (by decide)⟩
theorem i_OK {k : Nat} {σ : q_M} (h : z_I k σ) : P_L_isWell σ ∧ F_L_isWell σ = 1 ∧ q_sOK σ := by
  obtain ⟨hk, b, t, nw, sz, hb, ht, sb, st, -, hR, -, -, hV, -⟩ := h
  obtain ⟨h1, h2⟩ := w_isWell hR hV (by omega)
  exact ⟨h1, h2, s_OK hR hV⟩
