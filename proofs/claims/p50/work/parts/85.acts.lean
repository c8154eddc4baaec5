/-! acts. -/
theorem q_if {c : Prop} [Decidable c] {α : Type} {x y : α} {G : α → Prop} (h1 : c → G x) (h2 : ¬ c → G y) : G (if c then x else y) := by
  by_cases h : c
  · rw [if_pos h]; exact h1 h
  · rw [if_neg h]; exact h2 h
theorem q_LW (y : Int32 × q_M) : q_L y.2 (fun σ1 : q_M => q_L y.1 (fun x : Int32 => (x, σ1))) = y := rfl
theorem z_wo.k {k k' : Nat} {b : Nat → Nat} {t : Nat → Nat → Nat} {nw sz : Nat} {hb : Nat → Nat → Nat} {ht : Nat → Nat → Nat → Nat} {sb : Nat → Nat} {st : Nat → Nat → Nat} {y : Int32 × q_M} (h : z_wo k b t nw sz hb ht sb st y) (hk : k ≤ k') : z_wo k' b t nw sz hb ht sb st y := by
  rcases h with ⟨h1, h2⟩ | ⟨res, b', t', h1, h2, h3, h4⟩
  · exact .inl ⟨h1, h2.k (by omega)⟩
  · exact .inr ⟨res, b', t', h1, h2, h3, h4.k (by omega)⟩
theorem a_stz {k w : Nat} {σ : q_M} {b : Nat → Nat} {t : Nat → Nat → Nat} (hR : z_R σ 0 b t) (hV : z_V k b t) (hk : k ≤ 20000) (hw : w < b 3) : Q_secondsToZone (nI w) σ := by
  have n6 := hV.n6
  obtain ⟨r, -, p, e, -⟩ := z_szP hR hw (by omega) hV hk
  constructor
  · intro r hr
    rw [z_tw1 hR hV hw] at hr
    subst hr
    exact ⟨fun _ => ⟨fun _ => ⟨p, trivial⟩, fun _ => trivial⟩, fun _ => trivial⟩
  · intro E q
    unfold F_X8_secondsToZone at q
    rw [z_tw1 hR hV hw] at q
    dsimp only at q
    split at q
    · split at q
      · injection q
      · injection q with q
        rw [← q]
        simp
    · injection q with q
      rw [← q]
      simp
/-- what the typed programs do -/
def z_says : Prop := ∀ (k : Nat) (σ : q_M) (b : Nat → Nat) (t : Nat → Nat → Nat) (nw sz : Nat) (hb : Nat → Nat → Nat) (ht : Nat → Nat → Nat → Nat) (sb : Nat → Nat) (st : Nat → Nat → Nat) (c x y : Nat), k < 10000 → c < 60 → x < 7 → y < 7 → z_C k σ b t nw sz hb ht sb st → P_says (nI c) (nI x) (nI y) σ ∧ z_wo (k + 38) b t nw sz hb ht sb st (F_says (nI c) (nI x) (nI y) σ)
theorem a_acts (hX : z_says) (ζ : Nat → Nat) (h336 : ζ 336 ≤ 260) {i : Nat} (hi : i < 200) {k : Nat} {σ : q_M} {b : Nat → Nat} {t : Nat → Nat → Nat} {nw sz : Nat} {hb : Nat → Nat → Nat} {ht : Nat → Nat → Nat → Nat} {sb : Nat → Nat} {st : Nat → Nat → Nat} (hk : k < 10000) (hC : z_C k σ b t nw sz hb ht sb st) : P_L_acts ζ (nI i) σ ∧ z_wo (k + 38) b t nw sz hb ht sb st (F_L_acts ζ (nI i) σ) := by
  have hR := hC.1
  have hV := hC.2.2.2.1
  have n6 := hV.n6
  have i1 : ¬ (nI i + 1) < 0 := by rw [z_l1, z_add]; exact nI_pos (by omega)
  have i2 : ¬ (nI i + 2) < 0 := by rw [z_l2, z_add]; exact nI_pos (by omega)
  have i3 : ¬ (nI i + 3) < 0 := by rw [z_l3, z_add]; exact nI_pos (by omega)
  obtain ⟨p1, x, hx, e1⟩ := a_in ζ (nI i + 1) (n := 7) σ h336 (by decide) (by decide) i1
  obtain ⟨p2, y, hy, e2⟩ := a_in ζ (nI i + 2) (n := 7) σ h336 (by decide) (by decide) i2
  obtain ⟨p3, c, hc, e3⟩ := a_in ζ (nI i + 3) (n := 60) σ h336 (by decide) (by decide) i3
  obtain ⟨p4, d, hd, e4⟩ := a_in ζ (nI i) (n := 26) σ h336 (by decide) (by decide) (nI_pos (by omega))
  obtain ⟨hs1, hs2⟩ := hX k σ b t nw sz hb ht sb st c x y hk hc hx hy hC
  have hk2 : k < 20000 := by omega
  have cA := c_addTeam hk2 hC
  have cS := fun a b c => c_setSpeed hk2 hC a b c
  have cL := fun a => c_setLength hk2 hC a
  have cD := fun a => c_drawLanes hk2 hC a
  have cB := c_start hk2 hC
  have cR := fun a => c_run hk2 hC a
  have cP := fun a => c_pass hk2 hC a
  have cO := fun a b => c_drop hk2 hC a b
  have cW := fun a => c_withdraw hk2 hC a
  have cJ := fun a b c => c_protest hk2 hC a b c
  have sta := a_started hR hV
  have ct := a_count hR hV
  have hz : ∀ {x : Int32}, nI d = x → True := fun _ => trivial
  constructor
  · refine ⟨p1, fun x1 h1 => ⟨p2, fun x3 h3 => ⟨p3, fun x5 h5 => ⟨p4, fun x7 h7 => ?_⟩⟩⟩⟩
    have h1 := e1.symm.trans h1
    have h3 := e2.symm.trans h3
    have h5 := e3.symm.trans h5
    refine ⟨fun _ => ⟨cA.1, trivial⟩, fun _ => ⟨fun _ => ⟨(cS _ _ _).1, trivial⟩, fun _ => ⟨fun _ => ⟨(cL _).1, trivial⟩, fun _ => ⟨fun _ => ⟨(cD _).1, trivial⟩, fun _ => ⟨fun _ => ⟨cB.1, trivial⟩, fun _ => ⟨fun _ => ⟨trivial, fun x36 _ => ⟨(cR _).1, trivial⟩⟩, fun _ => ⟨fun _ => ⟨sta.1, fun x43 h43 => ⟨fun _ => ⟨(cP _).1, trivial⟩, fun _ => ⟨ct.1, fun x50 h50 => ⟨fun q => ?_, fun _ => ⟨(cP _).1, trivial⟩⟩⟩⟩⟩, fun _ => ⟨fun _ => ⟨(cP _).1, trivial⟩, fun _ => ⟨fun _ => ⟨(cO _ _).1, trivial⟩, fun _ => ⟨fun _ => ⟨(cW _).1, trivial⟩, fun _ => ⟨fun _ => ⟨(cJ _ _ _).1, trivial⟩, fun _ => ?_⟩⟩⟩⟩⟩⟩⟩⟩⟩⟩⟩
    · have h50 := ct.2.symm.trans h50
      rw [← h1, ← h50] at q
      have hw : x < b 3 := (nI_ltI (by omega) (by omega)).mp q
      rw [← h1]
      have sz := a_stz hR hV (by omega) hw
      exact ⟨sz, fun x53 _ => ⟨fun _ => ⟨sz, fun x56 _ => ⟨fun _ => ⟨(cP _).1, trivial⟩, fun _ => ⟨fun _ => ⟨(a_standingOf hR hV hw).1, fun x64 _ => ⟨⟨fun _ => ⟨(a_standingOf hR hV hw).1, trivial⟩, fun _ => ⟨sz, trivial⟩⟩, fun x67 _ => ⟨(cR _).1, trivial⟩⟩⟩, fun _ => ⟨(cP _).1, trivial⟩⟩⟩⟩, fun _ => ⟨(cP _).1, trivial⟩⟩⟩
    · rw [← h1, ← h3, ← h5]
      exact hs1
  · have G : ∀ (f : Int32 × q_M), z_wo k b t nw sz hb ht sb st f → z_wo (k + 38) b t nw sz hb ht sb st f := fun f h => h.k (by omega)
    unfold F_L_acts
    refine q_LG (G := z_wo (k + 38) b t nw sz hb ht sb st) (fun x1 h1 => ?_)
    refine q_LG (G := z_wo (k + 38) b t nw sz hb ht sb st) (fun x3 h3 => ?_)
    refine q_LG (G := z_wo (k + 38) b t nw sz hb ht sb st) (fun x5 h5 => ?_)
    refine q_LG (G := z_wo (k + 38) b t nw sz hb ht sb st) (fun x7 h7 => ?_)
    have h1 := e1.symm.trans h1
    have h3 := e2.symm.trans h3
    have h5 := e3.symm.trans h5
    have gP : z_wo (k + 38) b t nw sz hb ht sb st (q_L (W_pass x1 σ).2 (fun σ1 : q_M => q_L (W_pass x1 σ).1 (fun x : Int32 => (x, σ1)))) := by rw [q_LW]; exact G _ (cP _).2
    have gR : ∀ x36, z_wo (k + 38) b t nw sz hb ht sb st (q_L (W_run x36 σ).2 (fun σ1 : q_M => q_L (W_run x36 σ).1 (fun x : Int32 => (x, σ1)))) := fun x36 => by rw [q_LW]; exact G _ (cR _).2
    refine q_if (G := z_wo (k + 38) b t nw sz hb ht sb st) (fun _ => ?_) (fun _ => ?_)
    · rw [q_LW]; exact G _ cA.2
    · refine q_if (G := z_wo (k + 38) b t nw sz hb ht sb st) (fun _ => ?_) (fun _ => ?_)
      · rw [q_LW]; exact G _ (cS _ _ _).2
      · refine q_if (G := z_wo (k + 38) b t nw sz hb ht sb st) (fun _ => ?_) (fun _ => ?_)
        · rw [q_LW]; exact G _ (cL _).2
        · refine q_if (G := z_wo (k + 38) b t nw sz hb ht sb st) (fun _ => ?_) (fun _ => ?_)
          · rw [q_LW]; exact G _ (cD _).2
          · refine q_if (G := z_wo (k + 38) b t nw sz hb ht sb st) (fun _ => ?_) (fun _ => ?_)
            · rw [q_LW]; exact G _ cB.2
            · refine q_if (G := z_wo (k + 38) b t nw sz hb ht sb st) (fun _ => ?_) (fun _ => ?_)
              · refine q_LG (G := z_wo (k + 38) b t nw sz hb ht sb st) (fun x36 h36 => ?_)
                exact gR _
              · refine q_if (G := z_wo (k + 38) b t nw sz hb ht sb st) (fun _ => ?_) (fun _ => ?_)
                · refine q_LG (G := z_wo (k + 38) b t nw sz hb ht sb st) (fun x43 h43 => ?_)
                  refine q_if (G := z_wo (k + 38) b t nw sz hb ht sb st) (fun _ => ?_) (fun _ => ?_)
                  · exact gP
                  · refine q_LG (G := z_wo (k + 38) b t nw sz hb ht sb st) (fun x50 h50 => ?_)
                    refine q_if (G := z_wo (k + 38) b t nw sz hb ht sb st) (fun _ => ?_) (fun _ => ?_)
                    · refine q_LG (G := z_wo (k + 38) b t nw sz hb ht sb st) (fun x53 h53 => ?_)
                      refine q_if (G := z_wo (k + 38) b t nw sz hb ht sb st) (fun _ => ?_) (fun _ => ?_)
                      · refine q_LG (G := z_wo (k + 38) b t nw sz hb ht sb st) (fun x56 h56 => ?_)
                        refine q_if (G := z_wo (k + 38) b t nw sz hb ht sb st) (fun _ => ?_) (fun _ => ?_)
                        · exact gP
                        · refine q_if (G := z_wo (k + 38) b t nw sz hb ht sb st) (fun _ => ?_) (fun _ => ?_)
                          · refine q_LG (G := z_wo (k + 38) b t nw sz hb ht sb st) (fun x64 h64 => ?_)
                            refine q_LG (G := z_wo (k + 38) b t nw sz hb ht sb st) (fun x67 h67 => ?_)
                            exact gR _
                          · exact gP
                      · exact gP
                    · exact gP
                · refine q_if (G := z_wo (k + 38) b t nw sz hb ht sb st) (fun _ => ?_) (fun _ => ?_)
                  · exact gP
                  · refine q_if (G := z_wo (k + 38) b t nw sz hb ht sb st) (fun _ => ?_) (fun _ => ?_)
                    · rw [q_LW]; exact G _ (cO _ _).2
                    · refine q_if (G := z_wo (k + 38) b t nw sz hb ht sb st) (fun _ => ?_) (fun _ => ?_)
                      · rw [q_LW]; exact G _ (cW _).2
                      · refine q_if (G := z_wo (k + 38) b t nw sz hb ht sb st) (fun _ => ?_) (fun _ => ?_)
                        · rw [q_LW]; exact G _ (cJ _ _ _).2
                        · rw [← h1, ← h3, ← h5]
                          exact hs2
theorem z_badI {x : Int32} (h : z_bad x) : ¬ x = -900009 ∧ x ≤ -900000 := by
  rcases h with rfl | rfl | rfl <;> exact ⟨by decide, by decide⟩
theorem z_resI {n : Nat} (h : n < 5000000) : ¬ nI n = -900009 ∧ ¬ nI n ≤ -900000 := by
  have e : (nI n).toInt = n := nI_toInt (by omega)
  constructor
  · intro q
    rw [q] at e
    have : (-900009 : Int32).toInt = -900009 := by decide
    omega
  · intro q
    rw [Int32.le_iff_toInt_le, e] at q
    have : (-900000 : Int32).toInt = -900000 := by decide
    omega
theorem i_acts (hX : z_says) (ζ : Nat → Nat) (k : Nat) (σ : q_M) (h336 : ζ 336 ≤ 260) (hk : k < 12) (hI : z_I k σ) : q_aOK z_I ζ k σ := by
  obtain ⟨hk12, b, t, nw, sz, hb, ht, sb, st, hn, hC⟩ := hI
  have ei : (36 : Int32) + 4 * nI k = nI (36 + 4 * k) := by
    show nI 36 + nI 4 * nI k = _
    rw [z_mul, z_add]
  unfold q_aOK
  rw [ei]
  obtain ⟨hP, hO⟩ := a_acts hX ζ h336 (i := 36 + 4 * k) (by omega) (by omega) hC
  have hR := hC.1
  have hV := hC.2.2.2.1
  refine ⟨hP, ?_⟩
  rcases hF : F_L_acts ζ (nI (36 + 4 * k)) σ with ⟨r, τ⟩
  rw [hF] at hO
  refine ⟨r, τ, rfl, ?_⟩
  rcases hO with ⟨h1, h2⟩ | ⟨res, b', t', h1, h2, h3, h4⟩
  · have h1 : z_bad r := h1
    have h2 : z_C (40 * (k + 1) + 38 + 1) τ b t nw sz hb ht sb st := h2
    obtain ⟨a1, a2⟩ := z_badI h1
    exact ⟨⟨by omega, b, t, nw, sz, hb, ht, sb, st, hn, h2.k (by omega)⟩, a1, fun _ => s_eq hR h2.1 hV, fun q => absurd a2 q⟩
  · have h3 : r = nI res := h3
    have h4 : z_C (40 * (k + 1) + 38 + 1) τ b' t' ((nw + 1) % 8) (z_s1 sz) (z_sh sz hb b) (z_sh sz ht t) sb st := h4
    obtain ⟨a1, a2⟩ := z_resI h1
    subst h3
    refine ⟨⟨by omega, b', t', _, _, _, _, sb, st, Nat.le_trans hn h2, h4.k (by omega)⟩, a1, fun q => absurd q a2, fun _ => ⟨?_, fun _ => ?_⟩⟩
    · refine (a_in ζ (85 + nI k) (n := 5) τ h336 (by decide) (by decide) ?_).1
      show ¬ (nI 85 + nI k) < 0
      rw [z_add]
      exact nI_pos (by omega)
    · have s8 := hC.2.2.2.2.2.1.2.2.2.1
      obtain ⟨qU, ω, eU, cU⟩ := c_undo1 h4 (z_s1_pos sz)
      rw [z_sh_top hb b s8, z_sh_top ht t s8] at cU
      have s9 : z_s1 sz ≤ 8 := by unfold z_s1; split <;> omega
      exact ⟨qU, _, ω, eU, nI_pos (by omega), ⟨by omega, b, t, _, _, _, _, sb, st, hn, cU.k (by omega)⟩, s_eq hR cU.1 hV⟩
