/-! The class's loop over a program's commands. -/
theorem z_rCe {rf : Option (Nat × Int32)} {σ μ : q_M} {a : Nat} (h : μ a = σ a) : z_rC rf μ a = z_rC rf σ a := by
  cases rf with
  | none => exact h
  | some x =>
    show (q_up (q_up μ 220 7 (nI x.1)) 220 8 x.2) a = (q_up (q_up σ 220 7 (nI x.1)) 220 8 x.2) a
    by_cases e : a = 220
    · subst e
      funext j
      by_cases j8 : j = 8
      · subst j8; rw [q_up_eq, q_up_eq]
      · rw [q_up_nj j8, q_up_nj j8]
        by_cases j7 : j = 7
        · subst j7; rw [q_up_eq, q_up_eq]
        · rw [q_up_nj j7, q_up_nj j7, h]
    · rw [q_up_off e, q_up_off e, q_up_off e, q_up_off e, h]
theorem z_at0 (μ : q_M) : P_X8_at 224 0 μ ∧ F_X8_at 224 0 μ = μ 224 0 :=
  ⟨⟨fun _ => trivial, fun _ => ⟨fun _ => ⟨by unfold vp_in; decide +kernel, trivial⟩, fun _ => trivial⟩⟩, by unfold F_X8_at; rw [if_neg (by decide), if_pos (by decide +kernel)]; rfl⟩
theorem z_at1 (μ : q_M) : P_X8_at 224 1 μ ∧ F_X8_at 224 1 μ = μ 224 1 :=
  ⟨⟨fun _ => trivial, fun _ => ⟨fun _ => ⟨by unfold vp_in; decide +kernel, trivial⟩, fun _ => trivial⟩⟩, by unfold F_X8_at; rw [if_neg (by decide), if_pos (by decide +kernel)]; rfl⟩
theorem z_at2 (μ : q_M) : P_X8_at 224 2 μ ∧ F_X8_at 224 2 μ = μ 224 2 :=
  ⟨⟨fun _ => trivial, fun _ => ⟨fun _ => ⟨by unfold vp_in; decide +kernel, trivial⟩, fun _ => trivial⟩⟩, by unfold F_X8_at; rw [if_neg (by decide), if_pos (by decide +kernel)]; rfl⟩
def z_an (s : Nat → Nat) (n : Nat) (l : List z_Cm) (e : Nat) : Prop := l = [] ∨ ∃ f p, p ≤ n ∧ z_at' s e p ∧ (z_pg s n f p).1 = true ∧ (z_pg s n f p).2.2 = l
theorem z_anS {s : Nat → Nat} {n : Nat} (h0 : ∀ i, n ≤ i → s i = 0) {x : z_Cm} {l : List z_Cm} {e : Nat} (h : z_an s n (x :: l) e) : ∃ p, p ≤ n ∧ z_at' s e p ∧ (z_cmd s p).1 = true ∧ x = ((z_cmd s p).2.1, (z_cmd s p).2.2) ∧ z_an s n l (z_cmd s p).2.2.1 := by
  rcases h with h | ⟨f, p, h1, h2, h3, h4⟩
  · cases h
  · cases f with
    | zero => unfold z_pg at h3; cases h3
    | succ f =>
      unfold z_pg at h3 h4
      by_cases d : (z_cmd s p).1 = true
      · rw [if_pos d] at h3 h4
        by_cases a : (z_cmd s p).2.2.1 < n
        · rw [if_pos a] at h3 h4
          by_cases g : s (z_cmd s p).2.2.1 = 59
          · rw [if_pos g] at h3 h4
            have h5 := (List.cons.inj h4).1
            have h6 := (List.cons.inj h4).2
            have := (z_cmdI h0 h1).2.1 d
            exact ⟨p, h1, h2, d, h5.symm, .inr ⟨f, _, a, .inr ⟨by omega, g, rfl⟩, h3, h6⟩⟩
          · rw [if_neg g] at h3; cases h3
        · rw [if_neg a] at h3 h4
          have h5 := (List.cons.inj h4).1
          have h6 := (List.cons.inj h4).2
          exact ⟨p, h1, h2, d, h5.symm, .inl h6.symm⟩
      · rw [if_neg d] at h3; cases h3
def z_wf (l : List z_Cm) : Prop := ∀ x ∈ l, x.1 < 8 ∧ x.2.2.1 = z_ar (z_pt x.1)
theorem z_pgW {s : Nat → Nat} {n : Nat} (h0 : ∀ i, n ≤ i → s i = 0) : ∀ (f p : Nat), p ≤ n → z_wf (z_pg s n f p).2.2 := by
  intro f
  induction f with
  | zero => intro p hp x hx; unfold z_pg at hx; cases hx
  | succ f ih =>
    intro p hp
    have hI := z_cmdI h0 hp
    unfold z_pg
    by_cases d : (z_cmd s p).1 = true
    · rw [if_pos d]
      have h1 := hI.2.2 d
      by_cases a : (z_cmd s p).2.2.1 < n
      · rw [if_pos a]
        by_cases e : s (z_cmd s p).2.2.1 = 59
        · rw [if_pos e]
          intro x hx
          rcases List.mem_cons.mp hx with hx | hx
          · subst hx; exact h1
          · exact ih _ a x hx
        · rw [if_neg e]; intro x hx; cases hx
      · rw [if_neg a]
        intro x hx
        rcases List.mem_cons.mp hx with hx | hx
        · subst hx; exact h1
        · cases hx
    · rw [if_neg d]; intro x hx; cases hx
def z_aC (fl : Option Nat) (c : Nat) (ν : q_M) : Int32 × q_M := match fl with | none => (-1, F_X2_push 20 ν) | some j => (nI (c + j), F_X4_copyFrom 0 20 ν)
def z_up1 (fl : Option Nat) : Option Nat := match fl with | none => none | some j => some (j + 1)
theorem z_aCs (fl : Option Nat) (c : Nat) (ν : q_M) : z_aC fl (c + 1) ν = z_aC (z_up1 fl) c ν := by
  cases fl with
  | none => rfl
  | some j => show (nI (c + 1 + j), _) = (nI (c + (j + 1)), _); rw [show c + 1 + j = c + (j + 1) by omega]
def z_hC (n : Nat) (tx : Nat → Nat) (l : List z_Cm) (b : Nat → Nat) (t : Nat → Nat → Nat) (b0 : Nat → Nat) (t0 : Nat → Nat → Nat) (fl : Option Nat) (rf : Option (Nat × Int32)) (b' : Nat → Nat) (t' : Nat → Nat → Nat) : Prop :=
  ∀ (nn c : Nat) (σ : q_M) (e : Nat), l.length < nn → c + l.length ≤ 30 → z_an (z_cx n tx) n l e → z_tc σ n tx → σ 223 3 = nI e → σ 223 4 = nI (c + l.length) → z_R σ 0 b t → z_R σ 20 b0 t0 → (∃ nw sz hb ht, z_HC σ nw sz hb ht) → PL_X8_performAll_20 nn (nI c) σ ∧ ∃ ν, z_R ν 0 b' t' ∧ (∀ a, 20 ≤ a → a ≠ 223 → a ≠ 224 → ν a = z_rC rf σ a) ∧ FL_X8_performAll_20 nn (nI c) σ = z_aC fl c ν ∧ ν 223 4 = σ 223 4
theorem z_lp {n : Nat} {tx : Nat → Nat} (hn : n ≤ 60) (htx : ∀ i, i < n → tx i < 200) {k0 : Nat} {b0 : Nat → Nat} {t0 : Nat → Nat → Nat} (hV0 : z_V k0 b0 t0) : ∀ (l : List z_Cm) (k : Nat) (b : Nat → Nat) (t : Nat → Nat → Nat), z_wf l → z_V k b t → k + l.length ≤ 20000 → ∃ (fl : Option Nat) (rf : Option (Nat × Int32)) (b' : Nat → Nat) (t' : Nat → Nat → Nat), z_V (k + l.length) b' t' ∧ (fl = none → rf = none) ∧ (∀ j, fl = some j → j < l.length) ∧ b 3 ≤ b' 3 ∧ z_hC n tx l b t b0 t0 fl rf b' t' := by
  intro l
  induction l with
  | nil =>
    intro k b t _ hV _
    refine ⟨none, none, b, t, hV, fun _ => rfl, fun j q => (by cases q), Nat.le_refl _, ?_⟩
    · intro nn c σ e hnn hc ha ht hx h4 hR hR0 ⟨nw, sz, hb, ht', hH⟩
      obtain ⟨nn, rfl⟩ : ∃ q, nn = q + 1 := ⟨nn - 1, by omega⟩
      have h4 : σ 223 4 = nI c := h4
      have hc : c ≤ 30 := hc
      have e4 : ¬ nI c < σ 223 4 := by rw [h4, z_lt (by omega) (by omega)]; omega
      obtain ⟨p1, p2, p3⟩ := z_push (r := 20) (by decide) hR0 hV0 hH
      unfold PL_X8_performAll_20 FL_X8_performAll_20
      refine ⟨⟨fun z => absurd z e4, fun _ => ⟨p1, trivial⟩⟩, σ, hR, fun _ _ _ _ => rfl, ?_, rfl⟩
      rw [if_neg e4, z_qL2]
      rfl
  | cons x l ih =>
    intro k b t hwf hV hk
    have hlen : (x :: l).length = l.length + 1 := rfl
    obtain ⟨hx8, hxa⟩ := hwf x (List.mem_cons_self ..)
    have h3 : z_ar (z_pt x.1) ≤ 3 := (z_ptq _ hx8).2.2.2.1
    obtain ⟨code, rf, b1, t1, hc3, hV1, hsm, hrf, hb31, hC⟩ := z_vbA (g := x.2.2.2 0) (h := x.2.2.2 1) (v := x.2.2.2 2) hx8 hV (show k < 20000 by omega)
    -- the class up to the command
    have cls : ∀ (nn c : Nat) (σ : q_M) (e : Nat), l.length + 1 < nn → c + (l.length + 1) ≤ 30 → z_an (z_cx n tx) n (x :: l) e → z_tc σ n tx → σ 223 3 = nI e → σ 223 4 = nI (c + (l.length + 1)) → z_R σ 0 b t → z_R σ 20 b0 t0 → ∃ (q : Nat) (μ : q_M) (e' : Nat), nn = q + 1 ∧ z_an (z_cx n tx) n l e' ∧ μ 223 3 = nI e' ∧ z_qf σ μ ∧ μ 223 5 = nI (20 + x.1) ∧ (0 < z_ar (z_pt x.1) → μ 224 0 = nI (x.2.2.2 0)) ∧ (1 < z_ar (z_pt x.1) → μ 224 1 = nI (x.2.2.2 1)) ∧ (2 < z_ar (z_pt x.1) → μ 224 2 = nI (x.2.2.2 2)) ∧
        (P_X8_faultOf (nI (20 + x.1)) (μ 224 0) (μ 224 1) (μ 224 2) μ → ((F_X8_faultOf (nI (20 + x.1)) (μ 224 0) (μ 224 1) (μ 224 2) μ).1 = 10 → P_X8_apply ((F_X8_faultOf (nI (20 + x.1)) (μ 224 0) (μ 224 1) (μ 224 2) μ).2 223 5) (μ 224 0) (μ 224 1) (μ 224 2) (F_X8_faultOf (nI (20 + x.1)) (μ 224 0) (μ 224 1) (μ 224 2) μ).2 ∧ PL_X8_performAll_20 q (nI (c + 1)) (F_X8_apply ((F_X8_faultOf (nI (20 + x.1)) (μ 224 0) (μ 224 1) (μ 224 2) μ).2 223 5) (μ 224 0) (μ 224 1) (μ 224 2) (F_X8_faultOf (nI (20 + x.1)) (μ 224 0) (μ 224 1) (μ 224 2) μ).2)) → (¬ (F_X8_faultOf (nI (20 + x.1)) (μ 224 0) (μ 224 1) (μ 224 2) μ).1 = 10 → P_X4_copyFrom 0 20 (F_X8_faultOf (nI (20 + x.1)) (μ 224 0) (μ 224 1) (μ 224 2) μ).2) → PL_X8_performAll_20 nn (nI c) σ) ∧
        FL_X8_performAll_20 nn (nI c) σ = (if (F_X8_faultOf (nI (20 + x.1)) (μ 224 0) (μ 224 1) (μ 224 2) μ).1 = 10 then FL_X8_performAll_20 q (nI (c + 1)) (F_X8_apply ((F_X8_faultOf (nI (20 + x.1)) (μ 224 0) (μ 224 1) (μ 224 2) μ).2 223 5) (μ 224 0) (μ 224 1) (μ 224 2) (F_X8_faultOf (nI (20 + x.1)) (μ 224 0) (μ 224 1) (μ 224 2) μ).2) else (nI c, F_X4_copyFrom 0 20 (F_X8_faultOf (nI (20 + x.1)) (μ 224 0) (μ 224 1) (μ 224 2) μ).2)) := by
      intro nn c σ e hnn hc ha ht hx h4 hR hR0
      obtain ⟨q, rfl⟩ : ∃ q, nn = q + 1 := ⟨nn - 1, by omega⟩
      obtain ⟨p, hp, ha', d, ex, hah⟩ := z_anS z_cx0 ha
      obtain ⟨r1, μ, r2, r3, r4, r5⟩ := z_nxt hn htx hp ha' ht hx
      obtain ⟨s1, s2, s3⟩ := r4 d
      rw [z_b1' d] at r2
      have s2 : μ 223 5 = nI (20 + x.1) := by rw [s2, ex]
      have s1 : ∀ j, j < x.2.2.1 → μ 224 j = nI (x.2.2.2 j) := fun j hj => by rw [ex] at hj ⊢; exact s1.2.2 j hj
      have e4 : nI c < σ 223 4 := by rw [h4, z_lt (by omega) (by omega)]; omega
      have ec : nI c + 1 = nI (c + 1) := by rw [z_l1, z_add]
      have hz : ¬ (1 : Int32) = 0 := by decide
      refine ⟨q, μ, _, rfl, hah, r3, r5, s2, fun z => s1 0 (by omega), fun z => s1 1 (by omega), fun z => s1 2 (by omega), fun f1 f2 f3 => ?_, ?_⟩
      · unfold PL_X8_performAll_20
        simp only [r2, forall_eq', (z_at0 μ).2, (z_at1 μ).2, (z_at2 μ).2, s2, ec]
        exact ⟨fun _ => ⟨r1, (z_at0 μ).1, (z_at1 μ).1, (z_at2 μ).1, fun z => absurd z hz, fun _ => ⟨f1, f2, fun z => ⟨f3 z, trivial⟩⟩⟩, fun z => absurd e4 z⟩
      · rw [FL_X8_performAll_20]
        simp only [z_qL2, r2, (z_at0 μ).2, (z_at1 μ).2, (z_at2 μ).2, s2, ec]
        rw [if_pos e4, if_neg hz]
    by_cases hz : code = 0
    · have hrf0 := hrf hz
      subst hrf0
      obtain ⟨fl, rf, b', t', hV', hf, hj, h33, iC⟩ := ih (k + 1) b1 t1 (fun y hy => hwf y (List.mem_cons_of_mem _ hy)) hV1 (by omega)
      refine ⟨z_up1 fl, rf, b', t', hV'.k (by omega), fun z => ?_, fun j z => ?_, Nat.le_trans hb31 h33, ?_⟩
      · cases fl with
        | none => exact hf rfl
        | some j => cases z
      · cases fl with
        | none => cases z
        | some i =>
          have : i + 1 = j := Option.some.inj z
          have := hj i rfl
          omega
      · intro nn c σ e hnn hc ha ht hx h4 hR hR0 ⟨nw, sz, hb, ht', hH⟩
        obtain ⟨q, μ, e', eq, c1, c2, c3, c4, c5, c6, c7, c8, c9⟩ := cls nn c σ e hnn hc ha ht hx h4 hR hR0
        have hRμ : z_R μ 0 b t := hR.off (fun a _ _ => c3.1 a (by omega) (by omega))
        obtain ⟨f1, f2, f3, f4⟩ := hC _ _ _ c5 c6 c7 μ hRμ
        obtain ⟨g1, g2, g3⟩ := f4 hz
        have f2 : (F_X8_faultOf (nI (20 + x.1)) (μ 224 0) (μ 224 1) (μ 224 2) μ).2 = μ := f2
        have f3 : (F_X8_faultOf (nI (20 + x.1)) (μ 224 0) (μ 224 1) (μ 224 2) μ).1 = 10 := by rw [f3]; exact hz
        rw [f2, c4] at c8 c9
        rw [if_pos f3] at c9
        generalize F_X8_apply (nI (20 + x.1)) (μ 224 0) (μ 224 1) (μ 224 2) μ = ω at g1 g2 g3 c8 c9
        have hω : ∀ a, 20 ≤ a → a ≠ 223 → a ≠ 224 → ω a = σ a := fun a a1 a2 a3 => by rw [g3 a a1, c3.1 a a2 a3]
        have hω4 : ω 223 4 = σ 223 4 := by rw [g3 223 (by decide), c3.2 4 (by decide) (by decide) (by decide)]
        obtain ⟨i1, ν, i2, i3, i4, i5⟩ := iC q (c + 1) ω e' (by omega) (by omega) c1 ⟨by rw [hω 225 (by decide) (by decide) (by decide)]; exact ht.1, fun i hi => by rw [hω 227 (by decide) (by decide) (by decide)]; exact ht.2 i hi⟩ (by rw [g3 223 (by decide)]; exact c2) (by rw [hω4, h4, hlen]; congr 1; omega) g2 (hR0.off (fun a _ _ => hω a (by omega) (by omega) (by omega))) ⟨nw, sz, hb, ht', hH.mv (fun a _ _ _ => hω a (by omega) (by omega) (by omega))⟩
        refine ⟨c8 f1 (fun _ => ⟨g1, i1⟩) (fun z => absurd f3 z), ν, i2, fun a a1 a2 a3 => ?_, ?_, by rw [i5, hω4]⟩
        · rw [i3 a a1 a2 a3]
          exact z_rCe (hω a a1 a2 a3)
        · rw [c9, i4, z_aCs]
    · obtain ⟨hb1, ht1⟩ := hsm hz
      subst hb1 ht1
      refine ⟨some 0, rf, b1, t1, hV.k (by omega), fun z => (by cases z), fun j z => ?_, Nat.le_refl _, ?_⟩
      · have : 0 = j := Option.some.inj z
        omega
      · intro nn c σ e hnn hc ha ht hx h4 hR hR0 ⟨nw, sz, hb, ht', hH⟩
        obtain ⟨q, μ, e', eq, c1, c2, c3, c4, c5, c6, c7, c8, c9⟩ := cls nn c σ e hnn hc ha ht hx h4 hR hR0
        have hRμ : z_R μ 0 b1 t1 := hR.off (fun a _ _ => c3.1 a (by omega) (by omega))
        obtain ⟨f1, f2, f3, _⟩ := hC _ _ _ c5 c6 c7 μ hRμ
        have f3 : ¬ (F_X8_faultOf (nI (20 + x.1)) (μ 224 0) (μ 224 1) (μ 224 2) μ).1 = 10 := by rw [f3]; exact hz
        rw [if_neg f3] at c9
        rw [f2] at c8 c9
        have hν : ∀ a, a ≠ 220 → a ≠ 223 → a ≠ 224 → z_rC rf μ a = σ a := fun a a1 a2 a3 => by rw [z_rCo a1, c3.1 a a2 a3]
        have hRν : z_R (z_rC rf μ) 0 b1 t1 := hR.off (fun a _ _ => hν a (by omega) (by omega) (by omega))
        have hR0ν : z_R (z_rC rf μ) 20 b0 t0 := hR0.off (fun a _ _ => hν a (by omega) (by omega) (by omega))
        obtain ⟨k1, _⟩ := z_cf (r := 0) (u := 20) (by decide) (by decide) (.inl (by decide)) hV0 hR0ν hRν.nos
        refine ⟨c8 f1 (fun z => absurd z f3) (fun _ => k1), z_rC rf μ, hRν, fun a a1 a2 a3 => z_rCe (c3.1 a a2 a3), c9, ?_⟩
        rw [z_rCo (by decide)]
        exact c3.2 4 (by decide) (by decide) (by decide)
theorem z_xC {n : Nat} {tx : Nat → Nat} {k : Nat} {l : List z_Cm} {b : Nat → Nat} {t : Nat → Nat → Nat} {fl : Option Nat} {rf : Option (Nat × Int32)} {b' : Nat → Nat} {t' : Nat → Nat → Nat} (hC : z_hC n tx l b t b t fl rf b' t') (hl : l.length ≤ 21) (ha : z_an (z_cx n tx) n l 0) {μ : q_M} (htc : z_tc μ n tx) (h4 : μ 223 4 = nI l.length) (hV : z_V k b t) (hR : z_R μ 0 b t) (hno : z_no μ 20) {nw sz : Nat} {hb : Nat → Nat → Nat} {ht : Nat → Nat → Nat → Nat} (hH : z_HC μ nw sz hb ht) : P_X8_performAll μ ∧ ∃ ν, F_X8_performAll μ = z_aC fl 0 ν ∧ z_R ν 0 b' t' ∧ z_R ν 20 b t ∧ (∀ a, 40 ≤ a → a ≠ 223 → a ≠ 224 → ν a = z_rC rf μ a) ∧ ν 223 4 = nI l.length := by
  obtain ⟨c1, c2, c3, c4⟩ := z_cf (r := 20) (u := 0) (by decide) (by decide) (.inr (by decide)) hV hR hno
  have hs : ∀ a, a < 20 ∨ 40 ≤ a → a ≠ 223 → (q_up (F_X4_copyFrom 20 0 μ) 223 3 0) a = μ a := fun a a1 a2 => by rw [q_up_off a2, c4 a (by omega)]
  have h20 : ∀ a, a ≠ 223 → (q_up (F_X4_copyFrom 20 0 μ) 223 3 0) a = (F_X4_copyFrom 20 0 μ) a := fun a a2 => q_up_off a2
  have h3 : (q_up (F_X4_copyFrom 20 0 μ) 223 3 0) 223 3 = nI 0 := q_up_eq _ _ _ _
  have h34 : (q_up (F_X4_copyFrom 20 0 μ) 223 3 0) 223 4 = nI l.length := by rw [q_up_nj (by decide), c4 223 (by omega)]; exact h4
  have eP : P_X8_performAll μ = (P_X4_copyFrom 20 0 μ ∧ PL_X8_performAll_20 40 (nI 0) (q_up (F_X4_copyFrom 20 0 μ) 223 3 0)) := by
    unfold P_X8_performAll
    simp only [forall_eq', F_X3_rewind]
    rfl
  have eF : F_X8_performAll μ = FL_X8_performAll_20 40 (nI 0) (q_up (F_X4_copyFrom 20 0 μ) 223 3 0) := by
    unfold F_X8_performAll
    rw [z_qL2, z_qL2]
    rfl
  rw [eP, eF]
  generalize q_up (F_X4_copyFrom 20 0 μ) 223 3 0 = σ at hs h20 h3 h34
  have hR0 : z_R σ 0 b t := hR.off (fun a _ a2 => hs a (by omega) (by omega))
  have hR20 : z_R σ 20 b t := c2.off (fun a _ a2 => h20 a (by omega))
  obtain ⟨i1, ν, i2, i3, i4, i5⟩ := hC 40 0 σ 0 (by omega) (by omega) ha ⟨by rw [hs 225 (by omega) (by decide)]; exact htc.1, fun i hi => by rw [hs 227 (by omega) (by decide)]; exact htc.2 i hi⟩ h3 (by rw [h34, Nat.zero_add]) hR0 hR20 ⟨nw, sz, hb, ht, hH.mv (fun a _ _ _ => hs a (by omega) (by omega))⟩
  refine ⟨⟨c1, i1⟩, ν, i4, i2, hR20.off (fun a a1 a2 => ?_), fun a a1 a2 a3 => ?_, by rw [i5]; exact h34⟩
  · rw [i3 a (by omega) (by omega) (by omega), z_rCo (by omega)]
  · rw [i3 a (by omega) a2 a3]
    exact z_rCe (hs a (by omega) a2)
theorem z_nm9 {n : Nat} (h : n < 1000) : ¬ nI n = (-1 : Int32) := by
  intro q
  have := congrArg Int32.toInt q
  rw [nI_toInt (by omega)] at this
  have e : (-1 : Int32).toInt = -1 := by decide +kernel
  rw [e] at this
  omega
