/-! The commands of a program, one after another. -/
theorem z_rCe {rf : Option (Nat × Int32)} {σ μ : q_M} {a : Nat} (h : μ a = σ a) : z_rC rf μ a = z_rC rf σ a := by
  cases rf with
  | none => exact h
  | some x =>
    show (q_up (q_up μ 220 7 (nI x.1)) 220 8 x.2) a = (q_up (q_up σ 220 7 (nI x.1)) 220 8 x.2) a
    by_cases e : a = 220
    · subst e
      funext j
      by_cases j8 : j = 8
      · subst j8; rw [q_up_eq, q_up_eq]
      · rw [q_up_nj j8, q_up_nj j8]
        by_cases j7 : j = 7
        · subst j7; rw [q_up_eq, q_up_eq]
        · rw [q_up_nj j7, q_up_nj j7, h]
    · rw [q_up_off e, q_up_off e, q_up_off e, q_up_off e, h]
theorem z_rMe {rf : Option (Nat × Int32)} {σ μ : q_M} {j : Nat} (h : μ 229 j = σ 229 j) : z_rM rf μ 229 j = z_rM rf σ 229 j := by
  cases rf with
  | none => exact h
  | some x =>
    show (q_up (q_up μ 229 8 (nI x.1)) 229 9 x.2) 229 j = (q_up (q_up σ 229 8 (nI x.1)) 229 9 x.2) 229 j
    by_cases j8 : j = 9
    · subst j8; rw [q_up_eq, q_up_eq]
    · rw [q_up_nj j8, q_up_nj j8]
      by_cases j7 : j = 8
      · subst j7; rw [q_up_eq, q_up_eq]
      · rw [q_up_nj j7, q_up_nj j7, h]
theorem z_at0 (μ : q_M) : P_X8_at 224 0 μ ∧ F_X8_at 224 0 μ = μ 224 0 :=
  ⟨⟨fun _ => trivial, fun _ => ⟨fun _ => ⟨by unfold vp_in; decide +kernel, trivial⟩, fun _ => trivial⟩⟩, by unfold F_X8_at; rw [if_neg (by decide), if_pos (by decide +kernel)]; rfl⟩
theorem z_at1 (μ : q_M) : P_X8_at 224 1 μ ∧ F_X8_at 224 1 μ = μ 224 1 :=
  ⟨⟨fun _ => trivial, fun _ => ⟨fun _ => ⟨by unfold vp_in; decide +kernel, trivial⟩, fun _ => trivial⟩⟩, by unfold F_X8_at; rw [if_neg (by decide), if_pos (by decide +kernel)]; rfl⟩
theorem z_at2 (μ : q_M) : P_X8_at 224 2 μ ∧ F_X8_at 224 2 μ = μ 224 2 :=
  ⟨⟨fun _ => trivial, fun _ => ⟨fun _ => ⟨by unfold vp_in; decide +kernel, trivial⟩, fun _ => trivial⟩⟩, by unfold F_X8_at; rw [if_neg (by decide), if_pos (by decide +kernel)]; rfl⟩
/-- the reader of the class stands ahead of the commands l -/
def z_an (s : Nat → Nat) (n : Nat) (l : List z_C) (e : Nat) : Prop := l = [] ∨ ∃ f p, p ≤ n ∧ z_at' s e p ∧ (z_pg s n f p).1 = true ∧ (z_pg s n f p).2.2 = l
theorem z_anS {s : Nat → Nat} {n : Nat} (h0 : ∀ i, n ≤ i → s i = 0) {x : z_C} {l : List z_C} {e : Nat} (h : z_an s n (x :: l) e) : ∃ p, p ≤ n ∧ z_at' s e p ∧ (z_cmd s p).1 = true ∧ x = ((z_cmd s p).2.1, (z_cmd s p).2.2) ∧ z_an s n l (z_cmd s p).2.2.1 := by
  rcases h with h | ⟨f, p, h1, h2, h3, h4⟩
  · cases h
  · cases f with
    | zero => unfold z_pg at h3; cases h3
    | succ f =>
      unfold z_pg at h3 h4
      by_cases d : (z_cmd s p).1 = true
      · rw [if_pos d] at h3 h4
        by_cases a : (z_cmd s p).2.2.1 < n
        · rw [if_pos a] at h3 h4
          by_cases g : s (z_cmd s p).2.2.1 = 59
          · rw [if_pos g] at h3 h4
            have h5 := (List.cons.inj h4).1
            have h6 := (List.cons.inj h4).2
            have := (z_cmdI h0 h1).2.1 d
            exact ⟨p, h1, h2, d, h5.symm, .inr ⟨f, _, a, .inr ⟨by omega, g, rfl⟩, h3, h6⟩⟩
          · rw [if_neg g] at h3; cases h3
        · rw [if_neg a] at h3 h4
          have h5 := (List.cons.inj h4).1
          have h6 := (List.cons.inj h4).2
          exact ⟨p, h1, h2, d, h5.symm, .inl h6.symm⟩
      · rw [if_neg d] at h3; cases h3
def z_wf (l : List z_C) : Prop := ∀ x ∈ l, x.1 < 8 ∧ x.2.2.1 = z_ar (z_pt x.1)
theorem z_pgW {s : Nat → Nat} {n : Nat} (h0 : ∀ i, n ≤ i → s i = 0) : ∀ (f p : Nat), p ≤ n → z_wf (z_pg s n f p).2.2 := by
  intro f
  induction f with
  | zero => intro p hp x hx; unfold z_pg at hx; cases hx
  | succ f ih =>
    intro p hp
    have hI := z_cmdI h0 hp
    unfold z_pg
    by_cases d : (z_cmd s p).1 = true
    · rw [if_pos d]
      have h1 := hI.2.2 d
      by_cases a : (z_cmd s p).2.2.1 < n
      · rw [if_pos a]
        by_cases e : s (z_cmd s p).2.2.1 = 59
        · rw [if_pos e]
          intro x hx
          rcases List.mem_cons.mp hx with hx | hx
          · subst hx; exact h1
          · exact ih _ a x hx
        · rw [if_neg e]; intro x hx; cases hx
      · rw [if_neg a]
        intro x hx
        rcases List.mem_cons.mp hx with hx | hx
        · subst hx; exact h1
        · cases hx
    · rw [if_neg d]; intro x hx; cases hx
/-- what the loop of the class answers -/
def z_aC (fl : Option Nat) (c : Nat) (ν : q_M) : Int32 × q_M := match fl with | none => (-1, F_X2_push 20 ν) | some j => (nI (c + j), F_X4_copyFrom 0 20 ν)
def z_aM (fl : Option Nat) (c : Nat) (ξ : q_M) : Int32 × q_M := match fl with | none => F_X9_ends (ξ 229 18) ξ | some j => (0, q_up (q_up (F_X9_copies 231 0 230 0 ξ) 229 7 (nI (c + j))) 229 5 2)
def z_up1 (fl : Option Nat) : Option Nat := match fl with | none => none | some j => some (j + 1)
theorem z_aCs (fl : Option Nat) (c : Nat) (ν : q_M) : z_aC fl (c + 1) ν = z_aC (z_up1 fl) c ν := by
  cases fl with
  | none => rfl
  | some j => show (nI (c + 1 + j), _) = (nI (c + (j + 1)), _); rw [show c + 1 + j = c + (j + 1) by omega]
theorem z_aMs (fl : Option Nat) (c : Nat) (ν : q_M) : z_aM fl (c + 1) ν = z_aM (z_up1 fl) c ν := by
  cases fl with
  | none => rfl
  | some j => show (_, q_up (q_up _ 229 7 (nI (c + 1 + j))) 229 5 2) = (_, q_up (q_up _ 229 7 (nI (c + (j + 1)))) 229 5 2); rw [show c + 1 + j = c + (j + 1) by omega]
def z_hC (n : Nat) (tx : Nat → Nat) (l : List z_C) (b : Nat → Nat) (t : Nat → Nat → Nat) (b0 : Nat → Nat) (t0 : Nat → Nat → Nat) (fl : Option Nat) (rf : Option (Nat × Int32)) (b' : Nat → Nat) (t' : Nat → Nat → Nat) : Prop :=
  ∀ (nn c : Nat) (σ : q_M) (e : Nat), l.length < nn → c + l.length ≤ 30 → z_an (z_cx n tx) n l e → z_tc σ n tx → σ 223 3 = nI e → σ 223 4 = nI (c + l.length) → z_R σ 0 b t → z_R σ 20 b0 t0 → (∃ nw sz hb ht, z_HC σ nw sz hb ht) → PL_X8_performAll_20 nn (nI c) σ ∧ ∃ ν, z_R ν 0 b' t' ∧ (∀ a, 20 ≤ a → a ≠ 223 → a ≠ 224 → ν a = z_rC rf σ a) ∧ FL_X8_performAll_20 nn (nI c) σ = z_aC fl c ν ∧ ν 223 4 = σ 223 4
def z_hM (l : List z_C) (b : Nat → Nat) (t : Nat → Nat → Nat) (b0 : Nat → Nat) (t0 : Nat → Nat → Nat) (fl : Option Nat) (rf : Option (Nat × Int32)) (b' : Nat → Nat) (t' : Nat → Nat → Nat) : Prop :=
  ∀ (nn c : Nat) (v1 : Int32) (τ : q_M), l.length < nn → c + l.length ≤ 30 → z_M τ b t → τ 229 5 = 0 → τ 229 18 = nI (c + l.length) → (∀ j, j < l.length → z_sd τ (c + j) (l.getD j (0, z_x0 0))) → z_Mr τ 231 0 b0 t0 → (∃ sz hb ht, z_HM τ sz hb ht) → PL_X9_execute_43 nn v1 (nI c) τ ∧ ∃ ξ, z_M ξ b' t' ∧ (∀ a, a ≠ 229 → a ≠ 230 → ξ a = τ a) ∧ (∀ j, j ≠ 5 → j ≠ 10 → ξ 229 j = z_rM rf τ 229 j) ∧ (fl = none → ξ 229 5 = 0) ∧ FL_X9_execute_43 nn v1 (nI c) τ = z_aM fl c ξ
theorem z_lp {n : Nat} {tx : Nat → Nat} (hn : n ≤ 60) (htx : ∀ i, i < n → tx i < 200) {k0 : Nat} {b0 : Nat → Nat} {t0 : Nat → Nat → Nat} (hV0 : z_V k0 b0 t0) : ∀ (l : List z_C) (k : Nat) (b : Nat → Nat) (t : Nat → Nat → Nat), z_wf l → z_V k b t → k + l.length ≤ 20000 → ∃ (fl : Option Nat) (rf : Option (Nat × Int32)) (b' : Nat → Nat) (t' : Nat → Nat → Nat), z_V (k + l.length) b' t' ∧ (fl = none → rf = none) ∧ (∀ j, fl = some j → j < l.length) ∧ z_hC n tx l b t b0 t0 fl rf b' t' ∧ z_hM l b t b0 t0 fl rf b' t' := by
  intro l
  induction l with
  | nil =>
    intro k b t _ hV _
    refine ⟨none, none, b, t, hV, fun _ => rfl, fun j q => (by cases q), ?_, ?_⟩
    · intro nn c σ e hnn hc ha ht hx h4 hR hR0 ⟨nw, sz, hb, ht', hH⟩
      obtain ⟨nn, rfl⟩ : ∃ q, nn = q + 1 := ⟨nn - 1, by omega⟩
      have h4 : σ 223 4 = nI c := h4
      have hc : c ≤ 30 := hc
      have e4 : ¬ nI c < σ 223 4 := by rw [h4, z_lt (by omega) (by omega)]; omega
      obtain ⟨p1, p2, p3⟩ := z_push (r := 20) (by decide) hR0 hV0 hH
      unfold PL_X8_performAll_20 FL_X8_performAll_20
      refine ⟨⟨fun z => absurd z e4, fun _ => ⟨p1, trivial⟩⟩, σ, hR, fun _ _ _ _ => rfl, ?_, rfl⟩
      rw [if_neg e4, z_qL2]
      rfl
    · intro nn c v1 τ hnn hc hM h5 h18 hsd hw ⟨sz, hb, ht', hH⟩
      obtain ⟨nn, rfl⟩ : ∃ q, nn = q + 1 := ⟨nn - 1, by omega⟩
      have h18 : τ 229 18 = nI c := h18
      have hc : c ≤ 30 := hc
      have e4 : ¬ nI c < τ 229 18 := by rw [h18, z_lt (by omega) (by omega)]; omega
      obtain ⟨e1, _⟩ := z_ends (τ 229 18) hH hw h5
      unfold PL_X9_execute_43 FL_X9_execute_43
      refine ⟨⟨fun z => absurd z e4, fun _ => ⟨e1, trivial⟩⟩, τ, hM, fun _ _ _ => rfl, fun _ _ _ => rfl, fun _ => h5, ?_⟩
      rw [if_neg e4, z_qL2]
      rfl
  | cons x l ih =>
    intro k b t hwf hV hk
    have hlen : (x :: l).length = l.length + 1 := rfl
    obtain ⟨hx8, hxa⟩ := hwf x (List.mem_cons_self ..)
    have h3 : z_ar (z_pt x.1) ≤ 3 := (z_ptq _ hx8).2.2.2.1
    obtain ⟨code, rf, b1, t1, hc3, hV1, hsm, hrf, hC, hM⟩ := z_vbA (g := x.2.2.2 0) (h := x.2.2.2 1) (v := x.2.2.2 2) hx8 hV (show k < 20000 by omega)
    -- the class up to the command
    have cls : ∀ (nn c : Nat) (σ : q_M) (e : Nat), l.length + 1 < nn → c + (l.length + 1) ≤ 30 → z_an (z_cx n tx) n (x :: l) e → z_tc σ n tx → σ 223 3 = nI e → σ 223 4 = nI (c + (l.length + 1)) → z_R σ 0 b t → z_R σ 20 b0 t0 → ∃ (q : Nat) (μ : q_M) (e' : Nat), nn = q + 1 ∧ z_an (z_cx n tx) n l e' ∧ μ 223 3 = nI e' ∧ z_qf σ μ ∧ μ 223 5 = nI (20 + x.1) ∧ (0 < z_ar (z_pt x.1) → μ 224 0 = nI (x.2.2.2 0)) ∧ (1 < z_ar (z_pt x.1) → μ 224 1 = nI (x.2.2.2 1)) ∧ (2 < z_ar (z_pt x.1) → μ 224 2 = nI (x.2.2.2 2)) ∧
        (P_X8_faultOf (nI (20 + x.1)) (μ 224 0) (μ 224 1) (μ 224 2) μ → ((F_X8_faultOf (nI (20 + x.1)) (μ 224 0) (μ 224 1) (μ 224 2) μ).1 = 10 → P_X8_apply ((F_X8_faultOf (nI (20 + x.1)) (μ 224 0) (μ 224 1) (μ 224 2) μ).2 223 5) (μ 224 0) (μ 224 1) (μ 224 2) (F_X8_faultOf (nI (20 + x.1)) (μ 224 0) (μ 224 1) (μ 224 2) μ).2 ∧ PL_X8_performAll_20 q (nI (c + 1)) (F_X8_apply ((F_X8_faultOf (nI (20 + x.1)) (μ 224 0) (μ 224 1) (μ 224 2) μ).2 223 5) (μ 224 0) (μ 224 1) (μ 224 2) (F_X8_faultOf (nI (20 + x.1)) (μ 224 0) (μ 224 1) (μ 224 2) μ).2)) → (¬ (F_X8_faultOf (nI (20 + x.1)) (μ 224 0) (μ 224 1) (μ 224 2) μ).1 = 10 → P_X4_copyFrom 0 20 (F_X8_faultOf (nI (20 + x.1)) (μ 224 0) (μ 224 1) (μ 224 2) μ).2) → PL_X8_performAll_20 nn (nI c) σ) ∧
        FL_X8_performAll_20 nn (nI c) σ = (if (F_X8_faultOf (nI (20 + x.1)) (μ 224 0) (μ 224 1) (μ 224 2) μ).1 = 10 then FL_X8_performAll_20 q (nI (c + 1)) (F_X8_apply ((F_X8_faultOf (nI (20 + x.1)) (μ 224 0) (μ 224 1) (μ 224 2) μ).2 223 5) (μ 224 0) (μ 224 1) (μ 224 2) (F_X8_faultOf (nI (20 + x.1)) (μ 224 0) (μ 224 1) (μ 224 2) μ).2) else (nI c, F_X4_copyFrom 0 20 (F_X8_faultOf (nI (20 + x.1)) (μ 224 0) (μ 224 1) (μ 224 2) μ).2)) := by
      intro nn c σ e hnn hc ha ht hx h4 hR hR0
      obtain ⟨q, rfl⟩ : ∃ q, nn = q + 1 := ⟨nn - 1, by omega⟩
      obtain ⟨p, hp, ha', d, ex, hah⟩ := z_anS z_cx0 ha
      obtain ⟨r1, μ, r2, r3, r4, r5⟩ := z_nxt hn htx hp ha' ht hx
      obtain ⟨s1, s2, s3⟩ := r4 d
      rw [z_b1' d] at r2
      have s2 : μ 223 5 = nI (20 + x.1) := by rw [s2, ex]
      have s1 : ∀ j, j < x.2.2.1 → μ 224 j = nI (x.2.2.2 j) := fun j hj => by rw [ex] at hj ⊢; exact s1.2.2 j hj
      have e4 : nI c < σ 223 4 := by rw [h4, z_lt (by omega) (by omega)]; omega
      have ec : nI c + 1 = nI (c + 1) := by rw [z_l1, z_add]
      have hz : ¬ (1 : Int32) = 0 := by decide
      refine ⟨q, μ, _, rfl, hah, r3, r5, s2, fun z => s1 0 (by omega), fun z => s1 1 (by omega), fun z => s1 2 (by omega), fun f1 f2 f3 => ?_, ?_⟩
      · unfold PL_X8_performAll_20
        simp only [r2, forall_eq', (z_at0 μ).2, (z_at1 μ).2, (z_at2 μ).2, s2, ec]
        exact ⟨fun _ => ⟨r1, (z_at0 μ).1, (z_at1 μ).1, (z_at2 μ).1, fun z => absurd z hz, fun _ => ⟨f1, f2, fun z => ⟨f3 z, trivial⟩⟩⟩, fun z => absurd e4 z⟩
      · rw [FL_X8_performAll_20]
        simp only [z_qL2, r2, (z_at0 μ).2, (z_at1 μ).2, (z_at2 μ).2, s2, ec]
        rw [if_pos e4, if_neg hz]
    have mdl : ∀ (nn c : Nat) (v1 : Int32) (τ : q_M), l.length + 1 < nn → c + (l.length + 1) ≤ 30 → z_M τ b t → τ 229 18 = nI (c + (l.length + 1)) → z_sd τ c x → ∃ (q : Nat) (ξ : q_M), nn = q + 1 ∧ z_M ξ b1 t1 ∧ (∀ a, a ≠ 229 → a ≠ 230 → ξ a = τ a) ∧ (∀ j, j ≠ 5 → j ≠ 10 → ξ 229 j = z_rM rf τ 229 j) ∧ ξ 229 5 = nI code ∧ ((code = 0 → PL_X9_execute_43 q v1 (nI (c + 1)) ξ) → PL_X9_execute_43 nn v1 (nI c) τ) ∧ FL_X9_execute_43 nn v1 (nI c) τ = (if code = 0 then FL_X9_execute_43 q v1 (nI (c + 1)) ξ else (0, q_up (q_up (F_X9_copies 231 0 230 0 ξ) 229 7 (nI c)) 229 5 2)) := by
      intro nn c v1 τ hnn hc hMτ h18 hsd
      obtain ⟨q, rfl⟩ : ∃ q, nn = q + 1 := ⟨nn - 1, by omega⟩
      have e18 : nI c < τ 229 18 := by rw [h18, z_lt (by omega) (by omega)]; omega
      have ec : nI c + 1 = nI (c + 1) := by rw [z_l1, z_add]
      have e4 : (4 : Int32) * nI c = nI (4 * c) := by rw [z_l4, z_mul]
      have hs36 : ∀ j, (q_up τ 229 5 0) 236 j = τ 236 j := fun j => q_up_nk (by decide)
      obtain ⟨m1, m2, m3, m4⟩ := hM (q_up τ 229 5 0) c (by omega) (by rw [hs36]; exact hsd.1) (fun z => by rw [hs36]; exact hsd.2 0 (by omega)) (fun z => by rw [hs36]; exact hsd.2 1 (by omega)) (fun z => by rw [hs36]; exact hsd.2 2 (by omega)) hMτ.u9
      have ez : ((q_up (F_X9_does (nI (4 * c)) (q_up τ 229 5 0)).2 229 10 (F_X9_does (nI (4 * c)) (q_up τ 229 5 0)).1) 229 5 = 0) = (code = 0) := by
        rw [q_up_nj (by decide), m2]
        exact z_eq (b := 0) (by omega) (by omega)
      refine ⟨q, q_up (F_X9_does (nI (4 * c)) (q_up τ 229 5 0)).2 229 10 (F_X9_does (nI (4 * c)) (q_up τ 229 5 0)).1, rfl, m3.u9, fun a a1 a2 => ?_, fun j j1 j2 => ?_, by rw [q_up_nj (by decide)]; exact m2, fun f => ?_, ?_⟩
      · rw [q_up_off a1, m4.1 a a1 a2, z_rMo a1, q_up_off a1]
      · rw [q_up_nj j2, m4.2 j j1]
        exact z_rMe (q_up_nj j1)
      · unfold PL_X9_execute_43
        simp only [forall_eq', ec, e4, ez]
        exact ⟨fun _ => ⟨m1, f, fun _ => ⟨(z_cp (f := 231) (g := 230) (a := 0) (b := 0) (.inl (by decide)) (by decide) (by decide) (by decide) (by decide) _).1, trivial⟩⟩, fun z => absurd e18 z⟩
      · rw [FL_X9_execute_43]
        simp only [z_qL2, ec, e4, ez]
        rw [if_pos e18]
    by_cases hz : code = 0
    · have hrf0 := hrf hz
      subst hrf0
      obtain ⟨fl, rf, b', t', hV', hf, hj, iC, iM⟩ := ih (k + 1) b1 t1 (fun y hy => hwf y (List.mem_cons_of_mem _ hy)) hV1 (by omega)
      refine ⟨z_up1 fl, rf, b', t', hV'.k (by omega), fun z => ?_, fun j z => ?_, ?_, ?_⟩
      · cases fl with
        | none => exact hf rfl
        | some j => cases z
      · cases fl with
        | none => cases z
        | some i =>
          have : i + 1 = j := Option.some.inj z
          have := hj i rfl
          omega
      · intro nn c σ e hnn hc ha ht hx h4 hR hR0 ⟨nw, sz, hb, ht', hH⟩
        obtain ⟨q, μ, e', eq, c1, c2, c3, c4, c5, c6, c7, c8, c9⟩ := cls nn c σ e hnn hc ha ht hx h4 hR hR0
        have hRμ : z_R μ 0 b t := hR.off (fun a _ _ => c3.1 a (by omega) (by omega))
        obtain ⟨f1, f2, f3, f4⟩ := hC _ _ _ c5 c6 c7 μ hRμ
        obtain ⟨g1, g2, g3⟩ := f4 hz
        have f2 : (F_X8_faultOf (nI (20 + x.1)) (μ 224 0) (μ 224 1) (μ 224 2) μ).2 = μ := f2
        have f3 : (F_X8_faultOf (nI (20 + x.1)) (μ 224 0) (μ 224 1) (μ 224 2) μ).1 = 10 := by rw [f3]; exact hz
        rw [f2, c4] at c8 c9
        rw [if_pos f3] at c9
        generalize F_X8_apply (nI (20 + x.1)) (μ 224 0) (μ 224 1) (μ 224 2) μ = ω at g1 g2 g3 c8 c9
        have hω : ∀ a, 20 ≤ a → a ≠ 223 → a ≠ 224 → ω a = σ a := fun a a1 a2 a3 => by rw [g3 a a1, c3.1 a a2 a3]
        have hω4 : ω 223 4 = σ 223 4 := by rw [g3 223 (by decide), c3.2 4 (by decide) (by decide) (by decide)]
        obtain ⟨i1, ν, i2, i3, i4, i5⟩ := iC q (c + 1) ω e' (by omega) (by omega) c1 ⟨by rw [hω 225 (by decide) (by decide) (by decide)]; exact ht.1, fun i hi => by rw [hω 227 (by decide) (by decide) (by decide)]; exact ht.2 i hi⟩ (by rw [g3 223 (by decide)]; exact c2) (by rw [hω4, h4, hlen]; congr 1; omega) g2 (hR0.off (fun a _ _ => hω a (by omega) (by omega) (by omega))) ⟨nw, sz, hb, ht', hH.mv (fun a _ _ _ => hω a (by omega) (by omega) (by omega))⟩
        refine ⟨c8 f1 (fun _ => ⟨g1, i1⟩) (fun z => absurd f3 z), ν, i2, fun a a1 a2 a3 => ?_, ?_, by rw [i5, hω4]⟩
        · rw [i3 a a1 a2 a3]
          exact z_rCe (hω a a1 a2 a3)
        · rw [c9, i4, z_aCs]
      · intro nn c v1 τ hnn hc hMτ h5 h18 hsd hw ⟨sz, hb, ht', hH⟩
        obtain ⟨q, ξ, eq, c1, c2, c3, c4, c5, c6⟩ := mdl nn c v1 τ hnn hc hMτ h18 (hsd 0 (Nat.succ_pos _))
        rw [hz] at c4
        rw [if_pos hz] at c6
        have h9 : ∀ j, j ≠ 5 → j ≠ 10 → ξ 229 j = τ 229 j := c3
        have s36 : ξ 236 = τ 236 := c2 236 (by decide) (by decide)
        obtain ⟨i1, ν, i2, i3, i4, i5, i6⟩ := iM q (c + 1) v1 ξ (by omega) (by omega) c1 c4 (by rw [h9 18 (by decide) (by decide), h18, hlen]; congr 1; omega) (fun j hj => by
          have := hsd (j + 1) (Nat.succ_lt_succ hj)
          rw [show c + 1 + j = c + (j + 1) by omega]
          exact ⟨by rw [s36]; exact this.1, fun i hi => by rw [s36]; exact this.2 i hi⟩) (hw.off (c2 231 (by decide) (by decide))) ⟨sz, hb, ht', hH.mv (h9 4 (by decide) (by decide)) (c2 233 (by decide) (by decide))⟩
        refine ⟨c5 (fun _ => i1), ν, i2, fun a a1 a2 => by rw [i3 a a1 a2, c2 a a1 a2], fun j j1 j2 => ?_, fun z => i5 ?_, ?_⟩
        · rw [i4 j j1 j2]
          exact z_rMe (h9 j j1 j2)
        · cases fl with
          | none => rfl
          | some j => cases z
        · rw [c6, i6, z_aMs]
    · obtain ⟨hb1, ht1⟩ := hsm hz
      subst hb1 ht1
      refine ⟨some 0, rf, b1, t1, hV.k (by omega), fun z => (by cases z), fun j z => ?_, ?_, ?_⟩
      · have : 0 = j := Option.some.inj z
        omega
      · intro nn c σ e hnn hc ha ht hx h4 hR hR0 ⟨nw, sz, hb, ht', hH⟩
        obtain ⟨q, μ, e', eq, c1, c2, c3, c4, c5, c6, c7, c8, c9⟩ := cls nn c σ e hnn hc ha ht hx h4 hR hR0
        have hRμ : z_R μ 0 b1 t1 := hR.off (fun a _ _ => c3.1 a (by omega) (by omega))
        obtain ⟨f1, f2, f3, _⟩ := hC _ _ _ c5 c6 c7 μ hRμ
        have f3 : ¬ (F_X8_faultOf (nI (20 + x.1)) (μ 224 0) (μ 224 1) (μ 224 2) μ).1 = 10 := by rw [f3]; exact hz
        rw [if_neg f3] at c9
        rw [f2] at c8 c9
        have hν : ∀ a, a ≠ 220 → a ≠ 223 → a ≠ 224 → z_rC rf μ a = σ a := fun a a1 a2 a3 => by rw [z_rCo a1, c3.1 a a2 a3]
        have hRν : z_R (z_rC rf μ) 0 b1 t1 := hR.off (fun a _ _ => hν a (by omega) (by omega) (by omega))
        have hR0ν : z_R (z_rC rf μ) 20 b0 t0 := hR0.off (fun a _ _ => hν a (by omega) (by omega) (by omega))
        obtain ⟨k1, _⟩ := z_cf (r := 0) (u := 20) (by decide) (by decide) (.inl (by decide)) hV0 hR0ν hRν.nos
        refine ⟨c8 f1 (fun z => absurd z f3) (fun _ => k1), z_rC rf μ, hRν, fun a a1 a2 a3 => z_rCe (c3.1 a a2 a3), c9, ?_⟩
        rw [z_rCo (by decide)]
        exact c3.2 4 (by decide) (by decide) (by decide)
      · intro nn c v1 τ hnn hc hMτ h5 h18 hsd hw ⟨sz, hb, ht', hH⟩
        obtain ⟨q, ξ, eq, c1, c2, c3, c4, c5, c6⟩ := mdl nn c v1 τ hnn hc hMτ h18 (hsd 0 (Nat.succ_pos _))
        rw [if_neg hz] at c6
        exact ⟨c5 (fun z => absurd z hz), ξ, c1, c2, c3, fun z => (by cases z), c6⟩
