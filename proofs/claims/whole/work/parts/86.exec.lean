/-! execute. -/
theorem z_Jx {k k' : Nat} {σ ψ : q_M} {b : Nat → Nat} {t : Nat → Nat → Nat} {nw sz : Nat} {hb : Nat → Nat → Nat} {ht : Nat → Nat → Nat → Nat} {sb : Nat → Nat} {st : Nat → Nat → Nat} (h : z_J k σ b t nw sz hb ht sb st) (hk : k ≤ k') {b' : Nat → Nat} {t' : Nat → Nat → Nat} {nw' sz' : Nat} {hb' : Nat → Nat → Nat} {ht' : Nat → Nat → Nat → Nat}
    (R : z_R ψ 0 b' t') (N : z_no ψ 20) (M : z_M ψ b' t') (V : z_V k' b' t') (HV : z_HV k' sz' hb' ht') (HC : z_HC ψ nw' sz' hb' ht') (HM : z_HM ψ sz' hb' ht') (F : z_iF ψ) (G : z_iG ψ) (e : ∀ a, (40 ≤ a ∧ a < 60) ∨ a = 226 ∨ a = 228 ∨ a = 232 ∨ a = 234 → ψ a = σ a) (e6 : ψ 220 6 = σ 220 6) (e11 : ψ 229 11 = σ 229 11) (e13 : ψ 229 13 = σ 229 13) (T1 : ψ 225 3 = 0) (T2 : ψ 229 16 = 0) : z_J k' ψ b' t' nw' sz' hb' ht' sb st := by
  obtain ⟨h1, h2, h3, h4, h5, h6, h7, h8, h9, h10, h11, h12, h13⟩ := h
  exact ⟨R, N, h3.mv (fun a a1 a2 => e a (by omega)), M, V, HV, HC, HM, h9.mv hk (fun a a1 a2 => e a (by omega)) e6 e11 (e 232 (by omega)), F, G, h12.mv (by rw [e 226 (by omega)]) (e 228 (by omega)) e13 (e 234 (by omega)), ⟨0, fun _ => 0, by decide, T1, T2, fun i hi => absurd hi (Nat.not_lt_zero i)⟩⟩
theorem z_xC {n : Nat} {tx : Nat → Nat} {k : Nat} {l : List z_C} {b : Nat → Nat} {t : Nat → Nat → Nat} {fl : Option Nat} {rf : Option (Nat × Int32)} {b' : Nat → Nat} {t' : Nat → Nat → Nat} (hC : z_hC n tx l b t b t fl rf b' t') (hl : l.length ≤ 21) (ha : z_an (z_cx n tx) n l 0) {μ : q_M} (htc : z_tc μ n tx) (h4 : μ 223 4 = nI l.length) (hV : z_V k b t) (hR : z_R μ 0 b t) (hno : z_no μ 20) {nw sz : Nat} {hb : Nat → Nat → Nat} {ht : Nat → Nat → Nat → Nat} (hH : z_HC μ nw sz hb ht) : P_X8_performAll μ ∧ ∃ ν, F_X8_performAll μ = z_aC fl 0 ν ∧ z_R ν 0 b' t' ∧ z_R ν 20 b t ∧ (∀ a, 40 ≤ a → a ≠ 223 → a ≠ 224 → ν a = z_rC rf μ a) ∧ ν 223 4 = nI l.length := by
  obtain ⟨c1, c2, c3, c4⟩ := z_cf (r := 20) (u := 0) (by decide) (by decide) (.inr (by decide)) hV hR hno
  have hs : ∀ a, a < 20 ∨ 40 ≤ a → a ≠ 223 → (q_up (F_X4_copyFrom 20 0 μ) 223 3 0) a = μ a := fun a a1 a2 => by rw [q_up_off a2, c4 a (by omega)]
  have h20 : ∀ a, a ≠ 223 → (q_up (F_X4_copyFrom 20 0 μ) 223 3 0) a = (F_X4_copyFrom 20 0 μ) a := fun a a2 => q_up_off a2
  have h3 : (q_up (F_X4_copyFrom 20 0 μ) 223 3 0) 223 3 = nI 0 := q_up_eq _ _ _ _
  have h34 : (q_up (F_X4_copyFrom 20 0 μ) 223 3 0) 223 4 = nI l.length := by rw [q_up_nj (by decide), c4 223 (by omega)]; exact h4
  have eP : P_X8_performAll μ = (P_X4_copyFrom 20 0 μ ∧ PL_X8_performAll_20 40 (nI 0) (q_up (F_X4_copyFrom 20 0 μ) 223 3 0)) := by
    unfold P_X8_performAll
    simp only [forall_eq', F_X3_rewind]
    rfl
  have eF : F_X8_performAll μ = FL_X8_performAll_20 40 (nI 0) (q_up (F_X4_copyFrom 20 0 μ) 223 3 0) := by
    unfold F_X8_performAll
    rw [z_qL2, z_qL2]
    rfl
  rw [eP, eF]
  generalize q_up (F_X4_copyFrom 20 0 μ) 223 3 0 = σ at hs h20 h3 h34
  have hR0 : z_R σ 0 b t := hR.off (fun a _ a2 => hs a (by omega) (by omega))
  have hR20 : z_R σ 20 b t := c2.off (fun a _ a2 => h20 a (by omega))
  obtain ⟨i1, ν, i2, i3, i4, i5⟩ := hC 40 0 σ 0 (by omega) (by omega) ha ⟨by rw [hs 225 (by omega) (by decide)]; exact htc.1, fun i hi => by rw [hs 227 (by omega) (by decide)]; exact htc.2 i hi⟩ h3 (by rw [h34, Nat.zero_add]) hR0 hR20 ⟨nw, sz, hb, ht, hH.mv (fun a _ _ _ => hs a (by omega) (by omega))⟩
  refine ⟨⟨c1, i1⟩, ν, i4, i2, hR20.off (fun a a1 a2 => ?_), fun a a1 a2 a3 => ?_, by rw [i5]; exact h34⟩
  · rw [i3 a (by omega) (by omega) (by omega), z_rCo (by omega)]
  · rw [i3 a (by omega) a2 a3]
    exact z_rCe (hs a (by omega) a2)
theorem z_xM {n : Nat} {tx : Nat → Nat} (hn : n ≤ 60) (htx : ∀ i, i < n → tx i < 200) {b : Nat → Nat} {t : Nat → Nat → Nat} {fl : Option Nat} {rf : Option (Nat × Int32)} {b' : Nat → Nat} {t' : Nat → Nat → Nat} (hMl : z_hM (z_pg (z_cx n tx) n 21 0).2.2 b t b t fl rf b' t') (hg : (z_pg (z_cx n tx) n 21 0).1 = true) (hl : (z_pg (z_cx n tx) n 21 0).2.2.length ≤ 21) {ω : q_M} (htm : z_tm ω n tx) (hM : z_M ω b t) {sz : Nat} {hb : Nat → Nat → Nat} {ht : Nat → Nat → Nat → Nat} (hH : z_HM ω sz hb ht) : P_X9_execute ω ∧ ∃ ξ, F_X9_execute ω = z_aM fl 0 ξ ∧ z_M ξ b' t' ∧ (∀ a, a ≠ 229 → a ≠ 230 → a ≠ 231 → a ≠ 236 → ξ a = ω a) ∧ (∀ j, j ≠ 5 → j ≠ 10 → j ≠ 16 → j ≠ 17 → j ≠ 18 → ξ 229 j = z_rM rf ω 229 j) ∧ ξ 229 16 = 0 ∧ (fl = none → ξ 229 5 = 0) ∧ ξ 229 18 = nI (z_pg (z_cx n tx) n 21 0).2.2.length ∧ z_Mr ξ 231 0 b t ∧ z_HM ξ sz hb ht := by
  obtain ⟨p1, ν, p2, p3, p4, p5, p6⟩ := z_ip hn htx htm
  obtain ⟨g1, g2⟩ := p4 hg
  rw [z_b1' hg] at p2
  have hν : ∀ a, a ≠ 229 → (q_up (q_up ν 229 16 0) 229 5 0) a = ν a := fun a ha => by rw [q_up_off ha, q_up_off ha]
  have hν9 : ∀ j, j ≠ 5 → j ≠ 16 → (q_up (q_up ν 229 16 0) 229 5 0) 229 j = ν 229 j := fun j j1 j2 => by rw [q_up_nj j1, q_up_nj j2]
  have hν16 : (q_up (q_up ν 229 16 0) 229 5 0) 229 16 = 0 := by rw [q_up_nj (by decide), q_up_eq]
  have eP : P_X9_keeps (q_up (q_up ν 229 16 0) 229 5 0) → PL_X9_execute_43 40 1 (nI 0) (F_X9_keeps (q_up (q_up ν 229 16 0) 229 5 0)) → P_X9_execute ω := by
    intro a1 a2
    unfold P_X9_execute
    simp only [p2, forall_eq']
    exact ⟨p1, fun q => absurd q (by decide), fun _ => ⟨a1, a2⟩⟩
  have eF : F_X9_execute ω = FL_X9_execute_43 40 1 (nI 0) (F_X9_keeps (q_up (q_up ν 229 16 0) 229 5 0)) := by
    unfold F_X9_execute
    simp only [z_qL2, p2]
    rw [if_neg (by decide)]
    rfl
  generalize q_up (q_up ν 229 16 0) 229 5 0 = κ0 at hν hν9 hν16 eP eF
  have hω : ∀ a, a ≠ 229 → a ≠ 236 → κ0 a = ω a := fun a a1 a2 => by rw [hν a a1, p5 a a1 a2]
  have hω9 : ∀ j, j ≠ 5 → j ≠ 16 → j ≠ 17 → j ≠ 18 → κ0 229 j = ω 229 j := fun j j1 j2 j3 j4 => by rw [hν9 j j1 j2, p6 j j3 j4]
  obtain ⟨k1, k2, k3, k4, k5, k6⟩ := z_keeps κ0 (b := b) (t := t) (hM.off (hω 230 (by decide) (by decide)))
  have h36 : (F_X9_keeps κ0) 236 = ν 236 := by rw [k5 236 (by decide) (by decide), hν 236 (by decide)]
  obtain ⟨i1, ξ, i2, i3, i4, i5, i6⟩ := hMl 40 0 1 (F_X9_keeps κ0) (by omega) (by omega) k2 k4 (by rw [k6 18 (by decide), hν9 18 (by decide) (by decide), Nat.zero_add]; exact g1) (fun j hj => by
    rw [Nat.zero_add]
    exact ⟨by rw [h36]; exact (g2 j hj).1, fun i hi => by rw [h36]; exact (g2 j hj).2 i hi⟩) k3 ⟨sz, hb, ht, hH.mv (by rw [k6 4 (by decide), hω9 4 (by decide) (by decide) (by decide) (by decide)]) (by rw [k5 233 (by decide) (by decide), hω 233 (by decide) (by decide)])⟩
  have i9 : ∀ j, j ≠ 5 → j ≠ 10 → j ≠ 8 → j ≠ 9 → ξ 229 j = κ0 229 j := fun j j1 j2 j3 j4 => by rw [i4 j j1 j2, z_rMj j3 j4, k6 j j1]
  refine ⟨eP k1 i1, ξ, by rw [eF, i6], i2, fun a a1 a2 a3 a4 => ?_, fun j j1 j2 j3 j4 j5 => ?_, ?_, i5, ?_, k3.off (i3 231 (by decide) (by decide)), hH.mv ?_ ?_⟩
  · rw [i3 a a1 a2, k5 a a1 a3, hω a a1 a4]
  · rw [i4 j j1 j2]
    exact z_rMe (by rw [k6 j j1, hω9 j j1 j3 j4 j5])
  · rw [i9 16 (by decide) (by decide) (by decide) (by decide)]; exact hν16
  · rw [i9 18 (by decide) (by decide) (by decide) (by decide), hν9 18 (by decide) (by decide)]; exact g1
  · rw [i9 4 (by decide) (by decide) (by decide) (by decide), hω9 4 (by decide) (by decide) (by decide) (by decide)]
  · rw [i3 233 (by decide) (by decide), k5 233 (by decide) (by decide), hω 233 (by decide) (by decide)]
theorem z_nm9 {n : Nat} (h : n < 1000) : ¬ nI n = (-1 : Int32) := by
  intro q
  have := congrArg Int32.toInt q
  rw [nI_toInt (by omega)] at this
  have e : (-1 : Int32).toInt = -1 := by decide +kernel
  rw [e] at this
  omega
theorem sq_execute {k : Nat} {σ : q_M} (hk : k < 512) (hI : z_Inv k σ) : sim_execute σ ∧ z_Inv (k + 1) (to_execute σ) := by
  obtain ⟨b, t, nw, sz, hb, ht, sb, st, hJ⟩ := hI
  have hJ' := hJ
  obtain ⟨h1, h2, h3, h4, h5, h6, h7, h8, h9, h10, h11, h12, n, tx, hn, T1, T2, T3⟩ := hJ'
  have htx : ∀ i, i < n → tx i < 200 := fun i hi => by have := (T3 i hi).2.2.2; omega
  have htc : z_tc σ n tx := ⟨T1, fun i hi => (T3 i hi).1⟩
  obtain ⟨fP, μ, fF, fN, fR⟩ := z_fe hn htx htc
  have hI2 := z_pgI (s := z_cx n tx) (n := n) z_cx0 21 0 (Nat.zero_le _)
  have hwf := z_pgW (s := z_cx n tx) (n := n) z_cx0 21 0 (Nat.zero_le _)
  unfold sim_execute q_SimI to_execute
  by_cases hg : (z_pg (z_cx n tx) n 21 0).1 = true
  · rw [if_pos hg] at fF
    have fN := fN hg
    obtain ⟨fl, rf, b', t', hV', hf, hj, hC, hM⟩ := z_lp hn htx h5 (z_pg (z_cx n tx) n 21 0).2.2 (31 * k) b t hwf h5 (by omega)
    have hRμ : z_R μ 0 b t := h1.off (fun a _ a2 => fR a (by omega) (by omega))
    have hHμ : z_HC μ nw sz hb ht := h7.mv (fun a _ _ _ => fR a (by omega) (by omega))
    obtain ⟨c1, ν, c2, c3, c4, c5, c6⟩ := z_xC hC hI2.2 (.inr ⟨21, 0, Nat.zero_le _, .inl ⟨rfl, rfl⟩, hg, rfl⟩) (fR.tc htc) fN h5 hRμ (h2.mv (fun a _ _ => fR a (by omega) (by omega))) hHμ
    have hP : P_X8_execute σ := by
      unfold P_X8_execute
      simp only [fF, forall_eq']
      exact ⟨fP, fun _ => ⟨c1, trivial⟩, fun q => absurd trivial q⟩
    have hνσ : ∀ a, 40 ≤ a → a ≠ 220 → a ≠ 223 → a ≠ 224 → ν a = σ a := fun a a1 a2 a3 a4 => by rw [c5 a a1 a3 a4, z_rCo a2, fR a a3 a4]
    have hν0 : ∀ j, ν 220 j = z_rC rf σ 220 j := fun j => by rw [c5 220 (by decide) (by decide) (by decide), z_rCe (fR 220 (by decide) (by decide))]
    cases fl with
    | none =>
      have hrf := hf rfl
      subst hrf
      have hν0 : ν 220 = σ 220 := funext hν0
      have hνσ : ∀ a, 40 ≤ a → a ≠ 223 → a ≠ 224 → ν a = σ a := fun a a1 a3 a4 => by
        by_cases e : a = 220
        · rw [e]; exact hν0
        · exact hνσ a a1 e a3 a4
      have c2 : F_X8_performAll μ = (-1, F_X2_push 20 ν) := c2
      obtain ⟨p1, p2, p3⟩ := z_push (r := 20) (by decide) c4 h5 (h7.mv (fun a a1 _ _ => hνσ a (by omega) (by omega) (by omega)))
      have e4 : (q_up (F_X2_push 20 ν) 225 3 0) 223 4 = nI (z_pg (z_cx n tx) n 21 0).2.2.length := by rw [q_up_nk (by decide), p3 223 (by omega)]; exact c6
      have eF : F_X8_execute σ = (.inl (nI (z_pg (z_cx n tx) n 21 0).2.2.length), q_up (F_X2_push 20 ν) 225 3 0) := by
        unfold F_X8_execute
        simp only [z_qL2, fF]
        rw [if_pos trivial, c2]
        dsimp only
        rw [if_pos rfl, e4]
      have eW : W_execute σ = (0, q_up (q_up (F_X2_push 20 ν) 225 3 0) 237 0 (nI (z_pg (z_cx n tx) n 21 0).2.2.length)) := by
        unfold W_execute
        rw [eF]
      rw [eW]
      dsimp only
      have w1 : ∀ a, a ≠ 225 → a ≠ 237 → (q_up (q_up (F_X2_push 20 ν) 225 3 0) 237 0 (nI (z_pg (z_cx n tx) n 21 0).2.2.length)) a = (F_X2_push 20 ν) a := fun a a1 a2 => by rw [q_up_off a2, q_up_off a1]
      have w2 : (q_up (q_up (F_X2_push 20 ν) 225 3 0) 237 0 (nI (z_pg (z_cx n tx) n 21 0).2.2.length)) 237 0 = nI (z_pg (z_cx n tx) n 21 0).2.2.length := q_up_eq _ _ _ _
      have w3 : (q_up (q_up (F_X2_push 20 ν) 225 3 0) 237 0 (nI (z_pg (z_cx n tx) n 21 0).2.2.length)) 225 3 = 0 := by rw [q_up_nk (by decide), q_up_eq]
      generalize q_up (q_up (F_X2_push 20 ν) 225 3 0) 237 0 (nI (z_pg (z_cx n tx) n 21 0).2.2.length) = ω at w1 w2 w3
      have wσ : ∀ a, 40 ≤ a → a < 60 ∨ 222 ≤ a ∨ a = 220 → a ≠ 223 → a ≠ 224 → a ≠ 225 → a ≠ 237 → ω a = σ a := fun a a0 a1 a2 a3 a4 a5 => by rw [w1 a a4 a5, p3 a a1, hνσ a a0 a2 a3]
      have w9 := wσ 229 (by decide) (by decide) (by decide) (by decide) (by decide) (by decide)
      obtain ⟨m1, ξ, m2, m3, m4, m5, m6, m7, m8, m9, m10⟩ := z_xM hn htx hM hg hI2.2 (ω := ω) ⟨by rw [w9]; exact T2, fun i hi => by rw [wσ 235 (by decide) (by decide) (by decide) (by decide) (by decide) (by decide)]; exact (T3 i hi).2.1⟩ (h4.off (wσ 230 (by decide) (by decide) (by decide) (by decide) (by decide) (by decide))) (h8.mv (by rw [w9]) (wσ 233 (by decide) (by decide) (by decide) (by decide) (by decide) (by decide)))
      have m5 : ∀ j, j ≠ 5 → j ≠ 10 → j ≠ 16 → j ≠ 17 → j ≠ 18 → ξ 229 j = σ 229 j := fun j j1 j2 j3 j4 j5 => by rw [m5 j j1 j2 j3 j4 j5]; show ω 229 j = _; rw [w9]
      obtain ⟨e1, e2, e3, e4, e5⟩ := z_ends (ξ 229 18) m10 m9 (m7 rfl)
      have m2 : F_X9_execute ω = F_X9_ends (ξ 229 18) ξ := m2
      rw [m2]
      have ψσ : ∀ a, 40 ≤ a → a < 60 ∨ 222 ≤ a ∨ a = 220 → a ≠ 223 → a ≠ 224 → a ≠ 225 → a ≠ 237 → a ≠ 229 → a ≠ 230 → a ≠ 231 → a ≠ 233 → a ≠ 236 → (F_X9_ends (ξ 229 18) ξ).2 a = σ a := fun a a0 a1 a2 a3 a4 a5 a6 a7 a8 a9 a10 => by rw [e4 a a6 a9, m4 a a6 a7 a8 a10, wσ a a0 a1 a2 a3 a4 a5]
      have ψν : ∀ a, a ≠ 225 → a ≠ 229 → a ≠ 230 → a ≠ 231 → a ≠ 233 → a ≠ 236 → a ≠ 237 → (F_X9_ends (ξ 229 18) ξ).2 a = (F_X2_push 20 ν) a := fun a a1 a2 a3 a4 a5 a6 a7 => by rw [e4 a a2 a5, m4 a a2 a3 a4 a6, w1 a a1 a7]
      have ψ9 : ∀ j, j ≠ 4 → j ≠ 5 → j ≠ 10 → j ≠ 16 → j ≠ 17 → j ≠ 18 → (F_X9_ends (ξ 229 18) ξ).2 229 j = σ 229 j := fun j j0 j1 j2 j3 j4 j5 => by rw [e5 j j0, m5 j j1 j2 j3 j4 j5]
      have ψ0 := ψσ 220 (by decide) (by decide) (by decide) (by decide) (by decide) (by decide) (by decide) (by decide) (by decide) (by decide) (by decide)
      refine ⟨⟨⟨hP, fun E q => ?_⟩, m1, ?_, fun _ => ?_⟩, b', t', (nw + 1) % 8, z_s1 sz, z_sh sz hb b, z_sh sz ht t, sb, st, z_Jx hJ (by omega) ?_ ?_ (m3.off (e4 230 (by decide) (by decide))) (hV'.k (by omega)) ((h6.sh h5).k (by omega)) ?_ e3 ?_ ?_ (fun a ha => ?_) (by rw [ψ0]) (ψ9 11 (by decide) (by decide) (by decide) (by decide) (by decide) (by decide)) (ψ9 13 (by decide) (by decide) (by decide) (by decide) (by decide) (by decide)) ?_ ?_⟩
      · rw [eF] at q
        injection q
      · rw [e5 5 (by decide)]; exact m7 rfl
      · rw [e2, e4 237 (by decide) (by decide), m4 237 (by decide) (by decide) (by decide) (by decide), w2, m8]
      · exact c3.off (fun a _ a2 => by rw [ψν a (by omega) (by omega) (by omega) (by omega) (by omega) (by omega) (by omega), p3 a (by omega)])
      · exact c4.nos.mv (fun a _ a2 => by rw [ψν a (by omega) (by omega) (by omega) (by omega) (by omega) (by omega) (by omega), p3 a (by omega)])
      · exact p2.mv (fun a a1 a2 a3 => by rw [ψν a (by omega) (by omega) (by omega) (by omega) (by omega) (by omega) (by omega)])
      · exact h10.mv (by rw [ψ0]) (by rw [ψ0]) (ψ9 8 (by decide) (by decide) (by decide) (by decide) (by decide) (by decide)) (ψ9 9 (by decide) (by decide) (by decide) (by decide) (by decide) (by decide))
      · exact h11.mv (by rw [ψ0]) (by rw [ψ0]) (ψ9 6 (by decide) (by decide) (by decide) (by decide) (by decide) (by decide)) (ψ9 7 (by decide) (by decide) (by decide) (by decide) (by decide) (by decide))
      · exact ψσ a (by omega) (by omega) (by omega) (by omega) (by omega) (by omega) (by omega) (by omega) (by omega) (by omega) (by omega)
      · rw [e4 225 (by decide) (by decide), m4 225 (by decide) (by decide) (by decide) (by decide)]; exact w3
      · rw [e5 16 (by decide)]; exact m6
    | some j =>
      have hjl := hj j rfl
      have c2 : F_X8_performAll μ = (nI j, F_X4_copyFrom 0 20 ν) := by
        rw [c2]
        show (nI (0 + j), _) = _
        rw [Nat.zero_add]
      have hjn : ¬ nI j = (-1 : Int32) := z_nm9 (by omega)
      obtain ⟨p1, p2, p3, p4⟩ := z_cf (r := 0) (u := 20) (by decide) (by decide) (.inl (by decide)) h5 c4 c3.nos
      have eF : F_X8_execute σ = (.inr "java/lang/IllegalStateException", q_up (q_up (F_X4_copyFrom 0 20 ν) 225 3 0) 220 10 (nI j)) := by
        unfold F_X8_execute
        simp only [z_qL2, fF]
        rw [if_pos trivial, c2]
        dsimp only
        rw [if_neg hjn]
      have eW : W_execute σ = (2, q_up (q_up (F_X4_copyFrom 0 20 ν) 225 3 0) 220 10 (nI j)) := by
        unfold W_execute
        rw [eF]
        show (q_code nx_execute "java/lang/IllegalStateException", _) = _
        rw [show q_code nx_execute "java/lang/IllegalStateException" = 2 by decide +kernel]
      rw [eW]
      dsimp only
      have w1 : ∀ a, a ≠ 220 → a ≠ 225 → (q_up (q_up (F_X4_copyFrom 0 20 ν) 225 3 0) 220 10 (nI j)) a = (F_X4_copyFrom 0 20 ν) a := fun a a1 a2 => by rw [q_up_off a1, q_up_off a2]
      have w2 : ∀ i, i ≠ 10 → (q_up (q_up (F_X4_copyFrom 0 20 ν) 225 3 0) 220 10 (nI j)) 220 i = z_rC rf σ 220 i := fun i hi => by rw [q_up_nj hi, q_up_nk (by decide), p4 220 (by omega), hν0]
      have w3 : (q_up (q_up (F_X4_copyFrom 0 20 ν) 225 3 0) 220 10 (nI j)) 220 10 = nI j := q_up_eq _ _ _ _
      have w4 : (q_up (q_up (F_X4_copyFrom 0 20 ν) 225 3 0) 220 10 (nI j)) 225 3 = 0 := by rw [q_up_nk (by decide), q_up_eq]
      generalize q_up (q_up (F_X4_copyFrom 0 20 ν) 225 3 0) 220 10 (nI j) = ω at w1 w2 w3 w4
      have wσ : ∀ a, 40 ≤ a → a ≠ 220 → a ≠ 223 → a ≠ 224 → a ≠ 225 → ω a = σ a := fun a a0 a1 a2 a3 a4 => by rw [w1 a a1 a4, p4 a (by omega), hνσ a a0 a1 a2 a3]
      have w9 := wσ 229 (by decide) (by decide) (by decide) (by decide) (by decide)
      obtain ⟨m1, ξ, m2, m3, m4, m5, m6, m7, m8, m9, m10⟩ := z_xM hn htx hM hg hI2.2 (ω := ω) ⟨by rw [w9]; exact T2, fun i hi => by rw [wσ 235 (by decide) (by decide) (by decide) (by decide) (by decide)]; exact (T3 i hi).2.1⟩ (h4.off (wσ 230 (by decide) (by decide) (by decide) (by decide) (by decide))) (h8.mv (by rw [w9]) (wσ 233 (by decide) (by decide) (by decide) (by decide) (by decide)))
      have m5 : ∀ j, j ≠ 5 → j ≠ 10 → j ≠ 16 → j ≠ 17 → j ≠ 18 → ξ 229 j = z_rM rf σ 229 j := fun j j1 j2 j3 j4 j5 => by rw [m5 j j1 j2 j3 j4 j5]; exact z_rMe (by rw [w9])
      obtain ⟨e1, e2, e3⟩ := z_cp (f := 231) (g := 230) (a := 0) (b := 0) (.inl (by decide)) (by decide) (by decide) (by decide) (by decide) ξ
      have e2 : ∀ k, k < 118 → F_X9_copies 231 0 230 0 ξ 230 (0 + k) = ξ 231 (0 + k) := e2
      have e3 : ∀ p j, p ≠ 230 ∨ j < 0 ∨ 0 + 118 ≤ j → F_X9_copies 231 0 230 0 ξ p j = ξ p j := e3
      have hM2 : z_M (F_X9_copies 231 0 230 0 ξ) b t := (m9.cp (p' := 230) (o' := 0) e2).m
      have m2 : F_X9_execute ω = (0, q_up (q_up (F_X9_copies 231 0 230 0 ξ) 229 7 (nI j)) 229 5 2) := by
        rw [m2]
        show (_, q_up (q_up _ 229 7 (nI (0 + j))) 229 5 2) = _
        rw [Nat.zero_add]
      rw [m2]
      dsimp only
      have v1 : ∀ a, a ≠ 229 → a ≠ 230 → (q_up (q_up (F_X9_copies 231 0 230 0 ξ) 229 7 (nI j)) 229 5 2) a = ξ a := fun a a1 a2 => by rw [q_up_off a1, q_up_off a1]; exact funext fun i => e3 a i (.inl a2)
      have v2 : ∀ i, i ≠ 5 → i ≠ 7 → (q_up (q_up (F_X9_copies 231 0 230 0 ξ) 229 7 (nI j)) 229 5 2) 229 i = ξ 229 i := fun i i1 i2 => by rw [q_up_nj i1, q_up_nj i2]; exact e3 229 i (.inl (by decide))
      have v3 : (q_up (q_up (F_X9_copies 231 0 230 0 ξ) 229 7 (nI j)) 229 5 2) 229 7 = nI j := by rw [q_up_nj (by decide), q_up_eq]
      have v4 : (q_up (q_up (F_X9_copies 231 0 230 0 ξ) 229 7 (nI j)) 229 5 2) 229 5 = 2 := q_up_eq _ _ _ _
      have v5 : z_M (q_up (q_up (F_X9_copies 231 0 230 0 ξ) 229 7 (nI j)) 229 5 2) b t := hM2.u9.u9
      generalize q_up (q_up (F_X9_copies 231 0 230 0 ξ) 229 7 (nI j)) 229 5 2 = ψ at v1 v2 v3 v4 v5
      have ψω : ∀ a, a ≠ 229 → a ≠ 230 → a ≠ 231 → a ≠ 236 → ψ a = ω a := fun a a1 a2 a3 a4 => by rw [v1 a a1 a2, m4 a a1 a2 a3 a4]
      have ψσ : ∀ a, 40 ≤ a → a ≠ 220 → a ≠ 223 → a ≠ 224 → a ≠ 225 → a ≠ 229 → a ≠ 230 → a ≠ 231 → a ≠ 236 → ψ a = σ a := fun a a0 a1 a2 a3 a4 a5 a6 a7 a8 => by rw [ψω a a5 a6 a7 a8, wσ a a0 a1 a2 a3 a4]
      have ψ9 : ∀ i, i ≠ 5 → i ≠ 7 → i ≠ 10 → i ≠ 16 → i ≠ 17 → i ≠ 18 → ψ 229 i = z_rM rf σ 229 i := fun i i1 i2 i3 i4 i5 i6 => by rw [v2 i i1 i2, m5 i i1 i3 i4 i5 i6]
      have ψ0 : ∀ i, i ≠ 10 → ψ 220 i = z_rC rf σ 220 i := fun i hi => by rw [ψω 220 (by decide) (by decide) (by decide) (by decide), w2 i hi]
      have ψ010 : ψ 220 10 = nI j := by rw [ψω 220 (by decide) (by decide) (by decide) (by decide), w3]
      refine ⟨⟨⟨hP, fun E q => ?_⟩, m1, v4, fun q => absurd q (by decide)⟩, b, t, nw, sz, hb, ht, sb, st, z_Jx hJ (by omega) ?_ ?_ v5 (h5.k (by omega)) (h6.k (by omega)) ?_ ?_ ?_ ?_ (fun a ha => ?_) ?_ ?_ ?_ ?_ ?_⟩
      · rw [eF] at q
        injection q with q
        rw [← q]
        simp
      · exact p2.off (fun a _ a2 => by rw [ψω a (by omega) (by omega) (by omega) (by omega), w1 a (by omega) (by omega)])
      · exact c4.nos.mv (fun a _ a2 => by rw [ψω a (by omega) (by omega) (by omega) (by omega), w1 a (by omega) (by omega), p4 a (by omega)])
      · exact h7.mv (fun a a1 a2 a3 => ψσ a (by omega) (by omega) (by omega) (by omega) (by omega) (by omega) (by omega) (by omega) (by omega))
      · exact h8.mv (by rw [ψ9 4 (by decide) (by decide) (by decide) (by decide) (by decide) (by decide), z_rMj (by decide) (by decide)]) (ψσ 233 (by decide) (by decide) (by decide) (by decide) (by decide) (by decide) (by decide) (by decide) (by decide))
      · have hF := h10.rf (rf := rf) (μ := fun a i => if a = 220 then z_rC rf σ 220 i else z_rM rf σ 229 i) (fun i => if_pos rfl) (fun i _ => if_neg (by decide))
        unfold z_iF at hF ⊢
        rw [ψ0 7 (by decide), ψ0 8 (by decide), ψ9 8 (by decide) (by decide) (by decide) (by decide) (by decide) (by decide), ψ9 9 (by decide) (by decide) (by decide) (by decide) (by decide) (by decide)]
        exact hF
      · unfold z_iG at h11 ⊢
        rw [ψ0 9 (by decide), z_rCj (by decide) (by decide), ψ010, ψ9 6 (by decide) (by decide) (by decide) (by decide) (by decide) (by decide), z_rMj (by decide) (by decide), v3]
        exact ⟨h11.1, rfl, h11.2.2.1, .inr ⟨j, by omega, rfl⟩⟩
      · exact ψσ a (by omega) (by omega) (by omega) (by omega) (by omega) (by omega) (by omega) (by omega) (by omega)
      · rw [ψ0 6 (by decide), z_rCj (by decide) (by decide)]
      · rw [ψ9 11 (by decide) (by decide) (by decide) (by decide) (by decide) (by decide), z_rMj (by decide) (by decide)]
      · rw [ψ9 13 (by decide) (by decide) (by decide) (by decide) (by decide) (by decide), z_rMj (by decide) (by decide)]
      · rw [ψω 225 (by decide) (by decide) (by decide) (by decide)]; exact w4
      · rw [v2 16 (by decide) (by decide)]; exact m6
  · rw [if_neg hg] at fF
    have hpn : ¬ nI (z_pg (z_cx n tx) n 21 0).2.1 = (-1 : Int32) := z_nm9 (by omega)
    have hP : P_X8_execute σ := by
      unfold P_X8_execute
      simp only [fF, forall_eq']
      exact ⟨fP, fun q => absurd q hpn, fun _ => trivial⟩
    have eF : F_X8_execute σ = (.inr "java/lang/IllegalArgumentException", q_up (q_up μ 225 3 0) 220 9 (nI (z_pg (z_cx n tx) n 21 0).2.1)) := by
      unfold F_X8_execute
      simp only [z_qL2, fF]
      rw [if_neg hpn]
    have eW : W_execute σ = (1, q_up (q_up μ 225 3 0) 220 9 (nI (z_pg (z_cx n tx) n 21 0).2.1)) := by
      unfold W_execute
      rw [eF]
      show (q_code nx_execute "java/lang/IllegalArgumentException", _) = _
      rw [show q_code nx_execute "java/lang/IllegalArgumentException" = 1 by decide +kernel]
    rw [eW]
    dsimp only
    have w1 : ∀ a, a ≠ 220 → a ≠ 223 → a ≠ 224 → a ≠ 225 → (q_up (q_up μ 225 3 0) 220 9 (nI (z_pg (z_cx n tx) n 21 0).2.1)) a = σ a := fun a a1 a2 a3 a4 => by rw [q_up_off a1, q_up_off a4, fR a a2 a3]
    have w2 : ∀ i, i ≠ 9 → (q_up (q_up μ 225 3 0) 220 9 (nI (z_pg (z_cx n tx) n 21 0).2.1)) 220 i = σ 220 i := fun i hi => by rw [q_up_nj hi, q_up_nk (by decide), fR 220 (by decide) (by decide)]
    have w3 : (q_up (q_up μ 225 3 0) 220 9 (nI (z_pg (z_cx n tx) n 21 0).2.1)) 220 9 = nI (z_pg (z_cx n tx) n 21 0).2.1 := q_up_eq _ _ _ _
    have w4 : (q_up (q_up μ 225 3 0) 220 9 (nI (z_pg (z_cx n tx) n 21 0).2.1)) 225 3 = 0 := by rw [q_up_nk (by decide), q_up_eq]
    generalize q_up (q_up μ 225 3 0) 220 9 (nI (z_pg (z_cx n tx) n 21 0).2.1) = ω at w1 w2 w3 w4
    have w9 := w1 229 (by decide) (by decide) (by decide) (by decide)
    obtain ⟨p1, ν, p2, p3, p4, p5, p6⟩ := z_ip hn htx (τ := ω) ⟨by rw [w9]; exact T2, fun i hi => by rw [w1 235 (by decide) (by decide) (by decide) (by decide)]; exact (T3 i hi).2.1⟩
    rw [z_b0 hg] at p2
    have hPM : P_X9_execute ω := by
      unfold P_X9_execute
      simp only [p2, forall_eq']
      exact ⟨p1, fun _ => trivial, fun q => absurd trivial q⟩
    have eM : F_X9_execute ω = (0, q_up (q_up (q_up ν 229 16 0) 229 5 1) 229 6 (nI (z_pg (z_cx n tx) n 21 0).2.1)) := by
      unfold F_X9_execute
      simp only [z_qL2, p2]
      rw [if_pos trivial, q_up_nj (by decide), p3]
    rw [eM]
    dsimp only
    have v1 : ∀ a, a ≠ 229 → (q_up (q_up (q_up ν 229 16 0) 229 5 1) 229 6 (nI (z_pg (z_cx n tx) n 21 0).2.1)) a = ν a := fun a a1 => by rw [q_up_off a1, q_up_off a1, q_up_off a1]
    have v2 : ∀ i, i ≠ 5 → i ≠ 6 → i ≠ 16 → (q_up (q_up (q_up ν 229 16 0) 229 5 1) 229 6 (nI (z_pg (z_cx n tx) n 21 0).2.1)) 229 i = ν 229 i := fun i i1 i2 i3 => by rw [q_up_nj i2, q_up_nj i1, q_up_nj i3]
    have v3 : (q_up (q_up (q_up ν 229 16 0) 229 5 1) 229 6 (nI (z_pg (z_cx n tx) n 21 0).2.1)) 229 6 = nI (z_pg (z_cx n tx) n 21 0).2.1 := q_up_eq _ _ _ _
    have v4 : (q_up (q_up (q_up ν 229 16 0) 229 5 1) 229 6 (nI (z_pg (z_cx n tx) n 21 0).2.1)) 229 5 = 1 := by rw [q_up_nj (by decide), q_up_eq]
    have v5 : (q_up (q_up (q_up ν 229 16 0) 229 5 1) 229 6 (nI (z_pg (z_cx n tx) n 21 0).2.1)) 229 16 = 0 := by rw [q_up_nj (by decide), q_up_nj (by decide), q_up_eq]
    generalize q_up (q_up (q_up ν 229 16 0) 229 5 1) 229 6 (nI (z_pg (z_cx n tx) n 21 0).2.1) = ψ at v1 v2 v3 v4 v5
    have ψω : ∀ a, a ≠ 229 → a ≠ 236 → ψ a = ω a := fun a a1 a2 => by rw [v1 a a1, p5 a a1 a2]
    have ψσ : ∀ a, a ≠ 220 → a ≠ 223 → a ≠ 224 → a ≠ 225 → a ≠ 229 → a ≠ 236 → ψ a = σ a := fun a a1 a2 a3 a4 a5 a6 => by rw [ψω a a5 a6, w1 a a1 a2 a3 a4]
    have ψ9 : ∀ i, i ≠ 5 → i ≠ 6 → i ≠ 16 → i ≠ 17 → i ≠ 18 → ψ 229 i = σ 229 i := fun i i1 i2 i3 i4 i5 => by rw [v2 i i1 i2 i3, p6 i i4 i5, w9]
    have ψ0 : ∀ i, i ≠ 9 → ψ 220 i = σ 220 i := fun i hi => by rw [ψω 220 (by decide) (by decide), w2 i hi]
    have ψ09 : ψ 220 9 = nI (z_pg (z_cx n tx) n 21 0).2.1 := by rw [ψω 220 (by decide) (by decide), w3]
    refine ⟨⟨⟨hP, fun E q => ?_⟩, hPM, v4, fun q => absurd q (by decide)⟩, b, t, nw, sz, hb, ht, sb, st, z_Jx hJ (by omega) ?_ ?_ ?_ (h5.k (by omega)) (h6.k (by omega)) ?_ ?_ ?_ ?_ (fun a ha => ?_) (ψ0 6 (by decide)) (ψ9 11 (by decide) (by decide) (by decide) (by decide) (by decide)) (ψ9 13 (by decide) (by decide) (by decide) (by decide) (by decide)) ?_ v5⟩
    · rw [eF] at q
      injection q with q
      rw [← q]
      simp
    · exact h1.off (fun a _ a2 => ψσ a (by omega) (by omega) (by omega) (by omega) (by omega) (by omega))
    · exact h2.mv (fun a _ a2 => ψσ a (by omega) (by omega) (by omega) (by omega) (by omega) (by omega))
    · exact h4.off (ψσ 230 (by decide) (by decide) (by decide) (by decide) (by decide) (by decide))
    · exact h7.mv (fun a a1 a2 a3 => ψσ a (by omega) (by omega) (by omega) (by omega) (by omega) (by omega))
    · exact h8.mv (ψ9 4 (by decide) (by decide) (by decide) (by decide) (by decide)) (ψσ 233 (by decide) (by decide) (by decide) (by decide) (by decide) (by decide))
    · exact h10.mv (ψ0 7 (by decide)) (ψ0 8 (by decide)) (ψ9 8 (by decide) (by decide) (by decide) (by decide) (by decide)) (ψ9 9 (by decide) (by decide) (by decide) (by decide) (by decide))
    · unfold z_iG at h11 ⊢
      rw [ψ0 10 (by decide), ψ09, v3, ψ9 7 (by decide) (by decide) (by decide) (by decide) (by decide)]
      exact ⟨rfl, h11.2.1, .inr ⟨_, by omega, rfl⟩, h11.2.2.2⟩
    · exact ψσ a (by omega) (by omega) (by omega) (by omega) (by omega) (by omega)
    · rw [ψω 225 (by decide) (by decide)]; exact w4
