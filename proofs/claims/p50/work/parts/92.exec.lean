/-! execute. -/
theorem z_exB : z_bad (q_code nc_execute "java/lang/IllegalStateException") ∧ z_bad (q_code nc_execute "java/lang/IllegalArgumentException") := by
  unfold z_bad
  decide +kernel
theorem c_execute {k n : Nat} {tx : Nat → Nat} {σ : q_M} {b : Nat → Nat} {t : Nat → Nat → Nat} {nw sz : Nat} {hb : Nat → Nat → Nat} {ht : Nat → Nat → Nat → Nat} {sb : Nat → Nat} {st : Nat → Nat → Nat} (hk : k + 21 ≤ 20000) (hn : n ≤ 60) (htx : ∀ i, i < n → tx i < 200) (htc : z_tc σ n tx) (h1 : z_R σ 0 b t) (h2 : z_no σ 20) (h3 : z_no σ 40) (h5 : z_V k b t) (h6 : z_HV k sz hb ht) (h7 : z_HC σ nw sz hb ht) (h9 : z_cS k σ sb st) (h12 : z_cB σ) : Q_execute σ ∧ z_wo (k + 30) b t nw sz hb ht sb st (W_execute σ) := by
  obtain ⟨fP, μ, fF, fN, fR⟩ := z_fe hn htx htc
  have hI2 := z_pgI (s := z_cx n tx) (n := n) z_cx0 21 0 (Nat.zero_le _)
  have hwf := z_pgW (s := z_cx n tx) (n := n) z_cx0 21 0 (Nat.zero_le _)
  by_cases hg : (z_pg (z_cx n tx) n 21 0).1 = true
  · rw [if_pos hg] at fF
    have fN := fN hg
    obtain ⟨fl, rf, b', t', hV', hf, hj, h33, hC⟩ := z_lp hn htx h5 (z_pg (z_cx n tx) n 21 0).2.2 k b t hwf h5 (by omega)
    have hRμ : z_R μ 0 b t := h1.off (fun a _ a2 => fR a (by omega) (by omega))
    have hHμ : z_HC μ nw sz hb ht := h7.mv (fun a _ _ _ => fR a (by omega) (by omega))
    obtain ⟨c1, ν, c2, c3, c4, c5, c6⟩ := z_xC hC hI2.2 (.inr ⟨21, 0, Nat.zero_le _, .inl ⟨rfl, rfl⟩, hg, rfl⟩) (fR.tc htc) fN h5 hRμ (h2.mv (fun a _ _ => fR a (by omega) (by omega))) hHμ
    have hP : P_X8_execute σ := by
      unfold P_X8_execute
      simp only [fF, forall_eq']
      exact ⟨fP, fun _ => ⟨c1, trivial⟩, fun q => absurd trivial q⟩
    have hνσ : ∀ a, 40 ≤ a → a ≠ 220 → a ≠ 223 → a ≠ 224 → ν a = σ a := fun a a1 a2 a3 a4 => by rw [c5 a a1 a3 a4, z_rCo a2, fR a a3 a4]
    have hν0 : ∀ j, ν 220 j = z_rC rf σ 220 j := fun j => by rw [c5 220 (by decide) (by decide) (by decide), z_rCe (fR 220 (by decide) (by decide))]
    have hl := hI2.2
    cases fl with
    | none =>
      have hrf := hf rfl
      subst hrf
      have hν0 : ν 220 = σ 220 := funext hν0
      have hνσ : ∀ a, 40 ≤ a → a ≠ 223 → a ≠ 224 → ν a = σ a := fun a a1 a3 a4 => by
        by_cases e : a = 220
        · rw [e]; exact hν0
        · exact hνσ a a1 e a3 a4
      have c2 : F_X8_performAll μ = (-1, F_X2_push 20 ν) := c2
      obtain ⟨p1, p2, p3⟩ := z_push (r := 20) (by decide) c4 h5 (h7.mv (fun a a1 _ _ => hνσ a (by omega) (by omega) (by omega)))
      have e4 : (q_up (F_X2_push 20 ν) 225 3 0) 223 4 = nI (z_pg (z_cx n tx) n 21 0).2.2.length := by rw [q_up_nk (by decide), p3 223 (by omega)]; exact c6
      have eF : F_X8_execute σ = (.inl (nI (z_pg (z_cx n tx) n 21 0).2.2.length), q_up (F_X2_push 20 ν) 225 3 0) := by
        unfold F_X8_execute
        simp only [z_qL2, fF]
        rw [if_pos trivial, c2]
        dsimp only
        rw [if_pos rfl, e4]
      have eW : W_execute σ = (nI (z_pg (z_cx n tx) n 21 0).2.2.length, q_up (F_X2_push 20 ν) 225 3 0) := by
        unfold W_execute
        rw [eF]
      have w1 : ∀ a, a ≠ 225 → (q_up (F_X2_push 20 ν) 225 3 0) a = (F_X2_push 20 ν) a := fun a a1 => q_up_off a1
      have w3 : (q_up (F_X2_push 20 ν) 225 3 0) 225 3 = 0 := q_up_eq _ _ _ _
      rw [eW]
      refine ⟨⟨hP, fun E q => by rw [eF] at q; injection q⟩, .inr ⟨(z_pg (z_cx n tx) n 21 0).2.2.length, b', t', by omega, h33, rfl, ?_⟩⟩
      show z_C (k + 30 + 1) (q_up (F_X2_push 20 ν) 225 3 0) _ _ _ _ _ _ _ _
      generalize q_up (F_X2_push 20 ν) 225 3 0 = ω at w1 w3
      have wσ : ∀ a, 40 ≤ a → a < 60 ∨ 222 ≤ a ∨ a = 220 → a ≠ 223 → a ≠ 224 → a ≠ 225 → ω a = σ a := fun a a0 a1 a2 a3 a4 => by rw [w1 a a4, p3 a a1, hνσ a a0 a2 a3]
      refine ⟨c3.off (fun a _ a2 => by rw [w1 a (by omega), p3 a (by omega)]), c4.nos.mv (fun a _ a2 => by rw [w1 a (by omega), p3 a (by omega)]), h3.mv (fun a a1 a2 => wσ a (by omega) (by omega) (by omega) (by omega) (by omega)), hV'.k (by omega), (h6.sh h5).k (by omega), p2.mv (fun a a1 a2 a3 => w1 a (by omega)), h9.mv (by omega) (fun a a1 a2 => wσ a (by omega) (by omega) (by omega) (by omega) (by omega)) (by rw [wσ 220 (by decide) (by decide) (by decide) (by decide) (by decide)]), h12.mv (wσ 226 (by decide) (by decide) (by decide) (by decide) (by decide)) (wσ 228 (by decide) (by decide) (by decide) (by decide) (by decide)), w3⟩
    | some j =>
      have hj := hj j rfl
      have c2 : F_X8_performAll μ = (nI j, F_X4_copyFrom 0 20 ν) := by
        rw [c2]
        show (nI (0 + j), _) = _
        rw [Nat.zero_add]
      have hjn : ¬ nI j = (-1 : Int32) := z_nm9 (by omega)
      obtain ⟨p1, p2, p3, p4⟩ := z_cf (r := 0) (u := 20) (by decide) (by decide) (.inl (by decide)) h5 c4 c3.nos
      have eF : F_X8_execute σ = (.inr "java/lang/IllegalStateException", q_up (q_up (F_X4_copyFrom 0 20 ν) 225 3 0) 220 10 (nI j)) := by
        unfold F_X8_execute
        simp only [z_qL2, fF]
        rw [if_pos trivial, c2]
        dsimp only
        rw [if_neg hjn]
      have eW : W_execute σ = (q_code nc_execute "java/lang/IllegalStateException", q_up (q_up (F_X4_copyFrom 0 20 ν) 225 3 0) 220 10 (nI j)) := by
        unfold W_execute
        rw [eF]
      have w1 : ∀ a, a ≠ 220 → a ≠ 225 → (q_up (q_up (F_X4_copyFrom 0 20 ν) 225 3 0) 220 10 (nI j)) a = (F_X4_copyFrom 0 20 ν) a := fun a a1 a2 => by rw [q_up_off a1, q_up_off a2]
      have w2 : ∀ i, i ≠ 10 → (q_up (q_up (F_X4_copyFrom 0 20 ν) 225 3 0) 220 10 (nI j)) 220 i = z_rC rf σ 220 i := fun i hi => by rw [q_up_nj hi, q_up_nk (by decide), p4 220 (by omega), hν0]
      have w4 : (q_up (q_up (F_X4_copyFrom 0 20 ν) 225 3 0) 220 10 (nI j)) 225 3 = 0 := by rw [q_up_nk (by decide), q_up_eq]
      rw [eW]
      refine ⟨⟨hP, fun E q => by rw [eF] at q; injection q with q; rw [← q]; simp⟩, .inl ⟨z_exB.1, ?_⟩⟩
      show z_C (k + 30 + 1) (q_up (q_up (F_X4_copyFrom 0 20 ν) 225 3 0) 220 10 (nI j)) _ _ _ _ _ _ _ _
      generalize q_up (q_up (F_X4_copyFrom 0 20 ν) 225 3 0) 220 10 (nI j) = ω at w1 w2 w4
      have wσ : ∀ a, 40 ≤ a → a ≠ 220 → a ≠ 223 → a ≠ 224 → a ≠ 225 → ω a = σ a := fun a a0 a1 a2 a3 a4 => by rw [w1 a a1 a4, p4 a (by omega), hνσ a a0 a1 a2 a3]
      refine ⟨p2.off (fun a _ a2 => w1 a (by omega) (by omega)), c4.nos.mv (fun a _ a2 => by rw [w1 a (by omega) (by omega), p4 a (by omega)]), h3.mv (fun a a1 a2 => wσ a (by omega) (by omega) (by omega) (by omega) (by omega)), h5.k (by omega), h6.k (by omega), h7.mv (fun a a1 a2 a3 => wσ a (by omega) (by omega) (by omega) (by omega) (by omega)), h9.mv (by omega) (fun a a1 a2 => wσ a (by omega) (by omega) (by omega) (by omega) (by omega)) (by rw [w2 6 (by decide), z_rCj (by decide) (by decide)]), h12.mv (wσ 226 (by decide) (by decide) (by decide) (by decide) (by decide)) (wσ 228 (by decide) (by decide) (by decide) (by decide) (by decide)), w4⟩
  · rw [if_neg hg] at fF
    have hpn : ¬ nI (z_pg (z_cx n tx) n 21 0).2.1 = (-1 : Int32) := z_nm9 (by omega)
    have hP : P_X8_execute σ := by
      unfold P_X8_execute
      simp only [fF, forall_eq']
      exact ⟨fP, fun q => absurd q hpn, fun _ => trivial⟩
    have eF : F_X8_execute σ = (.inr "java/lang/IllegalArgumentException", q_up (q_up μ 225 3 0) 220 9 (nI (z_pg (z_cx n tx) n 21 0).2.1)) := by
      unfold F_X8_execute
      simp only [z_qL2, fF]
      rw [if_neg hpn]
    have eW : W_execute σ = (q_code nc_execute "java/lang/IllegalArgumentException", q_up (q_up μ 225 3 0) 220 9 (nI (z_pg (z_cx n tx) n 21 0).2.1)) := by
      unfold W_execute
      rw [eF]
    have w1 : ∀ a, a ≠ 220 → a ≠ 223 → a ≠ 224 → a ≠ 225 → (q_up (q_up μ 225 3 0) 220 9 (nI (z_pg (z_cx n tx) n 21 0).2.1)) a = σ a := fun a a1 a2 a3 a4 => by rw [q_up_off a1, q_up_off a4, fR a a2 a3]
    have w2 : ∀ i, i ≠ 9 → (q_up (q_up μ 225 3 0) 220 9 (nI (z_pg (z_cx n tx) n 21 0).2.1)) 220 i = σ 220 i := fun i hi => by rw [q_up_nj hi, q_up_nk (by decide), fR 220 (by decide) (by decide)]
    have w4 : (q_up (q_up μ 225 3 0) 220 9 (nI (z_pg (z_cx n tx) n 21 0).2.1)) 225 3 = 0 := by rw [q_up_nk (by decide), q_up_eq]
    rw [eW]
    refine ⟨⟨hP, fun E q => by rw [eF] at q; injection q with q; rw [← q]; simp⟩, .inl ⟨z_exB.2, ?_⟩⟩
    show z_C (k + 30 + 1) (q_up (q_up μ 225 3 0) 220 9 (nI (z_pg (z_cx n tx) n 21 0).2.1)) _ _ _ _ _ _ _ _
    generalize q_up (q_up μ 225 3 0) 220 9 (nI (z_pg (z_cx n tx) n 21 0).2.1) = ω at w1 w2 w4
    refine ⟨h1.off (fun a _ a2 => w1 a (by omega) (by omega) (by omega) (by omega)), h2.mv (fun a _ a2 => w1 a (by omega) (by omega) (by omega) (by omega)), h3.mv (fun a _ a2 => w1 a (by omega) (by omega) (by omega) (by omega)), h5.k (by omega), h6.k (by omega), h7.mv (fun a a1 a2 a3 => w1 a (by omega) (by omega) (by omega) (by omega)), h9.mv (by omega) (fun a a1 a2 => w1 a (by omega) (by omega) (by omega) (by omega)) (w2 6 (by decide)), h12.mv (w1 226 (by decide) (by decide) (by decide) (by decide)) (w1 228 (by decide) (by decide) (by decide) (by decide)), w4⟩
/-! The law's texts. -/
theorem q_ty_off {T : Nat → Nat} {σ : q_M} {a : Nat} (h5 : a ≠ 225) (h7 : a ≠ 227) : ∀ j, q_ty T j σ a = σ a := by
  intro j
  induction j with
  | zero => rfl
  | succ j ih =>
    show q_apC 225 (nI (T j)) (q_ty T j σ) a = _
    unfold q_apC
    rw [q_up_off (by omega), q_up_off (by omega), ih]
theorem q_ty_tx {T : Nat → Nat} {σ : q_M} (h0 : σ 225 3 = 0) : ∀ j, j ≤ 60 → ∀ i, i < j → q_ty T j σ 227 i = nI (T i) := by
  intro j
  induction j with
  | zero => intro _ i hi; omega
  | succ j ih =>
    intro hj i hi
    have e := q_ty_n (T := T) h0 j
    show q_apC 225 (nI (T j)) (q_ty T j σ) 227 i = _
    unfold q_apC
    rw [e, nI_clamp (by omega)]
    by_cases c : i = j
    · subst c
      first
        | (rw [q_up_nk (by decide), q_up_eq])
        | (rw [q_up_eq])
    · first
        | (rw [q_up_nk (by decide), q_up_nj c]; exact ih (by omega) i (by omega))
        | (rw [q_up_nj c, q_up_nk (by decide)]; exact ih (by omega) i (by omega))
theorem z_saysOK : z_says := by
  intro k σ b t nw sz hb ht sb st c x y hk hc hx hy hC
  obtain ⟨h1, h2, h3, h5, h6, h7, h9, h12, h13⟩ := hC
  have ec : (nI c).toNatClampNeg = c := nI_clamp (by omega)
  have ex : (nI x).toNatClampNeg = x := nI_clamp (by omega)
  have ey : (nI y).toNatClampNeg = y := nI_clamp (by omega)
  obtain ⟨o1, o2⟩ := q_oki (nI c) x y
  have o3 := q_oks hc o1
  have hT : q_say (nI c) (nI x) (nI y) = q_say2 c (q_inn (nI c) x y) := by unfold q_say; rw [ec, ex, ey]
  generalize hS : q_say2 c (q_inn (nI c) x y) = S at hT o3
  have hlen : S.1 ≤ 60 := by
    rw [← hS]
    have h9 := (q_dg2 (v := 1 + c) (by omega)).2
    show 4 + sb_dg (1 + c) + (q_inn (nI c) x y).1 ≤ 60
    omega
  have hm : ∀ a, a ≠ 225 → a ≠ 227 → q_ty S.2 S.1 σ a = σ a := fun a a1 a2 => q_ty_off a1 a2 S.1
  have key := c_execute (σ := q_ty S.2 S.1 σ) (n := S.1) (tx := S.2) (k := k) (by omega) hlen (fun i hi => by have := o3 i hi; omega) ⟨q_ty_n h13 S.1, q_ty_tx h13 S.1 hlen⟩ (h1.off (fun a _ a2 => hm a (by omega) (by omega))) (h2.mv (fun a _ a2 => hm a (by omega) (by omega))) (h3.mv (fun a _ a2 => hm a (by omega) (by omega))) h5 h6 (h7.mv (fun a _ a2 _ => hm a (by omega) (by omega))) (h9.mv (Nat.le_refl _) (fun a _ a2 => hm a (by omega) (by omega)) (by rw [hm 220 (by decide) (by decide)])) (h12.mv (hm 226 (by decide) (by decide)) (hm 228 (by decide) (by decide)))
  unfold P_says F_says
  rw [hT]
  exact ⟨⟨⟨c, x, y, rfl, rfl, rfl, hc, hx, hy⟩, h13, key.1⟩, key.2.k (by omega)⟩
