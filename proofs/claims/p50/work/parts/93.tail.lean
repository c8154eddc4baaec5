/-! The law's end. -/
theorem v_stz {k w : Nat} {σ : q_M} {b : Nat → Nat} {t : Nat → Nat → Nat} (hR : z_R σ 0 b t) (hV : z_V k b t) (hk : k ≤ 20000) (hw : w < b 3) : z_bd 1 (W_secondsToZone (nI w) σ) := by
  have n6 := hV.n6
  obtain ⟨r, hr, p, e, -⟩ := z_szP hR hw (by omega) hV hk
  have hF : F_X8_secondsToZone (nI w) σ = .inl (nI r) ∨ F_X8_secondsToZone (nI w) σ = .inr "java/lang/UnsupportedOperationException" ∨ F_X8_secondsToZone (nI w) σ = .inr "java/lang/IllegalStateException" := by
    unfold F_X8_secondsToZone
    rw [z_tw1 hR hV hw]
    dsimp only
    split
    · split
      · exact .inl (congrArg Sum.inl e)
      · exact .inr (.inl rfl)
    · exact .inr (.inr rfl)
  unfold W_secondsToZone
  rcases hF with h | h | h
  · rw [h]; exact z_bdn (by omega)
  · rw [h]; exact z_bdb (by unfold z_bad; decide +kernel)
  · rw [h]; exact z_bdb (by unfold z_bad; decide +kernel)
theorem v_reach {k : Nat} {σ : q_M} {b : Nat → Nat} {t : Nat → Nat → Nat} (hR : z_R σ 0 b t) (hV : z_V k b t) (g l v : Int32) : Q_reach g l v σ ∧ z_bd 1 (W_reach g l v σ) := by
  have hP : P_X8_reach g l v σ := by
    refine ⟨z_sfP, fun r hr => ?_⟩
    cases r with
    | inr E => trivial
    | inl u =>
      rcases z_sfr hR hV g l v with ⟨w, a, n, a1, a2, hn, rfl, rfl, rfl, eS, a3⟩ | ⟨eS, a3⟩ | ⟨eS, a3⟩
      · rw [eS] at hr
        injection hr with hr
        subst hr
        have hsp := ((hV.te w a1).sp a a2).2
        exact (z_reC hsp hn (nI w) (nI a) σ 1010 0 0 (by omega) (by omega)).1
      · rw [eS] at hr; injection hr
      · rw [eS] at hr; injection hr
  have hF : (∃ m, m < 5000000 ∧ F_X8_reach g l v σ = .inl (nI m)) ∨ F_X8_reach g l v σ = .inr "java/lang/IndexOutOfBoundsException" ∨ F_X8_reach g l v σ = .inr "java/lang/IllegalArgumentException" := by
    rcases z_sfr hR hV g l v with ⟨w, a, n, a1, a2, hn, rfl, rfl, rfl, eS, a3⟩ | ⟨eS, a3⟩ | ⟨eS, a3⟩
    · have hsp := ((hV.te w a1).sp a a2).2
      obtain ⟨q1, q2⟩ := z_reC hsp hn (nI w) (nI a) σ 1010 0 0 (by omega) (by omega)
      have hb := z_sm_le (f := z_pc (t w a)) 99 n 0 (fun i _ _ => (z_pc_le hsp).1)
      refine .inl ⟨0 + z_sm (z_pc (t w a)) 0 (n - 0), ?_, ?_⟩
      · rw [Nat.sub_zero]; omega
      · unfold F_X8_reach
        rw [eS]
        exact q2
    · exact .inr (.inl (by unfold F_X8_reach; rw [eS]))
    · exact .inr (.inr (by unfold F_X8_reach; rw [eS]))
  unfold Q_reach W_reach
  rcases hF with ⟨m, hm, h⟩ | h | h
  · rw [h]; exact ⟨⟨hP, fun E q => by injection q⟩, z_bdn hm⟩
  · rw [h]; exact ⟨⟨hP, fun E q => by injection q with q; rw [← q]; simp⟩, z_bdb (by unfold z_bad; decide +kernel)⟩
  · rw [h]; exact ⟨⟨hP, fun E q => by injection q with q; rw [← q]; simp⟩, z_bdb (by unfold z_bad; decide +kernel)⟩
theorem v_atRank {k : Nat} {σ : q_M} {b : Nat → Nat} {t : Nat → Nat → Nat} (hR : z_R σ 0 b t) (hV : z_V k b t) (hk : k ≤ 20000) (g : Int32) : Q_teamAtRank g σ ∧ z_bd 1 (W_teamAtRank g σ) := by
  have n6 := hV.n6
  obtain ⟨p, -, h⟩ := z_arL hR hV hk g 10 0 (by decide) (by decide)
  have p : P_X4_numberAtRank 0 g σ := p
  have hF : (∃ m, m < 5000000 ∧ F_X8_teamAtRank g σ = .inl (nI m)) ∨ F_X8_teamAtRank g σ = .inr "java/util/NoSuchElementException" := by
    rcases h with ⟨w, h1, h2, -⟩ | ⟨h2, -⟩
    · have h2 : F_X4_numberAtRank 0 g σ = nI w := h2
      refine .inl ⟨w, by omega, ?_⟩
      unfold F_X8_teamAtRank q_L
      rw [h2]
      exact if_neg (z_nm1 (by omega))
    · have h2 : F_X4_numberAtRank 0 g σ = -1 := h2
      refine .inr ?_
      unfold F_X8_teamAtRank q_L
      rw [h2]
      exact if_pos rfl
  unfold Q_teamAtRank W_teamAtRank
  rcases hF with ⟨m, hm, h⟩ | h
  · rw [h]; exact ⟨⟨⟨p, trivial⟩, fun E q => by injection q⟩, z_bdn hm⟩
  · rw [h]; exact ⟨⟨⟨p, trivial⟩, fun E q => by injection q with q; rw [← q]; simp⟩, z_bdb (by unfold z_bad; decide +kernel)⟩
theorem v_split {k w : Nat} {σ : q_M} {b : Nat → Nat} {t : Nat → Nat → Nat} (hR : z_R σ 0 b t) (hV : z_V k b t) (hk : k ≤ 20000) (hw : w < b 3) : z_bd 1 (W_splitOf (nI w) (nI 0) σ) := by
  have hck := hV.ck
  have hs := (hV.te w hw).sl 0 (by decide)
  rw [(a_splitOf hR hV hw (l := 0) (by decide)).2]
  split
  · exact z_bdn (by omega)
  · exact z_bdb (by unfold z_bad; decide +kernel)
theorem v_banner {k : Nat} {σ : q_M} {b : Nat → Nat} {t : Nat → Nat → Nat} {nw sz : Nat} {hb : Nat → Nat → Nat} {ht : Nat → Nat → Nat → Nat} {sb : Nat → Nat} {st : Nat → Nat → Nat} (hk : k ≤ 20000) (h : z_C k σ b t nw sz hb ht sb st) (hn : 1 ≤ b 3) : P_N8_writeBanner 0 σ ∧ ∃ m μ, F_N8_writeBanner 0 σ = (nI m, μ) ∧ m < 5000000 ∧ z_C k μ b t nw sz hb ht sb st := by
  have hV := h.2.2.2.1
  have hw : 0 < b 3 := hn
  obtain ⟨p, μ, e, ht, hof⟩ := z_wbC h.1 hV hk hw
  have e : F_X8_writeBanner 0 σ = (.inl (nI (z_bT (t 0)).1), μ) := e
  have hW := hV.te 0 hw
  have l1 := z_bAn hW
  have l2 := z_bSn hW hk hV.ck (z_bA (t 0))
  have l3 := z_bEn hW hk hV.l1 (z_bS (t 0) (z_bA (t 0)))
  have l4 : (z_bT (t 0)).1 ≤ 24 := by
    show (z_bE (t 0) (z_bS (t 0) (z_bA (t 0)))).1 ≤ 24
    omega
  have hasc : z_asc (z_bT (t 0)) := z_bEa (z_bSa (z_bAa (t 0)))
  refine ⟨⟨p, nI (z_bT (t 0)).1, by rw [e]⟩, (z_bT (t 0)).1, μ, ?_, by omega, ?_⟩
  · unfold F_N8_writeBanner
    rw [e]
    rfl
  · obtain ⟨h1, h2, h3, h4, h5, h6, h7, h8, h9⟩ := h
    exact ⟨h1.off (fun a _ _ => hof a (by omega) (by omega)), h2.mv (fun a _ _ => hof a (by omega) (by omega)), h3.mv (fun a _ _ => hof a (by omega) (by omega)), h4, h5, h6.mv (fun a _ _ _ => hof a (by omega) (by omega)), h7.mv (Nat.le_refl _) (fun a _ _ => hof a (by omega) (by omega)) (by rw [hof 220 (by decide) (by decide)]), ⟨(z_bT (t 0)).1, by omega, ht.1, fun i hi => ⟨(z_bT (t 0)).2 i, hasc i hi, ht.2 i hi⟩⟩, by rw [hof 225 (by decide) (by decide)]; exact h9⟩
/-- what is kept while a race is saved -/
def z_Y (k : Nat) (sb : Nat → Nat) (st : Nat → Nat → Nat) (σ : q_M) : Prop := ∃ b t nw sz hb ht, z_C k σ b t nw sz hb ht sb st
theorem z_wo.sv {k : Nat} {b : Nat → Nat} {t : Nat → Nat → Nat} {nw sz : Nat} {hb : Nat → Nat → Nat} {ht : Nat → Nat → Nat → Nat} {sb : Nat → Nat} {st : Nat → Nat → Nat} {y : Int32 × q_M} (h : z_wo k b t nw sz hb ht sb st y) : z_Y (k + 1) sb st y.2 ∧ z_bd 1 y.1 := by
  rcases h with ⟨h1, h2⟩ | ⟨res, b', t', h1, h2, h3, h4⟩
  · exact ⟨⟨_, _, _, _, _, _, h2⟩, z_bdb h1⟩
  · exact ⟨⟨_, _, _, _, _, _, h4⟩, by rw [h3]; exact z_bdn h1⟩
theorem y_start {k : Nat} {sb : Nat → Nat} {st : Nat → Nat → Nat} {σ : q_M} (hk : k < 20000) (h : z_Y k sb st σ)  : Q_start σ ∧ ∃ x τ, W_start σ = (x, τ) ∧ z_Y (k + 1) sb st τ ∧ z_bd 1 x := by
  obtain ⟨b, t, nw, sz, hb, ht, hC⟩ := h
  obtain ⟨h1, h2⟩ := c_start hk hC 
  obtain ⟨h3, h4⟩ := h2.sv
  exact ⟨h1, _, _, rfl, h3, h4⟩
theorem y_run {k : Nat} {sb : Nat → Nat} {st : Nat → Nat → Nat} {σ : q_M} (hk : k < 20000) (h : z_Y k sb st σ) (g0 : Int32) : Q_run g0 σ ∧ ∃ x τ, W_run g0 σ = (x, τ) ∧ z_Y (k + 1) sb st τ ∧ z_bd 1 x := by
  obtain ⟨b, t, nw, sz, hb, ht, hC⟩ := h
  obtain ⟨h1, h2⟩ := c_run hk hC g0
  obtain ⟨h3, h4⟩ := h2.sv
  exact ⟨h1, _, _, rfl, h3, h4⟩
theorem y_pass {k : Nat} {sb : Nat → Nat} {st : Nat → Nat → Nat} {σ : q_M} (hk : k < 20000) (h : z_Y k sb st σ) (g0 : Int32) : Q_pass g0 σ ∧ ∃ x τ, W_pass g0 σ = (x, τ) ∧ z_Y (k + 1) sb st τ ∧ z_bd 1 x := by
  obtain ⟨b, t, nw, sz, hb, ht, hC⟩ := h
  obtain ⟨h1, h2⟩ := c_pass hk hC g0
  obtain ⟨h3, h4⟩ := h2.sv
  exact ⟨h1, _, _, rfl, h3, h4⟩
theorem y_drop {k : Nat} {sb : Nat → Nat} {st : Nat → Nat → Nat} {σ : q_M} (hk : k < 20000) (h : z_Y k sb st σ) (g0 : Int32) (g1 : Int32) : Q_drop g0 g1 σ ∧ ∃ x τ, W_drop g0 g1 σ = (x, τ) ∧ z_Y (k + 1) sb st τ ∧ z_bd 1 x := by
  obtain ⟨b, t, nw, sz, hb, ht, hC⟩ := h
  obtain ⟨h1, h2⟩ := c_drop hk hC g0 g1
  obtain ⟨h3, h4⟩ := h2.sv
  exact ⟨h1, _, _, rfl, h3, h4⟩
theorem y_withdraw {k : Nat} {sb : Nat → Nat} {st : Nat → Nat → Nat} {σ : q_M} (hk : k < 20000) (h : z_Y k sb st σ) (g0 : Int32) : Q_withdraw g0 σ ∧ ∃ x τ, W_withdraw g0 σ = (x, τ) ∧ z_Y (k + 1) sb st τ ∧ z_bd 1 x := by
  obtain ⟨b, t, nw, sz, hb, ht, hC⟩ := h
  obtain ⟨h1, h2⟩ := c_withdraw hk hC g0
  obtain ⟨h3, h4⟩ := h2.sv
  exact ⟨h1, _, _, rfl, h3, h4⟩
theorem y_protest {k : Nat} {sb : Nat → Nat} {st : Nat → Nat → Nat} {σ : q_M} (hk : k < 20000) (h : z_Y k sb st σ) (g0 : Int32) (g1 : Int32) (g2 : Int32) : Q_protest g0 g1 g2 σ ∧ ∃ x τ, W_protest g0 g1 g2 σ = (x, τ) ∧ z_Y (k + 1) sb st τ ∧ z_bd 1 x := by
  obtain ⟨b, t, nw, sz, hb, ht, hC⟩ := h
  obtain ⟨h1, h2⟩ := c_protest hk hC g0 g1 g2
  obtain ⟨h3, h4⟩ := h2.sv
  exact ⟨h1, _, _, rfl, h3, h4⟩
theorem i_tail (σ : q_M) (hI : z_I 12 σ) : q_tOK σ := by
  obtain ⟨-, b, t, nw, sz, hb, ht, sb, st, hn, hC⟩ := hI
  have hV := hC.2.2.2.1
  have hR := hC.1
  have hw : 0 < b 3 := hn
  obtain ⟨pV, σ1, eV, -, C1⟩ := c_save hC
  obtain ⟨q1, b1⟩ := v_reach C1.1 hV 0 1 70
  have q2 : Q_secondsToZone 0 σ1 := a_stz C1.1 hV (by decide) hw
  have b2 : z_bd 1 (W_secondsToZone 0 σ1) := v_stz C1.1 hV (by decide) hw
  obtain ⟨q3, m, σ2, e3, hm, C2⟩ := v_banner (by decide) C1 hn
  obtain ⟨q4, b4⟩ := v_atRank C2.1 hV (by decide) 0
  have q5 : Q_splitOf 0 0 σ2 := (a_splitOf C2.1 hV hw (l := 0) (by decide)).1
  have b5 : z_bd 1 (W_splitOf 0 0 σ2) := v_split C2.1 hV (by decide) hw
  have Y2 : z_Y (40 * (12 + 1)) b t σ2 := ⟨_, _, _, _, _, _, C2⟩
  obtain ⟨q6, y1, σ3, e6, Y3, d1⟩ := y_run (by decide) Y2 30
  obtain ⟨q7, y2, σ4, e7, Y4, d2⟩ := y_pass (by decide) Y3 0
  obtain ⟨q8, y3, σ5, e8, Y5, d3⟩ := y_drop (by decide) Y4 1 5
  obtain ⟨q9, y4, σ6, e9, Y6, d4⟩ := y_protest (by decide) Y5 0 1 0
  obtain ⟨q10, y5, σ7, e10, Y7, d5⟩ := y_withdraw (by decide) Y6 1
  obtain ⟨q11, y6, σ8, e11, Y8, d6⟩ := y_start (by decide) Y7
  obtain ⟨b8, t8, nw8, sz8, hb8, ht8, C8⟩ := Y8
  obtain ⟨q12, σ9, e12, C9⟩ := c_restore C8 hV.n6
  obtain ⟨q13, e13⟩ := c_undo0 (sz := 0) C9
  have hs : z_bd 11 (((((W_reach 0 1 70 σ1 + W_secondsToZone 0 σ1) + nI m) + W_teamAtRank 0 σ2) + W_splitOf 0 0 σ2) + (((((y1 + y2) + y3) + y4) + y5) + y6)) := ((((b1.add b2 (by decide)).add (z_bdn hm) (by decide)).add b4 (by decide)).add b5 (by decide)).add (((((d1.add d2 (by decide)).add d3 (by decide)).add d4 (by decide)).add d5 (by decide)).add d6 (by decide)) (by decide)
  exact ⟨nI (b 2), W_reach 0 1 70 σ1, W_secondsToZone 0 σ1, nI m, W_teamAtRank 0 σ2, W_splitOf 0 0 σ2, y1, y2, y3, y4, y5, y6, nI (b 2), σ1, σ2, σ3, σ4, σ5, σ6, σ7, σ8, σ9, σ9, pV, eV, q1, rfl, q2, rfl, q3, e3, q4, rfl, q5, rfl, s_OK C2.1 hV, s_eq hR C2.1 hV, q6, e6, q7, e7, q8, e8, q9, e9, q10, e10, q11, e11, (hs.ok (by decide)).2, q12, e12, rfl, s_OK C9.1 hV, s_eq hR C9.1 hV, q13, e13⟩
theorem all_OK : q_OK z_I := ⟨b_OK, fun _ _ h => i_OK h, fun ζ k σ h1 h2 h3 => i_acts z_saysOK ζ k σ h1 h2 h3, i_tail⟩
