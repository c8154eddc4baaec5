/-! addTeam, setLength. -/
def z_ad (n : Nat) : Nat → Nat → q_M → q_M
  | 0, _, τ => q_up (F_X9_sets (nI n) 4 (nI n + 1) τ) 230 3 ((F_X9_sets (nI n) 4 (nI n + 1) τ) 230 3 + 1)
  | m + 1, j, τ => z_ad n m (j + 1) (F_X9_sets (nI n) (0 + nI j) 60 τ)
theorem z_adL {n : Nat} (hn : n < 6) : ∀ (m j nn : Nat) (τ : q_M), m + j = 4 → m < nn → FL_X9_addTeam_46 nn (nI n) (nI j) τ = F_X9_ends (nI n) (z_ad n m j τ) ∧ (P_X9_ends (nI n) (z_ad n m j τ) → PL_X9_addTeam_46 nn (nI n) (nI j) τ) := by
  intro m
  induction m with
  | zero =>
    intro j nn τ h1 h2
    obtain ⟨nn, rfl⟩ : ∃ q, nn = q + 1 := ⟨nn - 1, by omega⟩
    have e : ¬ nI j < 4 := fun q => by have := (nI_ltI (b := 4) (by omega) (by decide)).mp q; omega
    unfold FL_X9_addTeam_46 PL_X9_addTeam_46
    rw [if_neg e]
    refine ⟨rfl, fun hp => ⟨fun q => absurd q e, fun _ => ⟨z_q4 hn, fun σ8 h8 σ10 h10 => ?_⟩⟩⟩
    subst h8 h10
    exact ⟨hp, trivial⟩
  | succ m ih =>
    intro j nn τ h1 h2
    obtain ⟨nn, rfl⟩ : ∃ q, nn = q + 1 := ⟨nn - 1, by omega⟩
    have e : nI j < 4 := nI_lt (b := 4) (by omega) (by decide)
    have ej : nI j + 1 = nI (j + 1) := by rw [z_l1, z_add]
    obtain ⟨q1, q2⟩ := ih (j + 1) nn (F_X9_sets (nI n) (0 + nI j) 60 τ) (by omega) (by omega)
    unfold FL_X9_addTeam_46 PL_X9_addTeam_46
    rw [if_pos e, ej]
    refine ⟨q1, fun hp => ⟨fun _ => ⟨?_, fun σ6 h6 => ?_⟩, fun q => absurd e q⟩⟩
    · rw [z_l0, z_add]; exact z_setsP hn (by omega)
    · subst h6; exact q2 hp
def z_nw (n : Nat) (x : Nat → Nat) : Nat → Nat := z_up (z_up (z_up (z_up (z_up x 0 60) 1 60) 2 60) 3 60) 4 (n + 1)
theorem z_adM {n : Nat} (hn : n < 6) {τ : q_M} {b : Nat → Nat} {t : Nat → Nat → Nat} (hM : z_M τ b t) (h3 : b 3 = n) : z_M (z_ad n 4 0 τ) (z_up b 3 (n + 1)) (z_ut t n (z_nw n (t n))) ∧ z_fs τ (z_ad n 4 0 τ) ∧ z_ad n 4 0 τ 229 5 = τ 229 5 := by
  have c0 : z_M (F_X9_sets (nI n) (0 + nI 0) 60 τ) b _ := hM.set (k := 0) (y := 60) hn (by decide)
  have c1 : z_M (F_X9_sets (nI n) (0 + nI 1) 60 (F_X9_sets (nI n) (0 + nI 0) 60 τ)) b _ := c0.set (k := 1) (y := 60) hn (by decide)
  rw [z_ut_ut, z_ut_s] at c1
  have c2 : z_M (F_X9_sets (nI n) (0 + nI 2) 60 (F_X9_sets (nI n) (0 + nI 1) 60 (F_X9_sets (nI n) (0 + nI 0) 60 τ))) b _ := c1.set (k := 2) (y := 60) hn (by decide)
  rw [z_ut_ut, z_ut_s] at c2
  have c3 : z_M (F_X9_sets (nI n) (0 + nI 3) 60 (F_X9_sets (nI n) (0 + nI 2) 60 (F_X9_sets (nI n) (0 + nI 1) 60 (F_X9_sets (nI n) (0 + nI 0) 60 τ)))) b _ := c2.set (k := 3) (y := 60) hn (by decide)
  rw [z_ut_ut, z_ut_s] at c3
  have f0 : z_fs τ (F_X9_sets (nI n) (0 + nI 0) 60 τ) := z_fs.st (k := 0) hn (by decide)
  have f1 : z_fs τ (F_X9_sets (nI n) (0 + nI 1) 60 (F_X9_sets (nI n) (0 + nI 0) 60 τ)) := f0.tr (z_fs.st (k := 1) hn (by decide))
  have f2 : z_fs τ (F_X9_sets (nI n) (0 + nI 2) 60 (F_X9_sets (nI n) (0 + nI 1) 60 (F_X9_sets (nI n) (0 + nI 0) 60 τ))) := f1.tr (z_fs.st (k := 2) hn (by decide))
  have f3 : z_fs τ (F_X9_sets (nI n) (0 + nI 3) 60 (F_X9_sets (nI n) (0 + nI 2) 60 (F_X9_sets (nI n) (0 + nI 1) 60 (F_X9_sets (nI n) (0 + nI 0) 60 τ)))) := f2.tr (z_fs.st (k := 3) hn (by decide))
  have g3 : (F_X9_sets (nI n) (0 + nI 3) 60 (F_X9_sets (nI n) (0 + nI 2) 60 (F_X9_sets (nI n) (0 + nI 1) 60 (F_X9_sets (nI n) (0 + nI 0) 60 τ)))) 229 = τ 229 :=
    ((z_gk (k := 3) hn (by decide)).trans (z_gk (k := 2) hn (by decide))).trans ((z_gk (k := 1) hn (by decide)).trans (z_gk (k := 0) hn (by decide)))
  have ez : z_ad n 4 0 τ = z_ad n 0 4 (F_X9_sets (nI n) (0 + nI 3) 60 (F_X9_sets (nI n) (0 + nI 2) 60 (F_X9_sets (nI n) (0 + nI 1) 60 (F_X9_sets (nI n) (0 + nI 0) 60 τ)))) := rfl
  rw [ez]
  generalize F_X9_sets (nI n) (0 + nI 3) 60 (F_X9_sets (nI n) (0 + nI 2) 60 (F_X9_sets (nI n) (0 + nI 1) 60 (F_X9_sets (nI n) (0 + nI 0) 60 τ))) = μ at c3 f3 g3
  have en : nI n + 1 = nI (n + 1) := by rw [z_l1, z_add]
  have c4 := c3.s4 (y := n + 1) hn
  rw [z_ut_ut, z_ut_s] at c4
  have e3 : (F_X9_sets (nI n) 4 (nI (n + 1)) μ) 230 3 + 1 = nI (n + 1) := by rw [c4.bs 3 (by decide), h3, z_l1, z_add]
  have eq : z_ad n 0 4 μ = q_up (F_X9_sets (nI n) 4 (nI (n + 1)) μ) 230 3 (nI (n + 1)) := by
    show q_up (F_X9_sets (nI n) 4 (nI n + 1) μ) 230 3 ((F_X9_sets (nI n) 4 (nI n + 1) μ) 230 3 + 1) = _
    rw [en, e3]
  rw [eq]
  refine ⟨c4.ub (by decide), (f3.tr (z_fs.st (k := 4) hn (by decide))).tr (z_fs.of (fun a ha => q_up_off ha)), ?_⟩
  rw [q_up_nk (by decide), z_g4 hn, g3]
def z_FA (σ : q_M) : Int32 × q_M := if F_X9_isUnprepared σ = 0 then (if σ 230 3 = 6 then (0, q_up σ 229 5 1) else (σ 230 3, z_ad (σ 230 3).toNatClampNeg 4 0 (q_up σ 229 5 0))) else (0, q_up σ 229 5 1)
theorem z_entL {r : Nat} {b : Nat → Nat} {t : Nat → Nat → Nat} (hn : b 3 < 6) (hst : ∀ w, w < b 3 → t w 6 ≤ 3) {τ : q_M} (hR : z_R τ r b t) : ∀ (nn w : Nat), 7 ≤ nn + w → w ≤ b 3 → PL_X4_enterTeam_10 r nn (nI w) τ ∧ FL_X4_enterTeam_10 r nn (nI w) τ = (nI (b 3), q_up τ (r + 2 + 3 * b 3) 3 1) := by
  intro nn
  induction nn with
  | zero => intro w h1 h2; omega
  | succ nn ih =>
    intro w h1 h2
    have h6 : w < 6 := by omega
    have e6 : nI w < 6 := nI_lt (b := 6) h6 (by decide)
    have hc : (nI w).toNatClampNeg = w := nI_clamp (by omega)
    have ew : nI w + 1 = nI (w + 1) := by rw [z_l1, z_add]
    unfold PL_X4_enterTeam_10 FL_X4_enterTeam_10
    rw [if_pos e6, hc, z_place, ew]
    by_cases q : w < b 3
    · have := hst w q
      have e : ¬ τ (r + 2 + 3 * w) 3 = 0 := by rw [(hR.te w h6 q).st]; exact nI_ne0 (by omega) (by omega)
      obtain ⟨q1, q2⟩ := ih (w + 1) (by omega) (by omega)
      rw [if_neg e]
      exact ⟨⟨fun _ => ⟨z_in h6 (by decide), fun z => absurd z e, fun _ => q1⟩, fun z => absurd e6 z⟩, q2⟩
    · have hw : w = b 3 := by omega
      subst hw
      have hA := hR.ab (b 3) h6 (Nat.le_refl _)
      rw [if_pos hA.st, hA.no]
      exact ⟨⟨fun _ => ⟨z_in h6 (by decide), fun _ => trivial, fun z => absurd hA.st z⟩, fun z => absurd e6 z⟩, rfl⟩
theorem z_newT {c : q_M} {p n : Nat} {x : Nat → Nat} (h : z_N c p n) (h0 : ∀ j, j < 19 → x j = 0) : z_T (q_up c p 3 1) p n (z_nw n x) := by
  have e5 := h0 5 (by decide)
  have e6 := h0 6 (by decide)
  have e7 := h0 7 (by decide)
  have e8 := h0 8 (by decide)
  have e9 := h0 9 (by decide)
  have e10 := h0 10 (by decide)
  have e11 := h0 11 (by decide)
  have e12 := h0 12 (by decide)
  have e13 := h0 13 (by decide)
  have e18 := h0 18 (by decide)
  refine ⟨?_, ?_, ?_, ?_, ?_, ?_, ?_, ?_, fun _ => ?_, ?_, ?_, ?_, fun j hj => ?_, fun j hj => ?_⟩
  · rw [q_up_nj (by decide)]; exact h.no
  · rw [q_up_eq]; show (1 : Int32) = nI (x 6 + 1); rw [e6]; rfl
  · rw [q_up_nj (by decide)]; exact h.ln
  · rw [q_up_nj (by decide), h.z 5 (by decide) (by decide)]; show (0 : Int32) = nI (x 7); rw [e7]; rfl
  · rw [q_up_nj (by decide), h.z 6 (by decide) (by decide)]; show (0 : Int32) = nI (x 8); rw [e8]; rfl
  · rw [q_up_nj (by decide), h.z 7 (by decide) (by decide)]; show (0 : Int32) = nI (x 9); rw [e9]; rfl
  · rw [q_up_nj (by decide), h.z 8 (by decide) (by decide)]; show (0 : Int32) = nI (x 10); rw [e10]; rfl
  · rw [q_up_nj (by decide), h.z 9 (by decide) (by decide)]; show (0 : Int32) = nI (x 5); rw [e5]; rfl
  · rw [q_up_nj (by decide), h.z 10 (by decide) (by decide)]; show (0 : Int32) = nI (x 13); rw [e13]; rfl
  · rw [q_up_nj (by decide), h.z 11 (by decide) (by decide)]; show (0 : Int32) = nI (x 18); rw [e18]; rfl
  · rw [q_up_nj (by decide), h.z 12 (by decide) (by decide)]; show (0 : Int32) = nI (x 11); rw [e11]; rfl
  · rw [q_up_nj (by decide), h.z 13 (by decide) (by decide)]; show (0 : Int32) = nI (x 12); rw [e12]; rfl
  · rw [q_up_nk (by omega), h.sp j hj]
    rcases (show j = 0 ∨ j = 1 ∨ j = 2 ∨ j = 3 by omega) with rfl | rfl | rfl | rfl <;> rfl
  · rw [q_up_nk (by omega), h.sl j hj]
    have e : z_nw n x (14 + j) = x (14 + j) := by
      unfold z_nw
      rw [z_up_n (by omega), z_up_n (by omega), z_up_n (by omega), z_up_n (by omega), z_up_n (by omega)]
    rw [e, h0 (14 + j) (by omega)]
    rfl
theorem z_enter {k : Nat} {b : Nat → Nat} {t : Nat → Nat → Nat} (hV : z_V k b t) : z_same 1 k b t (fun c => if c = 0 then 10 else 13) (P_X4_faultOfEntering 0) (fun σ => (F_X4_faultOfEntering 0 σ, σ)) (P_X4_enterTeam 0) (F_X4_enterTeam 0) (fun _ => True) z_FA := by
  have n6 := hV.n6
  have hbg := hV.bg
  have hPf : ∀ σ, z_R σ 0 b t → P_X4_faultOfEntering 0 σ := fun σ hR => ⟨fun _ => ⟨(z_entered n6 hV.stt hR).1, trivial⟩, fun _ => trivial⟩
  by_cases h1 : b 1 = 1
  · refine z_fail 1 (by decide) (by decide) hV (fun σ hR => ⟨hPf σ hR, ?_⟩) (fun τ hM => ⟨trivial, ?_⟩)
    · have e : ¬ σ 0 1 = 0 := by rw [hR.bg, h1]; decide
      simp only [F_X4_faultOfEntering]
      rw [if_neg e]
      rfl
    · have e := z_unp hM hbg
      rw [h1] at e
      unfold z_FA
      rw [if_neg (by rw [e]; decide)]
      rfl
  · have h1 : b 1 = 0 := by omega
    by_cases h3 : b 3 = 6
    · refine z_fail 1 (by decide) (by decide) hV (fun σ hR => ⟨hPf σ hR, ?_⟩) (fun τ hM => ⟨trivial, ?_⟩)
      · have e : σ 0 1 = 0 := by rw [hR.bg, h1]; rfl
        have e2 : ¬ F_X4_countEntered 0 σ < 6 := by rw [(z_entered n6 hV.stt hR).2, h3]; decide
        simp only [F_X4_faultOfEntering]
        rw [if_pos e, if_neg e2]
        rfl
      · have e := z_unp hM hbg
        rw [h1] at e
        have e : F_X9_isUnprepared τ = 0 := e
        have e3 : τ 230 3 = 6 := by rw [hM.bs 3 (by decide), h3]; rfl
        unfold z_FA
        rw [if_pos e, if_pos e3]
        rfl
    · have hn : b 3 < 6 := by omega
      have h0 := hV.ab (b 3) hn (Nat.le_refl _)
      have hV' : z_V (k + 1) (z_up b 3 (b 3 + 1)) (z_ut t (b 3) (z_nw (b 3) (t (b 3)))) := by
        have hk := hV.k (show k ≤ k + 1 by omega)
        refine ⟨hk.l0, hk.l1, hk.bg, hk.ck, by show b 3 + 1 ≤ 6; omega, fun w hw => ?_, fun w hw hw3 j hj => ?_, fun w hw => ?_⟩
        · have hw : w < b 3 + 1 := hw
          by_cases e : w = b 3
          · subst e
            rw [z_ut_s]
            have x5 := h0 5 (by decide)
            have x6 := h0 6 (by decide)
            have x7 := h0 7 (by decide)
            have x8 := h0 8 (by decide)
            have x9 := h0 9 (by decide)
            have x10 := h0 10 (by decide)
            have x11 := h0 11 (by decide)
            have x12 := h0 12 (by decide)
            have x13 := h0 13 (by decide)
            have x14 := h0 14 (by decide)
            have x15 := h0 15 (by decide)
            have x16 := h0 16 (by decide)
            have x17 := h0 17 (by decide)
            have x18 := h0 18 (by decide)
            have l0 := hV.l0
            unfold z_nw
            generalize t (b 3) = x at *
            refine ⟨?_, by
              unfold z_E
              simp [z_up, x5, x6, x7, x8, x13, x14, x15, x16, x17, x18, h1]⟩
            refine z_W_of ?_ ?_ ?_ ?_ ?_ ?_ ?_ ?_ ?_ ?_ ?_ ?_ ?_ ?_ ?_ ?_ ?_ ?_ ?_ ?_ ?_ ?_ <;> (try simp [z_up]) <;> omega
          · rw [z_ut_n e]
            exact (hk.te w (by omega)).mono (Nat.le_refl _) rfl rfl (Nat.le_refl _)
        · have hw3 : b 3 + 1 ≤ w := hw3
          rw [z_ut_n (by omega)]
          exact hV.ab w hw (by omega) j hj
        · have hw : w < b 3 + 1 := hw
          show _ ≤ b 3 + 1 ∧ _
          by_cases e : w = b 3
          · subst e
            rw [z_ut_s]
            refine ⟨Nat.le_refl _, fun u hu => ?_⟩
            rw [z_ut_n (by omega)]
            have := (hV.ls u hu).1
            show t u 4 ≠ b 3 + 1
            omega
          · rw [z_ut_n e]
            refine ⟨by have := (hV.ls w (by omega)).1; omega, fun u hu => ?_⟩
            rw [z_ut_n (by omega)]
            exact (hV.ls w (by omega)).2 u hu
      refine z_done (b 3) (z_up b 3 (b 3 + 1)) (z_ut t (b 3) (z_nw (b 3) (t (b 3)))) hV' (by omega) (fun σ hR => ⟨hPf σ hR, ?_⟩) (fun σ hR => ?_) (fun τ hM => ?_)
      · have e : σ 0 1 = 0 := by rw [hR.bg, h1]; rfl
        have e2 : F_X4_countEntered 0 σ < 6 := by rw [(z_entered n6 hV.stt hR).2]; exact nI_lt (b := 6) hn (by decide)
        simp only [F_X4_faultOfEntering]
        rw [if_pos e, if_pos e2]
        rfl
      · obtain ⟨p1, p2⟩ := z_entL hn hV.stt hR 10 0 (by omega) (by omega)
        have p2 : F_X4_enterTeam 0 σ = (nI (b 3), q_up σ (0 + 2 + 3 * b 3) 3 1) := p2
        rw [p2]
        refine ⟨p1, rfl, ?_, fun a ha => q_up_off (by omega)⟩
        have hof : ∀ a, a ≠ 0 + 2 + 3 * b 3 → (q_up σ (0 + 2 + 3 * b 3) 3 1) a = σ a := fun a ha => q_up_off ha
        show z_R (q_up σ (0 + 2 + 3 * b 3) 3 1) 0 _ _
        refine ⟨by rw [hof 0 (by omega)]; exact hR.bg, by rw [hof 0 (by omega)]; exact hR.ck, by rw [hof 0 (by omega)]; exact hR.ll, fun i hi hb => ?_, fun i hi hb => ?_⟩
        · have hb : i < b 3 + 1 := hb
          by_cases e : i = b 3
          · subst e
            rw [z_ut_s]
            exact z_newT (hR.ab (b 3) hn (Nat.le_refl _)) h0
          · rw [z_ut_n e]
            exact (hR.te i hi (by omega)).off (hof _ (by omega)) (hof _ (by omega)) (hof _ (by omega))
        · have hb : b 3 + 1 ≤ i := hb
          exact (hR.ab i hi (by omega)).off (hof _ (by omega)) (hof _ (by omega)) (hof _ (by omega))
      · have e := z_unp hM hbg
        rw [h1] at e
        have e : F_X9_isUnprepared τ = 0 := e
        have e3 := hM.bs 3 (by decide)
        have e4 : ¬ τ 230 3 = 6 := fun q => by
          rw [e3] at q
          have := (nI_eq (b := 6) (by omega) (by decide)).mp q
          omega
        obtain ⟨m1, m2, m3⟩ := z_adM hn (hM.u9 (j := 5) (v := 0)) rfl
        unfold z_FA
        rw [if_pos e, if_neg e4, e3, nI_clamp (by omega)]
        exact ⟨trivial, rfl, by dsimp only; rw [m3, q_up_eq], m1, (z_fs.u5 τ 0).tr m2⟩
/-! setLength -/
def z_FL (v : Int32) (σ : q_M) : Int32 × q_M := if F_X9_isIn v 400 4000 σ = 0 then (0, q_up σ 229 5 1) else if F_X9_isUnprepared (q_up σ 229 5 0) = 0 then ((q_up σ 229 5 0) 230 0, q_up (q_up σ 229 5 0) 230 0 v) else (0, q_up σ 229 5 2)
theorem z_length {k : Nat} {b : Nat → Nat} {t : Nat → Nat → Nat} (hV : z_V k b t) (g : Int32) : z_same 2 k b t (fun c => if c = 0 then 10 else if c = 1 then 12 else 13) (fun _ => True) (fun σ => (F_X4_faultOfLength 0 g σ, σ)) (fun _ => True) (fun σ => (σ 0 3, q_up σ 0 3 g)) (fun _ => True) (z_FL g) := by
  have hbg := hV.bg
  by_cases g1 : g < 400
  · refine z_fail 1 (by decide) (by decide) hV (fun σ hR => ⟨trivial, ?_⟩) (fun τ hM => ⟨trivial, ?_⟩)
    · simp only [F_X4_faultOfLength]
      rw [if_pos g1]
      rfl
    · have e : F_X9_isIn g 400 4000 τ = 0 := by unfold F_X9_isIn; rw [if_pos g1]
      unfold z_FL
      rw [if_pos e]
      rfl
  · by_cases g2 : 4000 < g
    · refine z_fail 1 (by decide) (by decide) hV (fun σ hR => ⟨trivial, ?_⟩) (fun τ hM => ⟨trivial, ?_⟩)
      · simp only [F_X4_faultOfLength]
        rw [if_neg g1, if_pos g2]
        rfl
      · have e : F_X9_isIn g 400 4000 τ = 0 := by unfold F_X9_isIn; rw [if_neg g1, if_pos g2]
        unfold z_FL
        rw [if_pos e]
        rfl
    · obtain ⟨v, s1, s2, rfl⟩ := z_rg (a := 400) (b := 4000) (by decide) (by decide) g1 g2
      have e : ∀ τ, ¬ F_X9_isIn (nI v) 400 4000 τ = 0 := fun τ => by unfold F_X9_isIn; rw [if_neg g1, if_neg g2]; decide
      by_cases h1 : b 1 = 1
      · refine z_fail 2 (by decide) (by decide) hV (fun σ hR => ⟨trivial, ?_⟩) (fun τ hM => ⟨trivial, ?_⟩)
        · have e : ¬ σ 0 1 = 0 := by rw [hR.bg, h1]; decide
          simp only [F_X4_faultOfLength]
          rw [if_neg g1, if_neg g2, if_neg e]
          rfl
        · have eu := z_unp (hM.u9 (j := 5) (v := 0)) hbg
          rw [h1] at eu
          unfold z_FL
          rw [if_neg (e τ), if_neg (by rw [eu]; decide)]
          rfl
      · have h1 : b 1 = 0 := by omega
        have hV' : z_V (k + 1) (z_up b 0 v) t := by
          have hk := hV.k (show k ≤ k + 1 by omega)
          refine ⟨s1, s2, hk.bg, hk.ck, hk.n6, fun w hw => ?_, hk.ab, hk.ls⟩
          obtain ⟨⟨a0, a1, a2, a3⟩, ⟨c4, c5, c6, c7, c8, c9, c10, c11, c12, c13⟩, ⟨l0, l1, l2, l3⟩, c18, cf, cr, cu⟩ := z_W_to (hk.te w hw).1
          obtain ⟨u1, u2, u3⟩ := cu h1
          obtain ⟨x1, -, x3, x4, -⟩ := (hk.te w hw).2
          refine ⟨z_W_of a0 a1 a2 a3 c4 c5 c6 (by omega) c8 c9 c10 c11 c12 c13 l0 l1 l2 l3 c18 cf (fun q => by omega) (fun _ => ⟨u1, u2, u3⟩), ?_⟩
          unfold z_E
          rw [u3, u1, u2]
          exact ⟨by omega, fun q => absurd q (by decide), fun q => x3 (by rw [u1]; exact q), x4, fun q => absurd q (by decide), fun _ => h1⟩
        refine z_done (b 0) (z_up b 0 v) t hV' (by have := hV.l1; omega) (fun σ hR => ⟨trivial, ?_⟩) (fun σ hR => ?_) (fun τ hM => ?_)
        · have e : σ 0 1 = 0 := by rw [hR.bg, h1]; rfl
          simp only [F_X4_faultOfLength]
          rw [if_neg g1, if_neg g2, if_pos e]
          rfl
        · exact ⟨trivial, hR.ll, hR.ull, fun a ha => q_up_off (by omega)⟩
        · have hM1 : z_M (q_up τ 229 5 0) b t := hM.u9
          have eu := z_unp hM1 hbg
          rw [h1] at eu
          have eu : F_X9_isUnprepared (q_up τ 229 5 0) = 0 := eu
          unfold z_FL
          rw [if_neg (e τ), if_pos eu]
          refine ⟨trivial, hM1.bs 0 (by decide), ?_, hM1.ub (by decide), (z_fs.u5 τ 0).tr (z_fs.of (fun a ha => q_up_off ha))⟩
          show (q_up (q_up τ 229 5 0) 230 0 (nI v)) 229 5 = 0
          rw [q_up_nk (by decide), q_up_eq]
