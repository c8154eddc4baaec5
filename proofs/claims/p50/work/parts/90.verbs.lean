/-! A command of a program, done by the class. -/
theorem z_qL2 {A B : Type} (x : A) (f : A → B) : q_L x f = f x := by unfold q_L; rfl
def z_Vb (i k g h v : Nat) (b : Nat → Nat) (t : Nat → Nat → Nat) : Prop :=
  ∃ (code : Nat) (rf : Option (Nat × Int32)) (b' : Nat → Nat) (t' : Nat → Nat → Nat), code ≤ 3 ∧ z_V (k + 1) b' t' ∧ (code ≠ 0 → b' = b ∧ t' = t) ∧ (code = 0 → rf = none) ∧ b 3 ≤ b' 3 ∧
    (∀ G H W : Int32, (0 < z_ar (z_pt i) → G = nI g) → (1 < z_ar (z_pt i) → H = nI h) → (2 < z_ar (z_pt i) → W = nI v) → ∀ σ, z_R σ 0 b t → P_X8_faultOf (nI (20 + i)) G H W σ ∧ (F_X8_faultOf (nI (20 + i)) G H W σ).2 = z_rC rf σ ∧ (((F_X8_faultOf (nI (20 + i)) G H W σ).1 = 10) = (code = 0)) ∧ (code = 0 → P_X8_apply (nI (20 + i)) G H W σ ∧ z_R (F_X8_apply (nI (20 + i)) G H W σ) 0 b' t' ∧ ∀ a, 20 ≤ a → (F_X8_apply (nI (20 + i)) G H W σ) a = σ a))
theorem z_vb {i N k g h v : Nat} {b : Nat → Nat} {t : Nat → Nat → Nat} {cf : Nat → Int32} {Pf : q_M → Prop} {Ff : q_M → Int32 × q_M} {Pb : q_M → Prop} {Fb : q_M → Int32 × q_M} {PD : q_M → Prop} {FD : q_M → Int32 × q_M} (hs : z_same N k b t cf Pf Ff Pb Fb PD FD) (hN : N ≤ 3) (h0 : cf 0 = 10) (h1 : ∀ c, 1 ≤ c → c ≤ N → cf c ≠ 10)
    (hF : ∀ G H W : Int32, (0 < z_ar (z_pt i) → G = nI g) → (1 < z_ar (z_pt i) → H = nI h) → (2 < z_ar (z_pt i) → W = nI v) → ∀ σ, (F_X8_faultOf (nI (20 + i)) G H W σ = Ff σ ∧ (Pf σ → P_X8_faultOf (nI (20 + i)) G H W σ)) ∧ F_X8_apply (nI (20 + i)) G H W σ = (Fb σ).2 ∧ (Pb σ → P_X8_apply (nI (20 + i)) G H W σ)) : z_Vb i k g h v b t := by
  obtain ⟨code, res, rf, b', t', hc, hres, h33, hV', hsm, hrf, hrf3, sF, sB, -⟩ := hs
  refine ⟨code, rf, b', t', by omega, hV', hsm, hrf, h33, fun G H W e1 e2 e3 σ hR => ?_⟩
  · obtain ⟨⟨f1, f2⟩, f3, f4⟩ := hF G H W e1 e2 e3 σ
    obtain ⟨s1, s2⟩ := sF σ hR
    rw [f1, s2]
    refine ⟨f2 s1, rfl, ?_, fun q => ?_⟩
    · by_cases z : code = 0
      · rw [z, h0]; exact propext ⟨fun _ => rfl, fun _ => rfl⟩
      · exact propext ⟨fun q => absurd q (h1 code (by omega) hc), fun q => absurd q z⟩
    · obtain ⟨r1, r2, r3, r4⟩ := sB q σ hR
      rw [f3]
      exact ⟨f4 r1, r3, r4⟩
theorem z_vb0 {k g h v : Nat} {b : Nat → Nat} {t : Nat → Nat → Nat} (hV : z_V k b t) (hk : k < 20000) : z_Vb 0 k g h v b t := by
  refine z_vb (i := 0) (g := g) (h := h) (v := v) (z_start hV) (by decide) rfl (fun c h1 h2 => ?_) (fun G H W e1 e2 e3 σ => ?_)
  · rcases (show c = 1 by omega) with rfl <;> decide
  · have ey : nI (20 + 0) = 20 := by decide +kernel
    rw [ey]
    refine ⟨⟨?_, fun q => ?_⟩, ?_, fun q => ?_⟩
    · unfold F_X8_faultOf
      rw [if_pos rfl]
    · unfold P_X8_faultOf
      exact ⟨by unfold q_okV; decide +kernel, ⟨fun _ => ⟨q, trivial⟩, fun z => absurd rfl z⟩⟩
    · unfold F_X8_apply
      rw [if_pos rfl]
      (try rw [z_qL2])
    · unfold P_X8_apply
      exact ⟨by unfold q_okV; decide +kernel, ⟨fun _ => ⟨q.1, trivial⟩, fun z => absurd rfl z⟩⟩
theorem z_vb1 {k g h v : Nat} {b : Nat → Nat} {t : Nat → Nat → Nat} (hV : z_V k b t) (hk : k < 20000) : z_Vb 1 k g h v b t := by
  refine z_vb (i := 1) (g := g) (h := h) (v := v) (z_run hV hk (nI g)) (by decide) rfl (fun c h1 h2 => ?_) (fun G H W e1 e2 e3 σ => ?_)
  · rcases (show c = 1 ∨ c = 2 by omega) with rfl | rfl <;> decide
  · have e1 := e1 (by decide +kernel)
    subst e1
    have ey : nI (20 + 1) = 21 := by decide +kernel
    rw [ey]
    refine ⟨⟨?_, fun q => ?_⟩, ?_, fun q => ?_⟩
    · unfold F_X8_faultOf
      rw [if_neg (by decide), if_pos rfl]
    · unfold P_X8_faultOf
      exact ⟨by unfold q_okV; decide +kernel, ⟨fun z => absurd z (by decide), fun _ => ⟨fun _ => trivial, fun z => absurd rfl z⟩⟩⟩
    · unfold F_X8_apply
      rw [if_neg (by decide), if_pos rfl]
      (try rw [z_qL2])
    · unfold P_X8_apply
      exact ⟨by unfold q_okV; decide +kernel, ⟨fun z => absurd z (by decide), fun _ => ⟨fun _ => ⟨q, trivial⟩, fun z => absurd rfl z⟩⟩⟩
theorem z_vb2 {k g h v : Nat} {b : Nat → Nat} {t : Nat → Nat → Nat} (hV : z_V k b t) (hk : k < 20000) : z_Vb 2 k g h v b t := by
  refine z_vb (i := 2) (g := g) (h := h) (v := v) (z_pass hV (Nat.le_of_lt hk) (nI g)) (by decide) rfl (fun c h1 h2 => ?_) (fun G H W e1 e2 e3 σ => ?_)
  · rcases (show c = 1 ∨ c = 2 ∨ c = 3 by omega) with rfl | rfl | rfl <;> decide
  · have e1 := e1 (by decide +kernel)
    subst e1
    have ey : nI (20 + 2) = 22 := by decide +kernel
    rw [ey]
    refine ⟨⟨?_, fun q => ?_⟩, ?_, fun q => ?_⟩
    · unfold F_X8_faultOf
      rw [if_neg (by decide), if_neg (by decide), if_pos rfl]
      rw [z_qL2]
    · unfold P_X8_faultOf
      exact ⟨by unfold q_okV; decide +kernel, ⟨fun z => absurd z (by decide), fun _ => ⟨fun z => absurd z (by decide), fun _ => ⟨fun _ => trivial, fun z => absurd rfl z⟩⟩⟩⟩
    · unfold F_X8_apply
      rw [if_neg (by decide), if_neg (by decide), if_pos rfl]
      (try rw [z_qL2])
    · unfold P_X8_apply
      exact ⟨by unfold q_okV; decide +kernel, ⟨fun z => absurd z (by decide), fun _ => ⟨fun z => absurd z (by decide), fun _ => ⟨fun _ => ⟨q.1, q.2, trivial⟩, fun z => absurd rfl z⟩⟩⟩⟩
theorem z_vb3 {k g h v : Nat} {b : Nat → Nat} {t : Nat → Nat → Nat} (hV : z_V k b t) (hk : k < 20000) : z_Vb 3 k g h v b t := by
  refine z_vb (i := 3) (g := g) (h := h) (v := v) (z_drop hV (by omega) (nI g) (nI h)) (by decide) rfl (fun c h1 h2 => ?_) (fun G H W e1 e2 e3 σ => ?_)
  · rcases (show c = 1 ∨ c = 2 ∨ c = 3 by omega) with rfl | rfl | rfl <;> decide
  · have e1 := e1 (by decide +kernel)
    subst e1
    have e2 := e2 (by decide +kernel)
    subst e2
    have ey : nI (20 + 3) = 23 := by decide +kernel
    rw [ey]
    refine ⟨⟨?_, fun q => ?_⟩, ?_, fun q => ?_⟩
    · unfold F_X8_faultOf
      rw [if_neg (by decide), if_neg (by decide), if_neg (by decide), if_pos rfl]
    · unfold P_X8_faultOf
      exact ⟨by unfold q_okV; decide +kernel, ⟨fun z => absurd z (by decide), fun _ => ⟨fun z => absurd z (by decide), fun _ => ⟨fun z => absurd z (by decide), fun _ => ⟨fun _ => trivial, fun z => absurd rfl z⟩⟩⟩⟩⟩
    · unfold F_X8_apply
      rw [if_neg (by decide), if_neg (by decide), if_neg (by decide), if_pos rfl]
      (try rw [z_qL2])
    · unfold P_X8_apply
      exact ⟨by unfold q_okV; decide +kernel, ⟨fun z => absurd z (by decide), fun _ => ⟨fun z => absurd z (by decide), fun _ => ⟨fun z => absurd z (by decide), fun _ => ⟨fun _ => ⟨q, trivial⟩, fun z => absurd rfl z⟩⟩⟩⟩⟩
theorem z_vb4 {k g h v : Nat} {b : Nat → Nat} {t : Nat → Nat → Nat} (hV : z_V k b t) (hk : k < 20000) : z_Vb 4 k g h v b t := by
  refine z_vb (i := 4) (g := g) (h := h) (v := v) (z_quit hV (nI g)) (by decide) rfl (fun c h1 h2 => ?_) (fun G H W e1 e2 e3 σ => ?_)
  · rcases (show c = 1 ∨ c = 2 by omega) with rfl | rfl <;> decide
  · have e1 := e1 (by decide +kernel)
    subst e1
    have ey : nI (20 + 4) = 24 := by decide +kernel
    rw [ey]
    refine ⟨⟨?_, fun q => ?_⟩, ?_, fun q => ?_⟩
    · unfold F_X8_faultOf
      rw [if_neg (by decide), if_neg (by decide), if_neg (by decide), if_neg (by decide), if_pos rfl]
    · unfold P_X8_faultOf
      exact ⟨by unfold q_okV; decide +kernel, ⟨fun z => absurd z (by decide), fun _ => ⟨fun z => absurd z (by decide), fun _ => ⟨fun z => absurd z (by decide), fun _ => ⟨fun z => absurd z (by decide), fun _ => ⟨fun _ => trivial, fun z => absurd rfl z⟩⟩⟩⟩⟩⟩
    · unfold F_X8_apply
      rw [if_neg (by decide), if_neg (by decide), if_neg (by decide), if_neg (by decide), if_pos rfl]
      (try rw [z_qL2])
    · unfold P_X8_apply
      exact ⟨by unfold q_okV; decide +kernel, ⟨fun z => absurd z (by decide), fun _ => ⟨fun z => absurd z (by decide), fun _ => ⟨fun z => absurd z (by decide), fun _ => ⟨fun z => absurd z (by decide), fun _ => ⟨fun _ => ⟨q.1, trivial⟩, fun z => absurd rfl z⟩⟩⟩⟩⟩⟩
theorem z_vb5 {k g h v : Nat} {b : Nat → Nat} {t : Nat → Nat → Nat} (hV : z_V k b t) (hk : k < 20000) : z_Vb 5 k g h v b t := by
  refine z_vb (i := 5) (g := g) (h := h) (v := v) (z_protest hV (nI g) (nI h) (nI v)) (by decide) rfl (fun c h1 h2 => ?_) (fun G H W e1 e2 e3 σ => ?_)
  · rcases (show c = 1 ∨ c = 2 ∨ c = 3 by omega) with rfl | rfl | rfl <;> decide
  · have e1 := e1 (by decide +kernel)
    subst e1
    have e2 := e2 (by decide +kernel)
    subst e2
    have e3 := e3 (by decide +kernel)
    subst e3
    have ey : nI (20 + 5) = 25 := by decide +kernel
    rw [ey]
    refine ⟨⟨?_, fun q => ?_⟩, ?_, fun q => ?_⟩
    · unfold F_X8_faultOf
      rw [if_neg (by decide), if_neg (by decide), if_neg (by decide), if_neg (by decide), if_neg (by decide), if_pos rfl]
    · unfold P_X8_faultOf
      exact ⟨by unfold q_okV; decide +kernel, ⟨fun z => absurd z (by decide), fun _ => ⟨fun z => absurd z (by decide), fun _ => ⟨fun z => absurd z (by decide), fun _ => ⟨fun z => absurd z (by decide), fun _ => ⟨fun z => absurd z (by decide), fun _ => ⟨fun _ => trivial, fun z => absurd rfl z⟩⟩⟩⟩⟩⟩⟩
    · unfold F_X8_apply
      rw [if_neg (by decide), if_neg (by decide), if_neg (by decide), if_neg (by decide), if_neg (by decide), if_pos rfl]
      (try rw [z_qL2])
    · unfold P_X8_apply
      exact ⟨by unfold q_okV; decide +kernel, ⟨fun z => absurd z (by decide), fun _ => ⟨fun z => absurd z (by decide), fun _ => ⟨fun z => absurd z (by decide), fun _ => ⟨fun z => absurd z (by decide), fun _ => ⟨fun z => absurd z (by decide), fun _ => ⟨fun _ => ⟨q.1, q.2.1, q.2.2, trivial⟩, fun z => absurd rfl z⟩⟩⟩⟩⟩⟩⟩
theorem z_vb6 {k g h v : Nat} {b : Nat → Nat} {t : Nat → Nat → Nat} (hV : z_V k b t) (hk : k < 20000) : z_Vb 6 k g h v b t := by
  refine z_vb (i := 6) (g := g) (h := h) (v := v) (z_speed hV (nI g) (nI h) (nI v)) (by decide) rfl (fun c h1 h2 => ?_) (fun G H W e1 e2 e3 σ => ?_)
  · rcases (show c = 1 ∨ c = 2 ∨ c = 3 by omega) with rfl | rfl | rfl <;> decide
  · have e1 := e1 (by decide +kernel)
    subst e1
    have e2 := e2 (by decide +kernel)
    subst e2
    have e3 := e3 (by decide +kernel)
    subst e3
    have ey : nI (20 + 6) = 26 := by decide +kernel
    rw [ey]
    refine ⟨⟨?_, fun q => ?_⟩, ?_, fun q => ?_⟩
    · unfold F_X8_faultOf
      rw [if_neg (by decide), if_neg (by decide), if_neg (by decide), if_neg (by decide), if_neg (by decide), if_neg (by decide), if_pos rfl]
    · unfold P_X8_faultOf
      exact ⟨by unfold q_okV; decide +kernel, ⟨fun z => absurd z (by decide), fun _ => ⟨fun z => absurd z (by decide), fun _ => ⟨fun z => absurd z (by decide), fun _ => ⟨fun z => absurd z (by decide), fun _ => ⟨fun z => absurd z (by decide), fun _ => ⟨fun z => absurd z (by decide), fun _ => ⟨fun _ => trivial, fun z => absurd rfl z⟩⟩⟩⟩⟩⟩⟩⟩
    · unfold F_X8_apply
      rw [if_neg (by decide), if_neg (by decide), if_neg (by decide), if_neg (by decide), if_neg (by decide), if_neg (by decide), if_pos rfl]
      (try rw [z_qL2])
    · unfold P_X8_apply
      exact ⟨by unfold q_okV; decide +kernel, ⟨fun z => absurd z (by decide), fun _ => ⟨fun z => absurd z (by decide), fun _ => ⟨fun z => absurd z (by decide), fun _ => ⟨fun z => absurd z (by decide), fun _ => ⟨fun z => absurd z (by decide), fun _ => ⟨fun z => absurd z (by decide), fun _ => ⟨fun _ => ⟨q.1, q.2, trivial⟩, fun z => absurd rfl z⟩⟩⟩⟩⟩⟩⟩⟩
theorem z_vb7 {k g h v : Nat} {b : Nat → Nat} {t : Nat → Nat → Nat} (hV : z_V k b t) (hk : k < 20000) : z_Vb 7 k g h v b t := by
  refine z_vb (i := 7) (g := g) (h := h) (v := v) (z_draw hV (nI g)) (by decide) rfl (fun c h1 h2 => ?_) (fun G H W e1 e2 e3 σ => ?_)
  · rcases (show c = 1 ∨ c = 2 by omega) with rfl | rfl <;> decide
  · have e1 := e1 (by decide +kernel)
    subst e1
    have ey : nI (20 + 7) = 27 := by decide +kernel
    rw [ey]
    refine ⟨⟨?_, fun q => ?_⟩, ?_, fun q => ?_⟩
    · unfold F_X8_faultOf
      rw [if_neg (by decide), if_neg (by decide), if_neg (by decide), if_neg (by decide), if_neg (by decide), if_neg (by decide), if_neg (by decide)]
    · unfold P_X8_faultOf
      exact ⟨by unfold q_okV; decide +kernel, ⟨fun z => absurd z (by decide), fun _ => ⟨fun z => absurd z (by decide), fun _ => ⟨fun z => absurd z (by decide), fun _ => ⟨fun z => absurd z (by decide), fun _ => ⟨fun z => absurd z (by decide), fun _ => ⟨fun z => absurd z (by decide), fun _ => ⟨fun z => absurd z (by decide), fun _ => ⟨q, trivial⟩⟩⟩⟩⟩⟩⟩⟩⟩
    · unfold F_X8_apply
      rw [if_neg (by decide), if_neg (by decide), if_neg (by decide), if_neg (by decide), if_neg (by decide), if_neg (by decide), if_neg (by decide)]
      (try rw [z_qL2])
    · unfold P_X8_apply
      exact ⟨by unfold q_okV; decide +kernel, ⟨fun z => absurd z (by decide), fun _ => ⟨fun z => absurd z (by decide), fun _ => ⟨fun z => absurd z (by decide), fun _ => ⟨fun z => absurd z (by decide), fun _ => ⟨fun z => absurd z (by decide), fun _ => ⟨fun z => absurd z (by decide), fun _ => ⟨fun z => absurd z (by decide), fun _ => ⟨q.1, trivial⟩⟩⟩⟩⟩⟩⟩⟩⟩
theorem z_vbA {i k g h v : Nat} {b : Nat → Nat} {t : Nat → Nat → Nat} (hi : i < 8) (hV : z_V k b t) (hk : k < 20000) : z_Vb i k g h v b t := by
  rcases (show i = 0 ∨ i = 1 ∨ i = 2 ∨ i = 3 ∨ i = 4 ∨ i = 5 ∨ i = 6 ∨ i = 7 by omega) with rfl | rfl | rfl | rfl | rfl | rfl | rfl | rfl
  · exact z_vb0 hV hk
  · exact z_vb1 hV hk
  · exact z_vb2 hV hk
  · exact z_vb3 hV hk
  · exact z_vb4 hV hk
  · exact z_vb5 hV hk
  · exact z_vb6 hV hk
  · exact z_vb7 hV hk
