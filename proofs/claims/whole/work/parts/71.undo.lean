/-! undo, save, restore; what was refused. -/
theorem sq_undo {k : Nat} {σ : q_M} (hk : k < 512) (hI : z_Inv k σ) : sim_undo σ ∧ z_Inv (k + 1) (to_undo σ) := by
  obtain ⟨b, t, nw, sz, hb, ht, sb, st, i1, i2, i3, i4, i5, i6, i7, i8, i9, i10, i11, i12, i13⟩ := hI
  have c1 := i7.2.1
  have c2 := i8.1
  have s8 := i8.2.1
  unfold sim_undo q_SimI to_undo
  by_cases h0 : sz = 0
  · subst h0
    have d1 : σ 221 2 = 0 := c1
    have d2 : σ 229 4 = 0 := c2
    have eF : F_X8_undo σ = (.inr "java/lang/IllegalStateException", σ) := by unfold F_X8_undo; rw [if_pos d1]
    have eW : W_undo σ = (1, σ) := by
      unfold W_undo
      rw [eF]
      have : q_code nx_undo "java/lang/IllegalStateException" = 1 := by decide +kernel
      show (q_code nx_undo "java/lang/IllegalStateException", σ) = (1, σ)
      rw [this]
    have eM : F_X9_undo σ = (0, q_up σ 229 5 1) := by unfold F_X9_undo; rw [if_pos d2]
    rw [eW]
    dsimp only
    rw [eM]
    refine ⟨⟨⟨⟨fun _ => trivial, fun q => absurd d1 q⟩, fun E q => ?_⟩, ⟨fun _ => trivial, fun q => absurd d2 q⟩, (show (q_up σ 229 5 1) 229 5 = 1 from q_up_eq _ _ _ _), fun q => absurd q (by decide)⟩, ?_⟩
    · rw [eF] at q
      injection q with q
      rw [← q]
      simp
    · exact ⟨b, t, nw, 0, hb, ht, sb, st, z_J.sm ⟨i1, i2, i3, i4, i5, i6, i7, i8, i9, i10, i11, i12, i13⟩ (by omega) (fun a _ a1 _ _ _ _ => q_up_off a1) (fun j j5 _ _ _ => q_up_nj j5)⟩
  · have d1 : ¬ σ 221 2 = 0 := by rw [c1]; exact nI_ne0 (by omega) (by omega)
    obtain ⟨p1, p2, p3, p4, p5⟩ := z_pop i1.nos i6 i7 (by omega)
    have eF : F_X8_undo σ = (.inl (nI (sz - 1)), F_X2_popInto 0 σ) := by
      unfold F_X8_undo q_L
      rw [if_neg d1]
      dsimp only
      rw [p4.2.1]
    have eW : W_undo σ = (0, q_up (F_X2_popInto 0 σ) 237 0 (nI (sz - 1))) := by
      unfold W_undo
      rw [eF]
    have hω : ∀ a, a ≠ 237 → (q_up (F_X2_popInto 0 σ) 237 0 (nI (sz - 1))) a = (F_X2_popInto 0 σ) a := fun a ha => q_up_off ha
    have hωr : (q_up (F_X2_popInto 0 σ) 237 0 (nI (sz - 1))) 237 0 = nI (sz - 1) := q_up_eq _ _ _ _
    rw [eW]
    dsimp only
    generalize q_up (F_X2_popInto 0 σ) 237 0 (nI (sz - 1)) = ω at hω hωr
    have hωσ : ∀ a, 20 ≤ a → a ≠ 221 → a ≠ 237 → ω a = σ a := fun a a1 a2 a3 => by rw [hω a a3, p5 a a1 a2]
    have d4 : ω 229 4 = nI sz := by rw [hωσ 229 (by decide) (by decide) (by decide)]; exact c2
    have d2 : ¬ ω 229 4 = 0 := by rw [d4]; exact nI_ne0 (by omega) (by omega)
    have e1 : ω 229 4 - 1 = nI (sz - 1) := by rw [d4, z_l1, z_sub (by omega)]
    have e2 : (118 : Int32) * nI (sz - 1) = nI (118 * (sz - 1)) := by rw [z_l118, z_mul]
    have e233 : q_len 233 = 944 := rfl
    obtain ⟨m1, m2, m3⟩ := z_cp (f := 233) (g := 230) (a := 0) (b := 118 * (sz - 1)) (.inl (by decide)) (by rw [e233]; omega) (by decide) (by decide) (by decide) (q_up (q_up ω 229 5 0) 229 4 (nI (sz - 1)))
    have m1 : P_X9_copies 233 (nI (118 * (sz - 1))) 230 0 (q_up (q_up ω 229 5 0) 229 4 (nI (sz - 1))) := m1
    have m2 : ∀ k, k < 118 → F_X9_copies 233 (nI (118 * (sz - 1))) 230 0 (q_up (q_up ω 229 5 0) 229 4 (nI (sz - 1))) 230 (0 + k) = (q_up (q_up ω 229 5 0) 229 4 (nI (sz - 1))) 233 (118 * (sz - 1) + k) := m2
    have m3 : ∀ p j, p ≠ 230 ∨ j < 0 ∨ 0 + 118 ≤ j → F_X9_copies 233 (nI (118 * (sz - 1))) 230 0 (q_up (q_up ω 229 5 0) 229 4 (nI (sz - 1))) p j = (q_up (q_up ω 229 5 0) 229 4 (nI (sz - 1))) p j := m3
    have eM : F_X9_undo ω = ((F_X9_copies 233 (nI (118 * (sz - 1))) 230 0 (q_up (q_up ω 229 5 0) 229 4 (nI (sz - 1)))) 229 4, F_X9_copies 233 (nI (118 * (sz - 1))) 230 0 (q_up (q_up ω 229 5 0) 229 4 (nI (sz - 1)))) := by
      unfold F_X9_undo q_L
      rw [if_neg d2, e1, e2]
    rw [eM]
    dsimp only
    have hPM : P_X9_undo ω := by
      refine ⟨fun q => absurd q d2, fun _ σ2 h2 => ?_⟩
      subst h2
      rw [e1, e2]
      exact ⟨m1, trivial⟩
    generalize F_X9_copies 233 (nI (118 * (sz - 1))) 230 0 (q_up (q_up ω 229 5 0) 229 4 (nI (sz - 1))) = μ at m2 m3
    have hμ : ∀ a, a ≠ 229 → a ≠ 230 → μ a = ω a := fun a a1 a2 => by
      funext j
      rw [m3 a j (.inl a2), q_up_nk a1, q_up_nk a1]
    have hμσ : ∀ a, 20 ≤ a → a ≠ 221 → a ≠ 229 → a ≠ 230 → a ≠ 237 → μ a = σ a := fun a a1 a2 a3 a4 a5 => by rw [hμ a a3 a4, hωσ a a1 a2 a5]
    have hμ9 : ∀ j, j ≠ 4 → j ≠ 5 → μ 229 j = σ 229 j := fun j j4 j5 => by rw [m3 229 j (.inl (by decide)), q_up_nj j4, q_up_nj j5, hωσ 229 (by decide) (by decide) (by decide)]
    have h4 : μ 229 4 = nI (sz - 1) := by rw [m3 229 4 (.inl (by decide)), q_up_eq]
    refine ⟨⟨⟨⟨fun q => absurd q d1, fun _ => ⟨p1, trivial⟩⟩, fun E q => ?_⟩, hPM, ?_, fun _ => ?_⟩, ?_⟩
    · rw [eF] at q
      injection q
    · rw [m3 229 5 (.inl (by decide)), q_up_nj (by decide), q_up_eq]
    · rw [hμ 237 (by decide) (by decide), hωr, h4]
    · have hs := i8.2.2 (sz - 1) (by omega)
      refine ⟨hb (sz - 1), ht (sz - 1), (nw + 7) % 8, sz - 1, hb, ht, sb, st, ?_, ?_, ?_, ?_, (i6 (sz - 1) (by omega)).k (by omega), fun i hi => (i6 i (by omega)).k (by omega), ?_, ?_, ?_, ?_, ?_, ?_, ?_⟩
      · exact p2.off (fun a _ a2 => by rw [hμ a (by omega) (by omega), hω a (by omega)])
      · exact i2.mv (fun a a1 a2 => hμσ a (by omega) (by omega) (by omega) (by omega) (by omega))
      · exact i3.mv (fun a a1 a2 => hμσ a (by omega) (by omega) (by omega) (by omega) (by omega))
      · refine z_Mr.m (hs.cp (fun k hk => ?_))
        rw [m2 k hk, q_up_nk (by decide), q_up_nk (by decide), hωσ 233 (by decide) (by decide) (by decide)]
      · exact p4.mv (fun a a1 a2 a3 => by rw [hμ a (by omega) (by omega), hω a (by omega)])
      · refine ⟨h4, by omega, fun i hi => ?_⟩
        exact (i8.2.2 i (by omega)).off (hμσ 233 (by decide) (by decide) (by decide) (by decide) (by decide))
      · exact i9.mv (by omega) (fun a a1 a2 => hμσ a (by omega) (by omega) (by omega) (by omega) (by omega)) (by rw [hμσ 220 (by decide) (by decide) (by decide) (by decide) (by decide)]) (hμ9 11 (by decide) (by decide)) (hμσ 232 (by decide) (by decide) (by decide) (by decide) (by decide))
      · have q := hμσ 220 (by decide) (by decide) (by decide) (by decide) (by decide)
        exact i10.mv (by rw [q]) (by rw [q]) (hμ9 8 (by decide) (by decide)) (hμ9 9 (by decide) (by decide))
      · have q := hμσ 220 (by decide) (by decide) (by decide) (by decide) (by decide)
        exact i11.mv (by rw [q]) (by rw [q]) (hμ9 6 (by decide) (by decide)) (hμ9 7 (by decide) (by decide))
      · exact i12.mv (hμσ 226 (by decide) (by decide) (by decide) (by decide) (by decide)) (hμσ 228 (by decide) (by decide) (by decide) (by decide) (by decide)) (hμ9 13 (by decide) (by decide)) (hμσ 234 (by decide) (by decide) (by decide) (by decide) (by decide))
      · exact i13.mv (hμσ 225 (by decide) (by decide) (by decide) (by decide) (by decide)) (hμσ 227 (by decide) (by decide) (by decide) (by decide) (by decide)) (hμ9 16 (by decide) (by decide)) (hμσ 235 (by decide) (by decide) (by decide) (by decide) (by decide))
theorem sq_save {k : Nat} {σ : q_M} (hk : k < 512) (hI : z_Inv k σ) : sim_save σ ∧ z_Inv (k + 1) (to_save σ) := by
  obtain ⟨b, t, nw, sz, hb, ht, sb, st, i1, i2, i3, i4, i5, i6, i7, i8, i9, i10, i11, i12, i13⟩ := hI
  obtain ⟨p1, p2, p3, p4⟩ := z_cf (r := 40) (u := 0) (by decide) (by decide) (by decide) i5 i1 i3
  have eF : F_X8_save σ = ((q_up (F_X4_copyFrom 40 0 σ) 220 6 1) 0 2, q_up (F_X4_copyFrom 40 0 σ) 220 6 1) := rfl
  have hω : ∀ a, a ≠ 220 → (q_up (F_X4_copyFrom 40 0 σ) 220 6 1) a = (F_X4_copyFrom 40 0 σ) a := fun a ha => q_up_off ha
  have hω0 : ∀ j, j ≠ 6 → (q_up (F_X4_copyFrom 40 0 σ) 220 6 1) 220 j = σ 220 j := fun j hj => by rw [q_up_nj hj, p4 220 (by decide)]
  have hω6 : (q_up (F_X4_copyFrom 40 0 σ) 220 6 1) 220 6 = 1 := q_up_eq _ _ _ _
  unfold sim_save to_save
  rw [eF]
  dsimp only
  generalize q_up (F_X4_copyFrom 40 0 σ) 220 6 1 = ω at hω hω0 hω6
  have hωσ : ∀ a, a < 40 ∨ 60 ≤ a → a ≠ 220 → ω a = σ a := fun a a1 a2 => by rw [hω a a2, p4 a (by omega)]
  obtain ⟨m1, m2, m3⟩ := z_cp (f := 230) (g := 232) (a := 0) (b := 0) (.inl (by decide)) (by decide) (by decide) (by decide) (by decide) (q_up ω 229 5 0)
  have m1 : P_X9_copies 230 0 232 0 (q_up ω 229 5 0) := m1
  have m2 : ∀ k, k < 118 → F_X9_copies 230 0 232 0 (q_up ω 229 5 0) 232 (0 + k) = (q_up ω 229 5 0) 230 (0 + k) := m2
  have m3 : ∀ p j, p ≠ 232 ∨ j < 0 ∨ 0 + 118 ≤ j → F_X9_copies 230 0 232 0 (q_up ω 229 5 0) p j = (q_up ω 229 5 0) p j := m3
  have eM : F_X9_save ω = ((F_X9_copies 230 0 232 0 (q_up ω 229 5 0)) 230 2, q_up (F_X9_copies 230 0 232 0 (q_up ω 229 5 0)) 229 11 1) := rfl
  rw [eM]
  dsimp only
  have hPM : P_X9_save ω := fun σ1 h1 => by subst h1; exact ⟨m1, trivial⟩
  have hμ : ∀ a, a ≠ 229 → a ≠ 232 → (q_up (F_X9_copies 230 0 232 0 (q_up ω 229 5 0)) 229 11 1) a = ω a := fun a a1 a2 => by
    rw [q_up_off a1]
    funext j
    rw [m3 a j (.inl a2), q_up_nk a1]
  have hμ9 : ∀ j, j ≠ 5 → j ≠ 11 → (q_up (F_X9_copies 230 0 232 0 (q_up ω 229 5 0)) 229 11 1) 229 j = σ 229 j := fun j j5 j11 => by
    rw [q_up_nj j11, m3 229 j (.inl (by decide)), q_up_nj j5, hωσ 229 (by decide) (by decide)]
  have hμ11 : (q_up (F_X9_copies 230 0 232 0 (q_up ω 229 5 0)) 229 11 1) 229 11 = 1 := q_up_eq _ _ _ _
  have hμ2 : ∀ k, k < 118 → (q_up (F_X9_copies 230 0 232 0 (q_up ω 229 5 0)) 229 11 1) 232 (0 + k) = σ 230 (0 + k) := fun k hk => by
    rw [q_up_nk (by decide), m2 k hk, q_up_nk (by decide), hωσ 230 (by decide) (by decide)]
  refine ⟨⟨⟨p1, trivial⟩, hPM, ?_⟩, ?_⟩
  · rw [m3 230 2 (.inl (by decide)), q_up_nk (by decide), hωσ 230 (by decide) (by decide), hωσ 0 (by decide) (by decide), i1.ck, i4.bs 2 (by decide)]
  · generalize q_up (F_X9_copies 230 0 232 0 (q_up ω 229 5 0)) 229 11 1 = μ at hμ hμ9 hμ11 hμ2
    have hμσ : ∀ a, a < 40 ∨ 60 ≤ a → a ≠ 220 → a ≠ 229 → a ≠ 232 → μ a = σ a := fun a a1 a2 a3 a4 => by rw [hμ a a3 a4, hωσ a a1 a2]
    have hμ0 : ∀ j, j ≠ 6 → μ 220 j = σ 220 j := fun j hj => by rw [hμ 220 (by decide) (by decide), hω0 j hj]
    refine ⟨b, t, nw, sz, hb, ht, b, t, ?_, ?_, ?_, ?_, i5.k (by omega), i6.k (by omega), ?_, ?_, ?_, ?_, ?_, ?_, ?_⟩
    · exact i1.off (fun a a1 a2 => hμσ a (by omega) (by omega) (by omega) (by omega))
    · exact i2.mv (fun a a1 a2 => hμσ a (by omega) (by omega) (by omega) (by omega))
    · exact p3.mv (fun a a1 a2 => by rw [hμ a (by omega) (by omega), hω a (by omega)])
    · exact i4.off (hμσ 230 (by decide) (by decide) (by decide) (by decide))
    · exact i7.mv (fun a a1 a2 a3 => hμσ a (by omega) (by omega) (by omega) (by omega))
    · exact i8.mv (hμ9 4 (by decide) (by decide)) (hμσ 233 (by decide) (by decide) (by decide) (by decide))
    · refine .inr ⟨by rw [hμ 220 (by decide) (by decide), hω6], hμ11, ?_, i4.r.cp hμ2, i5.k (by omega)⟩
      exact p2.off (fun a a1 a2 => by rw [hμ a (by omega) (by omega), hω a (by omega)])
    · exact i10.mv (hμ0 7 (by decide)) (hμ0 8 (by decide)) (hμ9 8 (by decide) (by decide)) (hμ9 9 (by decide) (by decide))
    · exact i11.mv (hμ0 9 (by decide)) (hμ0 10 (by decide)) (hμ9 6 (by decide) (by decide)) (hμ9 7 (by decide) (by decide))
    · exact i12.mv (hμσ 226 (by decide) (by decide) (by decide) (by decide)) (hμσ 228 (by decide) (by decide) (by decide) (by decide)) (hμ9 13 (by decide) (by decide)) (hμσ 234 (by decide) (by decide) (by decide) (by decide))
    · exact i13.mv (hμσ 225 (by decide) (by decide) (by decide) (by decide)) (hμσ 227 (by decide) (by decide) (by decide) (by decide)) (hμ9 16 (by decide) (by decide)) (hμσ 235 (by decide) (by decide) (by decide) (by decide))
theorem sq_restore {k : Nat} {σ : q_M} (hk : k < 512) (hI : z_Inv k σ) : sim_restore σ ∧ z_Inv (k + 1) (to_restore σ) := by
  obtain ⟨b, t, nw, sz, hb, ht, sb, st, i1, i2, i3, i4, i5, i6, i7, i8, i9, i10, i11, i12, i13⟩ := hI
  unfold sim_restore q_SimI to_restore
  rcases i9 with ⟨d1, d2⟩ | ⟨d1, d2, j1, j2, j3⟩
  · have eF : F_X8_restore σ = (.inr "java/lang/IllegalStateException", σ) := by unfold F_X8_restore; rw [if_pos d1]
    have eW : W_restore σ = (1, σ) := by
      unfold W_restore
      rw [eF]
      have : q_code nx_restore "java/lang/IllegalStateException" = 1 := by decide +kernel
      show (q_code nx_restore "java/lang/IllegalStateException", σ) = (1, σ)
      rw [this]
    have eM : F_X9_restore σ = (0, q_up σ 229 5 1) := by unfold F_X9_restore; rw [if_pos d2]
    rw [eW]
    dsimp only
    rw [eM]
    refine ⟨⟨⟨⟨fun _ => trivial, fun q => absurd d1 q⟩, fun E q => ?_⟩, ⟨fun _ => trivial, fun q => absurd d2 q⟩, (show (q_up σ 229 5 1) 229 5 = 1 from q_up_eq _ _ _ _), fun q => absurd q (by decide)⟩, ?_⟩
    · rw [eF] at q
      injection q with q
      rw [← q]
      simp
    · exact ⟨b, t, nw, sz, hb, ht, sb, st, z_J.sm ⟨i1, i2, i3, i4, i5, i6, i7, i8, .inl ⟨d1, d2⟩, i10, i11, i12, i13⟩ (by omega) (fun a _ a1 _ _ _ _ => q_up_off a1) (fun j j5 _ _ _ => q_up_nj j5)⟩
  · have e1 : ¬ σ 220 6 = 0 := by rw [d1]; decide
    obtain ⟨p1, p2, p3, p4⟩ := z_cf (r := 0) (u := 40) (by decide) (by decide) (by decide) j3 j1 i1.nos
    have eF : F_X8_restore σ = (.inl ((q_up (F_X4_copyFrom 0 40 σ) 221 2 0) 0 2), q_up (F_X4_copyFrom 0 40 σ) 221 2 0) := by unfold F_X8_restore q_L; rw [if_neg e1]
    have er : (q_up (F_X4_copyFrom 0 40 σ) 221 2 0) 0 2 = nI (sb 2) := by rw [q_up_nk (by decide)]; exact p2.ck
    rw [er] at eF
    have eW : W_restore σ = (0, q_up (q_up (F_X4_copyFrom 0 40 σ) 221 2 0) 237 0 (nI (sb 2))) := by
      unfold W_restore
      rw [eF]
    have hω : ∀ a, a ≠ 221 → a ≠ 237 → (q_up (q_up (F_X4_copyFrom 0 40 σ) 221 2 0) 237 0 (nI (sb 2))) a = (F_X4_copyFrom 0 40 σ) a := fun a a1 a2 => by rw [q_up_off a2, q_up_off a1]
    have hω1 : (q_up (q_up (F_X4_copyFrom 0 40 σ) 221 2 0) 237 0 (nI (sb 2))) 221 1 = nI nw := by rw [q_up_nk (by decide), q_up_nj (by decide), p4 221 (by decide)]; exact i7.1
    have hω2 : (q_up (q_up (F_X4_copyFrom 0 40 σ) 221 2 0) 237 0 (nI (sb 2))) 221 2 = nI 0 := by rw [q_up_nk (by decide), q_up_eq]; rfl
    have hωr : (q_up (q_up (F_X4_copyFrom 0 40 σ) 221 2 0) 237 0 (nI (sb 2))) 237 0 = nI (sb 2) := q_up_eq _ _ _ _
    rw [eW]
    dsimp only
    generalize q_up (q_up (F_X4_copyFrom 0 40 σ) 221 2 0) 237 0 (nI (sb 2)) = ω at hω hω1 hω2 hωr
    have hωσ : ∀ a, 20 ≤ a → a ≠ 221 → a ≠ 237 → ω a = σ a := fun a a1 a2 a3 => by rw [hω a a2 a3, p4 a (by omega)]
    have e2 : ¬ ω 229 11 = 0 := by rw [hωσ 229 (by decide) (by decide) (by decide), d2]; decide
    obtain ⟨m1, m2, m3⟩ := z_cp (f := 232) (g := 230) (a := 0) (b := 0) (.inl (by decide)) (by decide) (by decide) (by decide) (by decide) (q_up ω 229 5 0)
    have m1 : P_X9_copies 232 0 230 0 (q_up ω 229 5 0) := m1
    have m2 : ∀ k, k < 118 → F_X9_copies 232 0 230 0 (q_up ω 229 5 0) 230 (0 + k) = (q_up ω 229 5 0) 232 (0 + k) := m2
    have m3 : ∀ p j, p ≠ 230 ∨ j < 0 ∨ 0 + 118 ≤ j → F_X9_copies 232 0 230 0 (q_up ω 229 5 0) p j = (q_up ω 229 5 0) p j := m3
    have eM : F_X9_restore ω = ((F_X9_copies 232 0 230 0 (q_up ω 229 5 0)) 230 2, q_up (F_X9_copies 232 0 230 0 (q_up ω 229 5 0)) 229 4 0) := by unfold F_X9_restore q_L; rw [if_neg e2]
    rw [eM]
    dsimp only
    have hPM : P_X9_restore ω := ⟨fun q => absurd q e2, fun _ σ1 h1 => by subst h1; exact ⟨m1, trivial⟩⟩
    have hMM : z_M (F_X9_copies 232 0 230 0 (q_up ω 229 5 0)) sb st := z_Mr.m (j2.cp (fun k hk => by rw [m2 k hk, q_up_nk (by decide), hωσ 232 (by decide) (by decide) (by decide)]))
    have hμ : ∀ a, a ≠ 229 → a ≠ 230 → (q_up (F_X9_copies 232 0 230 0 (q_up ω 229 5 0)) 229 4 0) a = ω a := fun a a1 a2 => by
      rw [q_up_off a1]
      funext j
      rw [m3 a j (.inl a2), q_up_nk a1]
    have hμ9 : ∀ j, j ≠ 4 → j ≠ 5 → (q_up (F_X9_copies 232 0 230 0 (q_up ω 229 5 0)) 229 4 0) 229 j = σ 229 j := fun j j4 j5 => by
      rw [q_up_nj j4, m3 229 j (.inl (by decide)), q_up_nj j5, hωσ 229 (by decide) (by decide) (by decide)]
    have hμ4 : (q_up (F_X9_copies 232 0 230 0 (q_up ω 229 5 0)) 229 4 0) 229 4 = nI 0 := q_up_eq _ _ _ _
    have hμ5 : (q_up (F_X9_copies 232 0 230 0 (q_up ω 229 5 0)) 229 4 0) 229 5 = 0 := by rw [q_up_nj (by decide), m3 229 5 (.inl (by decide)), q_up_eq]
    have hμM : z_M (q_up (F_X9_copies 232 0 230 0 (q_up ω 229 5 0)) 229 4 0) sb st := hMM.u9
    refine ⟨⟨⟨⟨fun q => absurd q e1, fun _ => ⟨p1, trivial⟩⟩, fun E q => ?_⟩, hPM, hμ5, fun _ => ?_⟩, ?_⟩
    · rw [eF] at q
      injection q
    · rw [hμ 237 (by decide) (by decide), hωr, hMM.bs 2 (by decide)]
    · generalize q_up (F_X9_copies 232 0 230 0 (q_up ω 229 5 0)) 229 4 0 = μ at hμ hμ9 hμ4 hμ5 hμM
      have hμσ : ∀ a, 20 ≤ a → a ≠ 221 → a ≠ 229 → a ≠ 230 → a ≠ 237 → μ a = σ a := fun a a1 a2 a3 a4 a5 => by rw [hμ a a3 a4, hωσ a a1 a2 a5]
      refine ⟨sb, st, nw, 0, hb, ht, sb, st, ?_, ?_, ?_, hμM, j3.k (by omega), fun i hi => by omega, ⟨?_, ?_, i7.2.2.1, by omega, fun i hi => by omega, fun i hi => ?_⟩, ⟨hμ4, by omega, fun i hi => by omega⟩, ?_, ?_, ?_, ?_, ?_⟩
      · exact p2.off (fun a _ a2 => by rw [hμ a (by omega) (by omega), hω a (by omega) (by omega)])
      · exact i2.mv (fun a a1 a2 => hμσ a (by omega) (by omega) (by omega) (by omega) (by omega))
      · exact i3.mv (fun a a1 a2 => hμσ a (by omega) (by omega) (by omega) (by omega) (by omega))
      · rw [hμ 221 (by decide) (by decide)]; exact hω1
      · rw [hμ 221 (by decide) (by decide)]; exact hω2
      · exact (i7.2.2.2.2.2 i hi).mv (fun a a1 a2 => hμσ a (by omega) (by omega) (by omega) (by omega) (by omega))
      · refine .inr ⟨?_, ?_, ?_, ?_, j3.k (by omega)⟩
        · rw [hμσ 220 (by decide) (by decide) (by decide) (by decide) (by decide)]; exact d1
        · rw [hμ9 11 (by decide) (by decide)]; exact d2
        · exact j1.off (fun a a1 a2 => hμσ a (by omega) (by omega) (by omega) (by omega) (by omega))
        · exact j2.off (hμσ 232 (by decide) (by decide) (by decide) (by decide) (by decide))
      · have q := hμσ 220 (by decide) (by decide) (by decide) (by decide) (by decide)
        exact i10.mv (by rw [q]) (by rw [q]) (hμ9 8 (by decide) (by decide)) (hμ9 9 (by decide) (by decide))
      · have q := hμσ 220 (by decide) (by decide) (by decide) (by decide) (by decide)
        exact i11.mv (by rw [q]) (by rw [q]) (hμ9 6 (by decide) (by decide)) (hμ9 7 (by decide) (by decide))
      · exact i12.mv (hμσ 226 (by decide) (by decide) (by decide) (by decide) (by decide)) (hμσ 228 (by decide) (by decide) (by decide) (by decide) (by decide)) (hμ9 13 (by decide) (by decide)) (hμσ 234 (by decide) (by decide) (by decide) (by decide) (by decide))
      · exact i13.mv (hμσ 225 (by decide) (by decide) (by decide) (by decide) (by decide)) (hμσ 227 (by decide) (by decide) (by decide) (by decide) (by decide)) (hμ9 16 (by decide) (by decide)) (hμσ 235 (by decide) (by decide) (by decide) (by decide) (by decide))
