/-! undo, save, restore. -/
theorem z_sh_top {α : Type} {sz : Nat} (h : Nat → α) (x : α) (h8 : sz ≤ 8) : z_sh sz h x (z_s1 sz - 1) = x := by
  unfold z_sh z_s1
  by_cases e : sz = 8
  · rw [if_pos e, if_pos e, if_pos (by omega)]
  · rw [if_neg e, if_neg e, if_pos (by omega)]
theorem z_s1_pos (sz : Nat) : 0 < z_s1 sz := by
  unfold z_s1
  split <;> omega
theorem c_undo0 {k : Nat} {σ : q_M} {b : Nat → Nat} {t : Nat → Nat → Nat} {nw sz : Nat} {hb : Nat → Nat → Nat} {ht : Nat → Nat → Nat → Nat} {sb : Nat → Nat} {st : Nat → Nat → Nat} (hC : z_C k σ b t nw 0 hb ht sb st) : Q_undo σ ∧ W_undo σ = (-900001, σ) := by
  have d1 : σ 221 2 = 0 := hC.2.2.2.2.2.1.2.1
  have eF : F_X8_undo σ = (.inr "java/lang/IllegalStateException", σ) := by unfold F_X8_undo; rw [if_pos d1]
  refine ⟨⟨⟨fun _ => trivial, fun q => absurd d1 q⟩, fun E q => ?_⟩, ?_⟩
  · rw [eF] at q
    injection q with q
    rw [← q]
    simp
  · unfold W_undo
    rw [eF]
    have : q_code nc_undo "java/lang/IllegalStateException" = -900001 := by decide +kernel
    show (q_code nc_undo "java/lang/IllegalStateException", σ) = _
    rw [this]
theorem c_undo1 {k : Nat} {σ : q_M} {b : Nat → Nat} {t : Nat → Nat → Nat} {nw sz : Nat} {hb : Nat → Nat → Nat} {ht : Nat → Nat → Nat → Nat} {sb : Nat → Nat} {st : Nat → Nat → Nat} (hC : z_C k σ b t nw sz hb ht sb st) (h0 : 0 < sz) : Q_undo σ ∧ ∃ ω, W_undo σ = (nI (sz - 1), ω) ∧ z_C k ω (hb (sz - 1)) (ht (sz - 1)) ((nw + 7) % 8) (sz - 1) hb ht sb st := by
  obtain ⟨i1, i2, i3, i5, i6, i7, i9, i12, i13⟩ := hC
  have c1 := i7.2.1
  have s8 := i7.2.2.2.1
  have d1 : ¬ σ 221 2 = 0 := by rw [c1]; exact nI_ne0 (by omega) (by omega)
  obtain ⟨p1, p2, p3, p4, p5⟩ := z_pop i1.nos i6 i7 h0
  have eF : F_X8_undo σ = (.inl (nI (sz - 1)), F_X2_popInto 0 σ) := by
    unfold F_X8_undo q_L
    rw [if_neg d1]
    dsimp only
    rw [p4.2.1]
  refine ⟨⟨⟨fun q => absurd q d1, fun _ => ⟨p1, trivial⟩⟩, fun E q => ?_⟩, F_X2_popInto 0 σ, ?_, ?_⟩
  · rw [eF] at q
    injection q
  · unfold W_undo
    rw [eF]
  · exact ⟨p2, i2.mv (fun a a1 a2 => p5 a (by omega) (by omega)), i3.mv (fun a a1 a2 => p5 a (by omega) (by omega)), i6 (sz - 1) (by omega), fun i hi => i6 i (by omega), p4, i9.mv (Nat.le_refl _) (fun a a1 a2 => p5 a (by omega) (by omega)) (by rw [p5 220 (by decide) (by decide)]), i12.mv (p5 226 (by decide) (by decide)) (p5 228 (by decide) (by decide)), by rw [p5 225 (by decide) (by decide)]; exact i13⟩
theorem c_save {k : Nat} {σ : q_M} {b : Nat → Nat} {t : Nat → Nat → Nat} {nw sz : Nat} {hb : Nat → Nat → Nat} {ht : Nat → Nat → Nat → Nat} {sb : Nat → Nat} {st : Nat → Nat → Nat} (hC : z_C k σ b t nw sz hb ht sb st) : P_X8_save σ ∧ ∃ ω, F_X8_save σ = (nI (b 2), ω) ∧ ω 220 6 = 1 ∧ z_C k ω b t nw sz hb ht b t := by
  obtain ⟨i1, i2, i3, i5, i6, i7, i9, i12, i13⟩ := hC
  obtain ⟨p1, p2, p3, p4⟩ := z_cf (r := 40) (u := 0) (by decide) (by decide) (by decide) i5 i1 i3
  have eF : F_X8_save σ = ((q_up (F_X4_copyFrom 40 0 σ) 220 6 1) 0 2, q_up (F_X4_copyFrom 40 0 σ) 220 6 1) := rfl
  have hω : ∀ a, a ≠ 220 → (q_up (F_X4_copyFrom 40 0 σ) 220 6 1) a = (F_X4_copyFrom 40 0 σ) a := fun a ha => q_up_off ha
  have hω6 : (q_up (F_X4_copyFrom 40 0 σ) 220 6 1) 220 6 = 1 := q_up_eq _ _ _ _
  have e2 : (q_up (F_X4_copyFrom 40 0 σ) 220 6 1) 0 2 = nI (b 2) := by rw [hω 0 (by decide), p4 0 (.inl (by decide))]; exact i1.ck
  rw [e2] at eF
  generalize q_up (F_X4_copyFrom 40 0 σ) 220 6 1 = ω at hω hω6 eF
  have hωσ : ∀ a, a < 40 ∨ 60 ≤ a → a ≠ 220 → ω a = σ a := fun a a1 a2 => by rw [hω a a2, p4 a (by omega)]
  refine ⟨⟨p1, trivial⟩, ω, eF, hω6, i1.off (fun a a1 a2 => hωσ a (by omega) (by omega)), i2.mv (fun a a1 a2 => hωσ a (by omega) (by omega)), p3.mv (fun a a1 a2 => hω a (by omega)), i5, i6, i7.mv (fun a a1 a2 a3 => hωσ a (by omega) (by omega)), .inr ⟨hω6, p2.off (fun a a1 a2 => hω a (by omega)), i5⟩, i12.mv (hωσ 226 (by decide) (by decide)) (hωσ 228 (by decide) (by decide)), by rw [hωσ 225 (by decide) (by decide)]; exact i13⟩
theorem c_restore {k : Nat} {σ : q_M} {b : Nat → Nat} {t : Nat → Nat → Nat} {nw sz : Nat} {hb : Nat → Nat → Nat} {ht : Nat → Nat → Nat → Nat} {sb : Nat → Nat} {st : Nat → Nat → Nat} (hC : z_C k σ b t nw sz hb ht sb st) (hs6 : sb 3 ≤ 6) : Q_restore σ ∧ ∃ ω, W_restore σ = (nI (sb 2), ω) ∧ z_C k ω sb st nw 0 hb ht sb st := by
  obtain ⟨i1, i2, i3, i5, i6, i7, i9, i12, i13⟩ := hC
  rcases i9 with ⟨d1, d2⟩ | ⟨d1, j1, j3⟩
  · omega
  · have h6 : ¬ σ 220 6 = 0 := by rw [d1]; decide
    obtain ⟨p1, p2, p3, p4⟩ := z_cf (r := 0) (u := 40) (by decide) (by decide) (by decide) j3 j1 i1.nos
    have eF : F_X8_restore σ = (.inl ((q_up (F_X4_copyFrom 0 40 σ) 221 2 0) 0 2), q_up (F_X4_copyFrom 0 40 σ) 221 2 0) := by unfold F_X8_restore q_L; rw [if_neg h6]
    have er : (q_up (F_X4_copyFrom 0 40 σ) 221 2 0) 0 2 = nI (sb 2) := by rw [q_up_nk (by decide)]; exact p2.ck
    rw [er] at eF
    have hω : ∀ a, a ≠ 221 → (q_up (F_X4_copyFrom 0 40 σ) 221 2 0) a = (F_X4_copyFrom 0 40 σ) a := fun a a1 => q_up_off a1
    have hω1 : (q_up (F_X4_copyFrom 0 40 σ) 221 2 0) 221 1 = nI nw := by rw [q_up_nj (by decide), p4 221 (by decide)]; exact i7.1
    have hω2 : (q_up (F_X4_copyFrom 0 40 σ) 221 2 0) 221 2 = nI 0 := by rw [q_up_eq]; rfl
    generalize q_up (F_X4_copyFrom 0 40 σ) 221 2 0 = ω at eF hω hω1 hω2
    have hωσ : ∀ a, 20 ≤ a → a ≠ 221 → ω a = σ a := fun a a1 a2 => by rw [hω a a2, p4 a (by omega)]
    refine ⟨⟨⟨fun q => absurd q h6, fun _ => ⟨p1, trivial⟩⟩, fun E q => ?_⟩, ω, ?_, ?_⟩
    · rw [eF] at q
      injection q
    · unfold W_restore
      rw [eF]
    · refine ⟨p2.off (fun a _ a2 => hω a (by omega)), i2.mv (fun a a1 a2 => hωσ a (by omega) (by omega)), i3.mv (fun a a1 a2 => hωσ a (by omega) (by omega)), j3, fun i hi => by omega, ⟨hω1, hω2, i7.2.2.1, by omega, fun i hi => by omega, fun i hi => ?_⟩, .inr ⟨?_, ?_, j3⟩, i12.mv (hωσ 226 (by decide) (by decide)) (hωσ 228 (by decide) (by decide)), by rw [hωσ 225 (by decide) (by decide)]; exact i13⟩
      · exact (i7.2.2.2.2.2 i hi).mv (fun a a1 a2 => hωσ a (by omega) (by omega))
      · rw [hωσ 220 (by decide) (by decide)]; exact d1
      · exact j1.off (fun a a1 a2 => hωσ a (by omega) (by omega))
