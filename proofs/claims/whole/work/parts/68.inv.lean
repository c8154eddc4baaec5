/-! What the loop keeps; a command that changes the race. -/
def z_iS (k : Nat) (σ : q_M) (sb : Nat → Nat) (st : Nat → Nat → Nat) : Prop := (σ 220 6 = 0 ∧ σ 229 11 = 0) ∨ (σ 220 6 = 1 ∧ σ 229 11 = 1 ∧ z_R σ 40 sb st ∧ z_Mr σ 232 0 sb st ∧ z_V k sb st)
def z_iF (σ : q_M) : Prop := σ 220 7 = σ 229 8 ∧ (σ 220 7 ≠ 0 → σ 220 8 = σ 229 9)
def z_eo (x : Int32) : Prop := x = -1 ∨ ∃ n, n < 2 ^ 31 ∧ x = nI n
def z_iG (σ : q_M) : Prop := σ 220 9 = σ 229 6 ∧ σ 220 10 = σ 229 7 ∧ z_eo (σ 220 9) ∧ z_eo (σ 220 10)
def z_iB (σ : q_M) : Prop := ∃ n, n ≤ 40 ∧ σ 226 3 = nI n ∧ σ 229 13 = nI n ∧ ∀ i, i < n → σ 228 i = σ 234 i ∧ ∃ c, c < 128 ∧ σ 228 i = nI c
def z_iT (σ : q_M) : Prop := ∃ (n : Nat) (tx : Nat → Nat), n ≤ 60 ∧ σ 225 3 = nI n ∧ σ 229 16 = nI n ∧ ∀ i, i < n → σ 227 i = nI (tx i) ∧ σ 235 i = nI (tx i) ∧ 32 ≤ tx i ∧ tx i ≤ 126
theorem z_iS.mv {k k' : Nat} {σ μ : q_M} {sb : Nat → Nat} {st : Nat → Nat → Nat} (h : z_iS k σ sb st) (hk : k ≤ k') (e0 : ∀ a, 40 ≤ a → a < 60 → μ a = σ a) (e1 : μ 220 6 = σ 220 6) (e2 : μ 229 11 = σ 229 11) (e3 : μ 232 = σ 232) : z_iS k' μ sb st := by
  rcases h with ⟨a, b⟩ | ⟨a, b, c, d, f⟩
  · exact .inl ⟨by rw [e1]; exact a, by rw [e2]; exact b⟩
  · exact .inr ⟨by rw [e1]; exact a, by rw [e2]; exact b, c.off (fun x x1 x2 => e0 x x1 (by omega)), d.off e3, f.k hk⟩
theorem z_iF.mv {σ μ : q_M} (h : z_iF σ) (e1 : μ 220 7 = σ 220 7) (e2 : μ 220 8 = σ 220 8) (e3 : μ 229 8 = σ 229 8) (e4 : μ 229 9 = σ 229 9) : z_iF μ := by
  unfold z_iF
  rw [e1, e2, e3, e4]
  exact h
theorem z_iG.mv {σ μ : q_M} (h : z_iG σ) (e1 : μ 220 9 = σ 220 9) (e2 : μ 220 10 = σ 220 10) (e3 : μ 229 6 = σ 229 6) (e4 : μ 229 7 = σ 229 7) : z_iG μ := by
  unfold z_iG
  rw [e1, e2, e3, e4]
  exact h
theorem z_iB.mv {σ μ : q_M} (h : z_iB σ) (e1 : μ 226 = σ 226) (e2 : μ 228 = σ 228) (e3 : μ 229 13 = σ 229 13) (e4 : μ 234 = σ 234) : z_iB μ := by
  unfold z_iB
  rw [e1, e2, e3, e4]
  exact h
theorem z_iT.mv {σ μ : q_M} (h : z_iT σ) (e1 : μ 225 = σ 225) (e2 : μ 227 = σ 227) (e3 : μ 229 16 = σ 229 16) (e4 : μ 235 = σ 235) : z_iT μ := by
  unfold z_iT
  rw [e1, e2, e3, e4]
  exact h
theorem z_R.nos {σ : q_M} {r : Nat} {b : Nat → Nat} {t : Nat → Nat → Nat} (h : z_R σ r b t) : z_no σ r := by
  intro w hw
  by_cases c : w < b 3
  · exact (h.te w hw c).no
  · exact (h.ab w hw (by omega)).no
theorem z_no.mv {σ μ : q_M} {r : Nat} (h : z_no σ r) (e : ∀ a, r ≤ a → a < r + 20 → μ a = σ a) : z_no μ r := fun w hw => by rw [e _ (by omega) (by omega)]; exact h w hw
theorem z_HC.mv {σ μ : q_M} {nw sz : Nat} {hb : Nat → Nat → Nat} {ht : Nat → Nat → Nat → Nat} (h : z_HC σ nw sz hb ht) (e : ∀ a, 60 ≤ a → a < 222 → a ≠ 220 → μ a = σ a) : z_HC μ nw sz hb ht := by
  obtain ⟨h1, h2, h3, h4, h5, h6⟩ := h
  refine ⟨by rw [e 221 (by decide) (by decide) (by decide)]; exact h1, by rw [e 221 (by decide) (by decide) (by decide)]; exact h2, h3, h4, fun i hi => ?_, fun i hi => ?_⟩
  · have e3 : z_sl nw sz i + 20 ≤ 220 ∧ 60 ≤ z_sl nw sz i := by unfold z_sl; omega
    exact (h5 i hi).off (fun a a1 a2 => e a (by omega) (by omega) (by omega))
  · exact (h6 i hi).mv (fun a a1 a2 => e a (by omega) (by omega) (by omega))
theorem z_HM.mv {σ μ : q_M} {sz : Nat} {hb : Nat → Nat → Nat} {ht : Nat → Nat → Nat → Nat} (h : z_HM σ sz hb ht) (e1 : μ 229 4 = σ 229 4) (e2 : μ 233 = σ 233) : z_HM μ sz hb ht := by
  obtain ⟨h1, h2, h3⟩ := h
  exact ⟨by rw [e1]; exact h1, h2, fun i hi => (h3 i hi).off e2⟩
theorem z_HV.k {k k' sz : Nat} {hb : Nat → Nat → Nat} {ht : Nat → Nat → Nat → Nat} (h : z_HV k sz hb ht) (hk : k ≤ k') : z_HV k' sz hb ht := fun i hi => (h i hi).k hk
def z_J (k : Nat) (σ : q_M) (b : Nat → Nat) (t : Nat → Nat → Nat) (nw sz : Nat) (hb : Nat → Nat → Nat) (ht : Nat → Nat → Nat → Nat) (sb : Nat → Nat) (st : Nat → Nat → Nat) : Prop :=
  z_R σ 0 b t ∧ z_no σ 20 ∧ z_no σ 40 ∧ z_M σ b t ∧ z_V k b t ∧ z_HV k sz hb ht ∧ z_HC σ nw sz hb ht ∧ z_HM σ sz hb ht ∧ z_iS k σ sb st ∧ z_iF σ ∧ z_iG σ ∧ z_iB σ ∧ z_iT σ
/-- what the law's loop keeps -/
def z_Inv (k : Nat) (σ : q_M) : Prop := ∃ b t nw sz hb ht sb st, z_J (31 * k) σ b t nw sz hb ht sb st
/-- a question changes nothing that counts -/
theorem z_J.sm {k k' : Nat} {σ μ : q_M} {b : Nat → Nat} {t : Nat → Nat → Nat} {nw sz : Nat} {hb : Nat → Nat → Nat} {ht : Nat → Nat → Nat → Nat} {sb : Nat → Nat} {st : Nat → Nat → Nat} (h : z_J k σ b t nw sz hb ht sb st) (hk : k ≤ k') (e : ∀ a, a < 222 ∨ 225 ≤ a → a ≠ 229 → a ≠ 231 → a ≠ 236 → a ≠ 237 → a ≠ 238 → μ a = σ a) (e9 : ∀ j, j ≠ 5 → j ≠ 10 → j ≠ 17 → j ≠ 18 → μ 229 j = σ 229 j) : z_J k' μ b t nw sz hb ht sb st := by
  obtain ⟨h1, h2, h3, h4, h5, h6, h7, h8, h9, h10, h11, h12, h13⟩ := h
  refine ⟨h1.off (fun a _ _ => e a (by omega) (by omega) (by omega) (by omega) (by omega) (by omega)), h2.mv (fun a _ _ => e a (by omega) (by omega) (by omega) (by omega) (by omega) (by omega)), h3.mv (fun a _ _ => e a (by omega) (by omega) (by omega) (by omega) (by omega) (by omega)), h4.off (e 230 (by decide) (by decide) (by decide) (by decide) (by decide) (by decide)), h5.k hk, h6.k hk, h7.mv (fun a _ _ _ => e a (by omega) (by omega) (by omega) (by omega) (by omega) (by omega)), h8.mv (e9 4 (by decide) (by decide) (by decide) (by decide)) (e 233 (by decide) (by decide) (by decide) (by decide) (by decide) (by decide)), ?_, ?_, ?_, ?_, ?_⟩
  · exact h9.mv hk (fun a _ _ => e a (by omega) (by omega) (by omega) (by omega) (by omega) (by omega)) (by rw [e 220 (by decide) (by decide) (by decide) (by decide) (by decide) (by decide)]) (e9 11 (by decide) (by decide) (by decide) (by decide)) (e 232 (by decide) (by decide) (by decide) (by decide) (by decide) (by decide))
  · have e2 := e 220 (by decide) (by decide) (by decide) (by decide) (by decide) (by decide)
    exact h10.mv (by rw [e2]) (by rw [e2]) (e9 8 (by decide) (by decide) (by decide) (by decide)) (e9 9 (by decide) (by decide) (by decide) (by decide))
  · have e2 := e 220 (by decide) (by decide) (by decide) (by decide) (by decide) (by decide)
    exact h11.mv (by rw [e2]) (by rw [e2]) (e9 6 (by decide) (by decide) (by decide) (by decide)) (e9 7 (by decide) (by decide) (by decide) (by decide))
  · exact h12.mv (e 226 (by decide) (by decide) (by decide) (by decide) (by decide) (by decide)) (e 228 (by decide) (by decide) (by decide) (by decide) (by decide) (by decide)) (e9 13 (by decide) (by decide) (by decide) (by decide)) (e 234 (by decide) (by decide) (by decide) (by decide) (by decide) (by decide))
  · exact h13.mv (e 225 (by decide) (by decide) (by decide) (by decide) (by decide) (by decide)) (e 227 (by decide) (by decide) (by decide) (by decide) (by decide) (by decide)) (e9 16 (by decide) (by decide) (by decide) (by decide)) (e 235 (by decide) (by decide) (by decide) (by decide) (by decide) (by decide))
def z_fC (Ff Fb : q_M → Int32 × q_M) (σ : q_M) : (Int32 ⊕ String) × q_M := match F_X8_raise (Ff σ).1 (Ff σ).2 with | none => (.inl (Fb (F_X2_push 0 (Ff σ).2)).1, (Fb (F_X2_push 0 (Ff σ).2)).2) | some E => (.inr E, (Ff σ).2)
def z_fW (nx : List String) (y : (Int32 ⊕ String) × q_M) : Int32 × q_M := match y with | (.inl v, τ) => (0, q_up τ 237 0 v) | (.inr E, τ) => (q_code nx E, τ)
def z_fM (FD : q_M → Int32 × q_M) (σ : q_M) : Int32 × q_M := F_X9_ends (FD (F_X9_keeps σ)).1 (FD (F_X9_keeps σ)).2
theorem z_rCo {rf : Option (Nat × Int32)} {σ : q_M} {a : Nat} (ha : a ≠ 220) : z_rC rf σ a = σ a := by
  cases rf with
  | none => rfl
  | some x => show (q_up (q_up σ 220 7 (nI x.1)) 220 8 x.2) a = σ a; rw [q_up_off ha, q_up_off ha]
theorem z_rCj {rf : Option (Nat × Int32)} {σ : q_M} {j : Nat} (h7 : j ≠ 7) (h8 : j ≠ 8) : z_rC rf σ 220 j = σ 220 j := by
  cases rf with
  | none => rfl
  | some x => show (q_up (q_up σ 220 7 (nI x.1)) 220 8 x.2) 220 j = σ 220 j; rw [q_up_nj h8, q_up_nj h7]
theorem z_rMo {rf : Option (Nat × Int32)} {σ : q_M} {a : Nat} (ha : a ≠ 229) : z_rM rf σ a = σ a := by
  cases rf with
  | none => rfl
  | some x => show (q_up (q_up σ 229 8 (nI x.1)) 229 9 x.2) a = σ a; rw [q_up_off ha, q_up_off ha]
theorem z_rMj {rf : Option (Nat × Int32)} {σ : q_M} {j : Nat} (h7 : j ≠ 8) (h8 : j ≠ 9) : z_rM rf σ 229 j = σ 229 j := by
  cases rf with
  | none => rfl
  | some x => show (q_up (q_up σ 229 8 (nI x.1)) 229 9 x.2) 229 j = σ 229 j; rw [q_up_nj h8, q_up_nj h7]
theorem z_iF.rf {rf : Option (Nat × Int32)} {σ μ : q_M} (h : z_iF σ) (e1 : ∀ j, μ 220 j = z_rC rf σ 220 j) (e2 : ∀ j, j ≠ 5 → μ 229 j = z_rM rf σ 229 j) : z_iF μ := by
  unfold z_iF
  rw [e1, e1, e2 8 (by decide), e2 9 (by decide)]
  cases rf with
  | none => exact h
  | some x =>
    show (q_up (q_up σ 220 7 (nI x.1)) 220 8 x.2) 220 7 = (q_up (q_up σ 229 8 (nI x.1)) 229 9 x.2) 229 8 ∧ ((q_up (q_up σ 220 7 (nI x.1)) 220 8 x.2) 220 7 ≠ 0 → (q_up (q_up σ 220 7 (nI x.1)) 220 8 x.2) 220 8 = (q_up (q_up σ 229 8 (nI x.1)) 229 9 x.2) 229 9)
    rw [q_up_nj (by decide), q_up_eq, q_up_nj (by decide), q_up_eq, q_up_eq, q_up_eq]
    exact ⟨rfl, fun _ => rfl⟩
theorem z_face {N k : Nat} {σ : q_M} {b : Nat → Nat} {t : Nat → Nat → Nat} {nw sz : Nat} {hb : Nat → Nat → Nat} {ht : Nat → Nat → Nat → Nat} {sb : Nat → Nat} {st : Nat → Nat → Nat} {cf : Nat → Int32} {Pf : q_M → Prop} {Ff : q_M → Int32 × q_M} {Pb : q_M → Prop} {Fb : q_M → Int32 × q_M} {PD : q_M → Prop} {FD : q_M → Int32 × q_M} (nx : List String)
    (hN : N ≤ 3) (hI : z_J (31 * k) σ b t nw sz hb ht sb st) (hs : z_same N (31 * k) b t cf Pf Ff Pb Fb PD FD) (h0 : cf 0 = 10) (hcf : ∀ c, 1 ≤ c → c ≤ N → ∃ E, (∀ σ, F_X8_raise (cf c) σ = some E) ∧ E ∈ nx ∧ q_code nx E = nI c) :
    Pf σ ∧ (F_X8_raise (Ff σ).1 (Ff σ).2 = none → P_X2_push 0 (Ff σ).2 ∧ Pb (F_X2_push 0 (Ff σ).2)) ∧ (∀ E, (z_fC Ff Fb σ).1 = .inr E → E ∈ nx) ∧
    ∃ (c : Int32) (ω : q_M), z_fW nx (z_fC Ff Fb σ) = (c, ω) ∧ P_X9_keeps ω ∧ PD (F_X9_keeps ω) ∧ P_X9_ends (FD (F_X9_keeps ω)).1 (FD (F_X9_keeps ω)).2 ∧ (z_fM FD ω).2 229 5 = c ∧ (c = 0 → (z_fM FD ω).2 237 0 = (z_fM FD ω).1 ∧ ∃ τ, (z_fM FD ω).1 = (Fb τ).1) ∧ z_M ω b t ∧ z_Inv (k + 1) (z_fM FD ω).2 := by
  obtain ⟨i1, i2, i3, i4, i5, i6, i7, i8, i9, i10, i11, i12, i13⟩ := hI
  obtain ⟨code, res, rf, b', t', hc, hV', hsm, hrf, hrf3, hF, hB, hD⟩ := hs
  obtain ⟨f1, f2⟩ := hF σ i1
  by_cases h : code = 0
  · have erf := hrf h
    subst erf
    have ef : Ff σ = (10, σ) := by rw [f2, h, h0]; rfl
    have er : F_X8_raise (10 : Int32) σ = none := by unfold F_X8_raise; rw [if_neg (by decide), if_neg (by decide), if_neg (by decide), if_neg (by decide)]
    obtain ⟨p1, p2, p3⟩ := z_push (r := 0) (by decide) i1 i5 i7
    have hRp : z_R (F_X2_push 0 σ) 0 b t := i1.off (fun a _ a2 => p3 a (by omega))
    obtain ⟨b1, b2, b3, b4⟩ := hB h _ hRp
    have eC : z_fC Ff Fb σ = (.inl (nI res), (Fb (F_X2_push 0 σ)).2) := by
      unfold z_fC
      simp only [ef, er]
      rw [b2]
    have eW : z_fW nx (z_fC Ff Fb σ) = (0, q_up (Fb (F_X2_push 0 σ)).2 237 0 (nI res)) := by rw [eC]; rfl
    have hω : ∀ a, 20 ≤ a → a ≠ 237 → (q_up (Fb (F_X2_push 0 σ)).2 237 0 (nI res)) a = (F_X2_push 0 σ) a := fun a a1 a2 => by rw [q_up_off a2, b4 a a1]
    have hω0 : ∀ a, a ≠ 237 → (q_up (Fb (F_X2_push 0 σ)).2 237 0 (nI res)) a = (Fb (F_X2_push 0 σ)).2 a := fun a a2 => q_up_off a2
    have hωr : (q_up (Fb (F_X2_push 0 σ)).2 237 0 (nI res)) 237 0 = nI res := q_up_eq _ _ _ _
    generalize q_up (Fb (F_X2_push 0 σ)).2 237 0 (nI res) = ω at eW hω hω0 hωr
    have hωσ : ∀ a, 20 ≤ a → a ≠ 237 → (a < 60 ∨ 222 ≤ a ∨ a = 220) → ω a = σ a := fun a a1 a2 a3 => by rw [hω a a1 a2, p3 a a3]
    have hMω : z_M ω b t := i4.off (hωσ 230 (by decide) (by decide) (by decide))
    obtain ⟨k1, k2, k3, k4, k5, k6⟩ := z_keeps ω hMω
    obtain ⟨d1, d2, d3, d4, d5⟩ := hD _ k2
    have d5 : z_fs (F_X9_keeps ω) (FD (F_X9_keeps ω)).2 := d5
    have d2 := d2 h
    rw [h] at d3
    generalize hδ : (FD (F_X9_keeps ω)).2 = δ at d3 d4 d5
    have hδω : ∀ a, a ≠ 229 → a ≠ 230 → a ≠ 231 → δ a = ω a := fun a a1 a2 a3 => by rw [d5.1 a a1 a2, k5 a a1 a3]
    have hδ9 : ∀ j, j ≠ 5 → δ 229 j = σ 229 j := fun j hj => by rw [d5.2 j hj, k6 j hj, hωσ 229 (by decide) (by decide) (by decide)]
    have hHM : z_HM δ sz hb ht := i8.mv (hδ9 4 (by decide)) (by rw [hδω 233 (by decide) (by decide) (by decide), hωσ 233 (by decide) (by decide) (by decide)])
    have hwas : z_Mr δ 231 0 b t := k3.off (d5.1 231 (by decide) (by decide))
    obtain ⟨e1, e2, e3, e4, e5⟩ := z_ends (nI res) hHM hwas d3
    have eM : z_fM FD ω = F_X9_ends (nI res) δ := by unfold z_fM; rw [hδ, d2]
    rw [← eM] at e2 e3 e4 e5
    refine ⟨f1, fun _ => by rw [ef]; exact ⟨p1, b1⟩, fun E q => by rw [eC] at q; simp at q, 0, ω, eW, k1, d1, by rw [hδ, d2]; exact e1, ?_, fun _ => ⟨?_, F_X2_push 0 σ, by rw [e2, b2]⟩, hMω, ?_⟩
    · rw [e5 5 (by decide), d3]; rfl
    · rw [e4 237 (by decide) (by decide), hδω 237 (by decide) (by decide) (by decide), hωr, e2]
    · have hμω : ∀ a, a ≠ 229 → a ≠ 230 → a ≠ 231 → a ≠ 233 → (z_fM FD ω).2 a = ω a := fun a a1 a2 a3 a4 => by rw [e4 a a1 a4, hδω a a1 a2 a3]
      have hμσ : ∀ a, 20 ≤ a → a ≠ 229 → a ≠ 230 → a ≠ 231 → a ≠ 233 → a ≠ 237 → (a < 60 ∨ 222 ≤ a ∨ a = 220) → (z_fM FD ω).2 a = σ a := fun a a0 a1 a2 a3 a4 a5 a6 => by rw [hμω a a1 a2 a3 a4, hωσ a a0 a5 a6]
      have hμ9 : ∀ j, j ≠ 5 → j ≠ 4 → (z_fM FD ω).2 229 j = σ 229 j := fun j j5 j4 => by rw [e5 j j4, hδ9 j j5]
      refine ⟨b', t', (nw + 1) % 8, z_s1 sz, z_sh sz hb b, z_sh sz ht t, sb, st, ?_, ?_, ?_, ?_, hV'.k (by omega), (i6.sh i5).k (by omega), ?_, e3, ?_, ?_, ?_, ?_, ?_⟩
      · exact b3.off (fun a _ a2 => by rw [hμω a (by omega) (by omega) (by omega) (by omega), hω0 a (by omega)])
      · exact i2.mv (fun a a1 a2 => hμσ a (by omega) (by omega) (by omega) (by omega) (by omega) (by omega) (by omega))
      · exact i3.mv (fun a a1 a2 => hμσ a (by omega) (by omega) (by omega) (by omega) (by omega) (by omega) (by omega))
      · exact d4.off (e4 230 (by decide) (by decide))
      · exact p2.mv (fun a a1 a2 a3 => by rw [hμω a (by omega) (by omega) (by omega) (by omega), hω a (by omega) (by omega)])
      · exact i9.mv (by omega) (fun a a1 a2 => hμσ a (by omega) (by omega) (by omega) (by omega) (by omega) (by omega) (by omega)) (by rw [hμσ 220 (by decide) (by decide) (by decide) (by decide) (by decide) (by decide) (by decide)]) (hμ9 11 (by decide) (by decide)) (hμσ 232 (by decide) (by decide) (by decide) (by decide) (by decide) (by decide) (by decide))
      · have q := hμσ 220 (by decide) (by decide) (by decide) (by decide) (by decide) (by decide) (by decide)
        exact i10.mv (by rw [q]) (by rw [q]) (hμ9 8 (by decide) (by decide)) (hμ9 9 (by decide) (by decide))
      · have q := hμσ 220 (by decide) (by decide) (by decide) (by decide) (by decide) (by decide) (by decide)
        exact i11.mv (by rw [q]) (by rw [q]) (hμ9 6 (by decide) (by decide)) (hμ9 7 (by decide) (by decide))
      · exact i12.mv (hμσ 226 (by decide) (by decide) (by decide) (by decide) (by decide) (by decide) (by decide)) (hμσ 228 (by decide) (by decide) (by decide) (by decide) (by decide) (by decide) (by decide)) (hμ9 13 (by decide) (by decide)) (hμσ 234 (by decide) (by decide) (by decide) (by decide) (by decide) (by decide) (by decide))
      · exact i13.mv (hμσ 225 (by decide) (by decide) (by decide) (by decide) (by decide) (by decide) (by decide)) (hμσ 227 (by decide) (by decide) (by decide) (by decide) (by decide) (by decide) (by decide)) (hμ9 16 (by decide) (by decide)) (hμσ 235 (by decide) (by decide) (by decide) (by decide) (by decide) (by decide) (by decide))
  · obtain ⟨E, r1, r2, r3⟩ := hcf code (by omega) hc
    obtain ⟨hb', ht'⟩ := hsm h
    subst hb' ht'
    have er : F_X8_raise (Ff σ).1 (Ff σ).2 = some E := by rw [f2]; exact r1 _
    have eC : z_fC Ff Fb σ = (.inr E, z_rC rf σ) := by
      unfold z_fC
      rw [er, f2]
    have eW : z_fW nx (z_fC Ff Fb σ) = (nI code, z_rC rf σ) := by
      rw [eC]
      show (q_code nx E, z_rC rf σ) = _
      rw [r3]
    have hMω : z_M (z_rC rf σ) b' t' := i4.off (z_rCo (by decide))
    obtain ⟨k1, k2, k3, k4, k5, k6⟩ := z_keeps (z_rC rf σ) hMω
    obtain ⟨d1, d2, d3, d4, d5⟩ := hD _ k2
    have hn5 : ¬ (FD (F_X9_keeps (z_rC rf σ))).2 229 5 = 0 := by rw [d3]; exact nI_ne0 (by omega) (by omega)
    obtain ⟨e1, e2⟩ := z_ends0 (FD (F_X9_keeps (z_rC rf σ))).1 hn5
    have eM : z_fM FD (z_rC rf σ) = (0, (FD (F_X9_keeps (z_rC rf σ))).2) := e2
    refine ⟨f1, fun q => by rw [er] at q; simp at q, fun E' q => ?_, nI code, z_rC rf σ, eW, k1, d1, e1, ?_, fun q => absurd q (nI_ne0 (by omega) (by omega)), hMω, ?_⟩
    · rw [eC] at q
      injection q with q
      rw [← q]
      exact r2
    · rw [eM]; exact d3
    · rw [eM]
      show z_Inv (k + 1) (FD (F_X9_keeps (z_rC rf σ))).2
      generalize (FD (F_X9_keeps (z_rC rf σ))).2 = δ at d3 d4 d5
      have hδσ : ∀ a, a ≠ 220 → a ≠ 229 → a ≠ 230 → a ≠ 231 → δ a = σ a := fun a a0 a1 a2 a3 => by rw [d5.1 a a1 a2, z_rMo a1, k5 a a1 a3, z_rCo a0]
      have hδ0 : ∀ j, δ 220 j = z_rC rf σ 220 j := fun j => by rw [d5.1 220 (by decide) (by decide), z_rMo (by decide), k5 220 (by decide) (by decide)]
      have hδ9 : ∀ j, j ≠ 5 → δ 229 j = z_rM rf σ 229 j := fun j hj => by
        rw [d5.2 j hj]
        cases rf with
        | none => exact k6 j hj
        | some x =>
          show (q_up (q_up (F_X9_keeps (z_rC (some x) σ)) 229 8 (nI x.1)) 229 9 x.2) 229 j = (q_up (q_up σ 229 8 (nI x.1)) 229 9 x.2) 229 j
          by_cases j9 : j = 9
          · subst j9; rw [q_up_eq, q_up_eq]
          · rw [q_up_nj j9, q_up_nj j9]
            by_cases j8 : j = 8
            · subst j8; rw [q_up_eq, q_up_eq]
            · rw [q_up_nj j8, q_up_nj j8, k6 j hj, z_rCo (by decide)]
      refine ⟨b', t', nw, sz, hb, ht, sb, st, ?_, ?_, ?_, d4, i5.k (by omega), i6.k (by omega), ?_, ?_, ?_, ?_, ?_, ?_, ?_⟩
      · exact i1.off (fun a a1 a2 => hδσ a (by omega) (by omega) (by omega) (by omega))
      · exact i2.mv (fun a a1 a2 => hδσ a (by omega) (by omega) (by omega) (by omega))
      · exact i3.mv (fun a a1 a2 => hδσ a (by omega) (by omega) (by omega) (by omega))
      · exact i7.mv (fun a a1 a2 a3 => hδσ a (by omega) (by omega) (by omega) (by omega))
      · exact i8.mv (by rw [hδ9 4 (by decide), z_rMj (by decide) (by decide)]) (hδσ 233 (by decide) (by decide) (by decide) (by decide))
      · exact i9.mv (by omega) (fun a a1 a2 => hδσ a (by omega) (by omega) (by omega) (by omega)) (by rw [hδ0, z_rCj (by decide) (by decide)]) (by rw [hδ9 11 (by decide), z_rMj (by decide) (by decide)]) (hδσ 232 (by decide) (by decide) (by decide) (by decide))
      · exact i10.rf hδ0 hδ9
      · exact i11.mv (by rw [hδ0, z_rCj (by decide) (by decide)]) (by rw [hδ0, z_rCj (by decide) (by decide)]) (by rw [hδ9 6 (by decide), z_rMj (by decide) (by decide)]) (by rw [hδ9 7 (by decide), z_rMj (by decide) (by decide)])
      · exact i12.mv (hδσ 226 (by decide) (by decide) (by decide) (by decide)) (hδσ 228 (by decide) (by decide) (by decide) (by decide)) (by rw [hδ9 13 (by decide), z_rMj (by decide) (by decide)]) (hδσ 234 (by decide) (by decide) (by decide) (by decide))
      · exact i13.mv (hδσ 225 (by decide) (by decide) (by decide) (by decide)) (hδσ 227 (by decide) (by decide) (by decide) (by decide)) (by rw [hδ9 16 (by decide), z_rMj (by decide) (by decide)]) (hδσ 235 (by decide) (by decide) (by decide) (by decide))
