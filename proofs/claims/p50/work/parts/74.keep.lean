/-! What the law's rounds keep; a command that changes the race. -/
def z_cS (k : Nat) (σ : q_M) (sb : Nat → Nat) (st : Nat → Nat → Nat) : Prop := (σ 220 6 = 0 ∧ sb 3 = 77) ∨ (σ 220 6 = 1 ∧ z_R σ 40 sb st ∧ z_V k sb st)
def z_cB (σ : q_M) : Prop := ∃ n, n ≤ 40 ∧ σ 226 3 = nI n ∧ ∀ i, i < n → ∃ c, c < 128 ∧ σ 228 i = nI c
theorem z_cS.mv {k k' : Nat} {σ μ : q_M} {sb : Nat → Nat} {st : Nat → Nat → Nat} (h : z_cS k σ sb st) (hk : k ≤ k') (e0 : ∀ a, 40 ≤ a → a < 60 → μ a = σ a) (e1 : μ 220 6 = σ 220 6) : z_cS k' μ sb st := by
  rcases h with ⟨a, a2⟩ | ⟨a, c, f⟩
  · exact .inl ⟨by rw [e1]; exact a, a2⟩
  · exact .inr ⟨by rw [e1]; exact a, c.off (fun x x1 x2 => e0 x x1 (by omega)), f.k hk⟩
theorem z_cB.mv {σ μ : q_M} (h : z_cB σ) (e1 : μ 226 = σ 226) (e2 : μ 228 = σ 228) : z_cB μ := by
  unfold z_cB
  rw [e1, e2]
  exact h
theorem z_R.nos {σ : q_M} {r : Nat} {b : Nat → Nat} {t : Nat → Nat → Nat} (h : z_R σ r b t) : z_no σ r := by
  intro w hw
  by_cases c : w < b 3
  · exact (h.te w hw c).no
  · exact (h.ab w hw (by omega)).no
theorem z_no.mv {σ μ : q_M} {r : Nat} (h : z_no σ r) (e : ∀ a, r ≤ a → a < r + 20 → μ a = σ a) : z_no μ r := fun w hw => by rw [e _ (by omega) (by omega)]; exact h w hw
theorem z_HC.mv {σ μ : q_M} {nw sz : Nat} {hb : Nat → Nat → Nat} {ht : Nat → Nat → Nat → Nat} (h : z_HC σ nw sz hb ht) (e : ∀ a, 60 ≤ a → a < 222 → a ≠ 220 → μ a = σ a) : z_HC μ nw sz hb ht := by
  obtain ⟨h1, h2, h3, h4, h5, h6⟩ := h
  refine ⟨by rw [e 221 (by decide) (by decide) (by decide)]; exact h1, by rw [e 221 (by decide) (by decide) (by decide)]; exact h2, h3, h4, fun i hi => ?_, fun i hi => ?_⟩
  · have e3 : z_sl nw sz i + 20 ≤ 220 ∧ 60 ≤ z_sl nw sz i := by unfold z_sl; omega
    exact (h5 i hi).off (fun a a1 a2 => e a (by omega) (by omega) (by omega))
  · exact (h6 i hi).mv (fun a a1 a2 => e a (by omega) (by omega) (by omega))
theorem z_HV.k {k k' sz : Nat} {hb : Nat → Nat → Nat} {ht : Nat → Nat → Nat → Nat} (h : z_HV k sz hb ht) (hk : k ≤ k') : z_HV k' sz hb ht := fun i hi => (h i hi).k hk
def z_C (k : Nat) (σ : q_M) (b : Nat → Nat) (t : Nat → Nat → Nat) (nw sz : Nat) (hb : Nat → Nat → Nat) (ht : Nat → Nat → Nat → Nat) (sb : Nat → Nat) (st : Nat → Nat → Nat) : Prop :=
  z_R σ 0 b t ∧ z_no σ 20 ∧ z_no σ 40 ∧ z_V k b t ∧ z_HV k sz hb ht ∧ z_HC σ nw sz hb ht ∧ z_cS k σ sb st ∧ z_cB σ ∧ σ 225 3 = 0
theorem z_C.mv {k k' : Nat} {σ μ : q_M} {b : Nat → Nat} {t : Nat → Nat → Nat} {nw sz : Nat} {hb : Nat → Nat → Nat} {ht : Nat → Nat → Nat → Nat} {sb : Nat → Nat} {st : Nat → Nat → Nat} (h : z_C k σ b t nw sz hb ht sb st) (hk : k ≤ k') (e : ∀ a, a < 222 → a ≠ 220 → μ a = σ a) (e6 : μ 220 6 = σ 220 6) (e5 : μ 225 3 = σ 225 3) (e7 : μ 226 = σ 226) (e8 : μ 228 = σ 228) : z_C k' μ b t nw sz hb ht sb st := by
  obtain ⟨h1, h2, h3, h4, h5, h6, h7, h8, h9⟩ := h
  exact ⟨h1.off (fun a _ _ => e a (by omega) (by omega)), h2.mv (fun a _ _ => e a (by omega) (by omega)), h3.mv (fun a _ _ => e a (by omega) (by omega)), h4.k hk, h5.k hk, h6.mv (fun a _ a2 a3 => e a a2 a3), h7.mv hk (fun a _ _ => e a (by omega) (by omega)) e6, h8.mv e7 e8, by rw [e5]; exact h9⟩
def z_fC (Ff Fb : q_M → Int32 × q_M) (σ : q_M) : (Int32 ⊕ String) × q_M := match F_X8_raise (Ff σ).1 (Ff σ).2 with | none => (.inl (Fb (F_X2_push 0 (Ff σ).2)).1, (Fb (F_X2_push 0 (Ff σ).2)).2) | some E => (.inr E, (Ff σ).2)
theorem z_rCo {rf : Option (Nat × Int32)} {σ : q_M} {a : Nat} (ha : a ≠ 220) : z_rC rf σ a = σ a := by
  cases rf with
  | none => rfl
  | some x => show (q_up (q_up σ 220 7 (nI x.1)) 220 8 x.2) a = σ a; rw [q_up_off ha, q_up_off ha]
theorem z_rCj {rf : Option (Nat × Int32)} {σ : q_M} {j : Nat} (h7 : j ≠ 7) (h8 : j ≠ 8) : z_rC rf σ 220 j = σ 220 j := by
  cases rf with
  | none => rfl
  | some x => show (q_up (q_up σ 220 7 (nI x.1)) 220 8 x.2) 220 j = σ 220 j; rw [q_up_nj h8, q_up_nj h7]
def z_bad (x : Int32) : Prop := x = -900001 ∨ x = -900002 ∨ x = -900003
def z_gC (nc : List (String × Int32)) (y : (Int32 ⊕ String) × q_M) : Int32 × q_M := match y with | (.inl v, τ) => (v, τ) | (.inr E, τ) => (q_code nc E, τ)
/-- how a command ends: refused, and all is as it was; or done, and what was is the last of the history -/
def z_wo (k : Nat) (b : Nat → Nat) (t : Nat → Nat → Nat) (nw sz : Nat) (hb : Nat → Nat → Nat) (ht : Nat → Nat → Nat → Nat) (sb : Nat → Nat) (st : Nat → Nat → Nat) (y : Int32 × q_M) : Prop :=
  (z_bad y.1 ∧ z_C (k + 1) y.2 b t nw sz hb ht sb st) ∨ ∃ (res : Nat) (b' : Nat → Nat) (t' : Nat → Nat → Nat), res < 5000000 ∧ b 3 ≤ b' 3 ∧ y.1 = nI res ∧ z_C (k + 1) y.2 b' t' ((nw + 1) % 8) (z_s1 sz) (z_sh sz hb b) (z_sh sz ht t) sb st
theorem z_cfc {N k : Nat} {σ : q_M} {b : Nat → Nat} {t : Nat → Nat → Nat} {nw sz : Nat} {hb : Nat → Nat → Nat} {ht : Nat → Nat → Nat → Nat} {sb : Nat → Nat} {st : Nat → Nat → Nat} {cf : Nat → Int32} {Pf : q_M → Prop} {Ff : q_M → Int32 × q_M} {Pb : q_M → Prop} {Fb : q_M → Int32 × q_M} {PD : q_M → Prop} {FD : q_M → Int32 × q_M} (nx : List String) (nc : List (String × Int32)) (hC : z_C k σ b t nw sz hb ht sb st) (hs : z_same N k b t cf Pf Ff Pb Fb PD FD) (h0 : cf 0 = 10) (hcf : ∀ c, 1 ≤ c → c ≤ N → ∃ E, (∀ σ, F_X8_raise (cf c) σ = some E) ∧ E ∈ nx ∧ z_bad (q_code nc E)) :
    Pf σ ∧ (F_X8_raise (Ff σ).1 (Ff σ).2 = none → P_X2_push 0 (Ff σ).2 ∧ Pb (F_X2_push 0 (Ff σ).2)) ∧ (∀ E, (z_fC Ff Fb σ).1 = .inr E → E ∈ nx) ∧ z_wo k b t nw sz hb ht sb st (z_gC nc (z_fC Ff Fb σ)) := by
  have hC0 := hC
  obtain ⟨i1, i2, i3, i5, i6, i7, i9, i12, i13⟩ := hC
  obtain ⟨code, res, rf, b', t', hc, hres, h33, hV', hsm, hrf, hrf3, hF, hB, -⟩ := hs
  obtain ⟨f1, f2⟩ := hF σ i1
  by_cases h : code = 0
  · have erf := hrf h
    subst erf
    have ef : Ff σ = (10, σ) := by rw [f2, h, h0]; rfl
    have er : F_X8_raise (10 : Int32) σ = none := by unfold F_X8_raise; rw [if_neg (by decide), if_neg (by decide), if_neg (by decide), if_neg (by decide)]
    obtain ⟨p1, p2, p3⟩ := z_push (r := 0) (by decide) i1 i5 i7
    have hRp : z_R (F_X2_push 0 σ) 0 b t := i1.off (fun a _ a2 => p3 a (by omega))
    obtain ⟨b1, b2, b3, b4⟩ := hB h _ hRp
    have eC : z_fC Ff Fb σ = (.inl (nI res), (Fb (F_X2_push 0 σ)).2) := by
      unfold z_fC
      simp only [ef, er]
      rw [b2]
    have hωσ : ∀ a, 20 ≤ a → (a < 60 ∨ 222 ≤ a ∨ a = 220) → (Fb (F_X2_push 0 σ)).2 a = σ a := fun a a1 a3 => by rw [b4 a a1, p3 a a3]
    refine ⟨f1, fun _ => by rw [ef]; exact ⟨p1, b1⟩, fun E q => by rw [eC] at q; simp at q, .inr ⟨res, b', t', hres, h33, by rw [eC]; rfl, ?_⟩⟩
    rw [eC]
    show z_C (k + 1) (Fb (F_X2_push 0 σ)).2 _ _ _ _ _ _ _ _
    refine ⟨b3, i2.mv (fun a a1 a2 => hωσ a (by omega) (by omega)), i3.mv (fun a a1 a2 => hωσ a (by omega) (by omega)), hV', (i6.sh i5).k (by omega), p2.mv (fun a a1 a2 a3 => b4 a (by omega)), i9.mv (by omega) (fun a a1 a2 => hωσ a (by omega) (by omega)) (by rw [hωσ 220 (by decide) (by decide)]), i12.mv (hωσ 226 (by decide) (by decide)) (hωσ 228 (by decide) (by decide)), by rw [hωσ 225 (by decide) (by decide)]; exact i13⟩
  · obtain ⟨E, r1, r2, r3⟩ := hcf code (by omega) hc
    have er : F_X8_raise (Ff σ).1 (Ff σ).2 = some E := by rw [f2]; exact r1 _
    have eC : z_fC Ff Fb σ = (.inr E, z_rC rf σ) := by
      unfold z_fC
      rw [er, f2]
    refine ⟨f1, fun q => by rw [er] at q; simp at q, fun E' q => ?_, .inl ⟨by rw [eC]; exact r3, ?_⟩⟩
    · rw [eC] at q
      injection q with q
      rw [← q]
      exact r2
    · rw [eC]
      show z_C (k + 1) (z_rC rf σ) _ _ _ _ _ _ _ _
      exact hC0.mv (by omega) (fun a _ a2 => z_rCo a2) (z_rCj (by decide) (by decide)) (by rw [z_rCo (by decide)]) (z_rCo (by decide)) (z_rCo (by decide))
