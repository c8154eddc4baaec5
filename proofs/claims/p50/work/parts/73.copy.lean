/-! Copies of a race; the class's history. -/
theorem z_rowL {f g : Nat} (hf : f < 220) (hg : g < 220) (hfg : f ≠ g) : ∀ (nn v : Nat) (τ : q_M), 5 ≤ nn + v → v ≤ 4 → PL_X8_copyRow_2 f g nn (nI v) τ ∧ (∀ j, v ≤ j → j < 4 → FL_X8_copyRow_2 f g nn (nI v) τ g j = τ f j) ∧ (∀ p j, p ≠ g ∨ j < v → FL_X8_copyRow_2 f g nn (nI v) τ p j = τ p j) := by
  have elg := z_len hg
  have elf := z_len hf
  intro nn
  induction nn with
  | zero => intro v τ h1 h2; omega
  | succ nn ih =>
    intro v τ h1 h2
    have e6 : (nI v < nI 4) = (v < 4) := by rw [z_lt (by omega) (by omega)]
    unfold PL_X8_copyRow_2 FL_X8_copyRow_2
    by_cases h6 : v < 4
    · have ec : (nI v).toNatClampNeg = v := nI_clamp (by omega)
      have ev : nI v + 1 = nI (v + 1) := by rw [z_l1, z_add]
      have ea : F_X8_at f (nI v) τ = τ f v := z_at elf h6
      obtain ⟨q1, q2, q3⟩ := ih (v + 1) (q_up τ g v (τ f v)) (by omega) (by omega)
      simp only [elg, e6, ec, ev, ea]
      rw [if_pos h6]
      refine ⟨⟨fun _ => ⟨z_atP elf h6, vp_in_nI h6 (by decide), q1⟩, fun q => absurd h6 q⟩, fun k k1 k2 => ?_, fun p j hp => ?_⟩
      · by_cases e : k = v
        · subst e
          rw [q3 g k (.inr (by omega)), q_up_eq]
        · rw [q2 k (by omega) k2, q_up_nk hfg]
      · rw [q3 p j (by omega)]
        rcases hp with hp | hp
        · rw [q_up_nk hp]
        · rw [q_up_nj (by omega)]
    · simp only [elg, e6]
      rw [if_neg h6]
      exact ⟨⟨fun q => absurd q h6, fun _ => trivial⟩, fun k k1 k2 => by omega, fun _ _ _ => rfl⟩
theorem z_row {f g : Nat} (hf : f < 220) (hg : g < 220) (hfg : f ≠ g) (τ : q_M) : P_X8_copyRow f g τ ∧ (∀ j, j < 4 → F_X8_copyRow f g τ g j = τ f j) ∧ (∀ p, p ≠ g → F_X8_copyRow f g τ p = τ p) := by
  obtain ⟨q1, q2, q3⟩ := z_rowL hf hg hfg 8 0 τ (by omega) (by omega)
  exact ⟨q1, fun k hk => q2 k (by omega) hk, fun p h => funext fun j => q3 p j (.inl h)⟩
theorem z_tcp {p q : Nat} (hp : p + 2 < 220) (hq : q + 2 < 220) (hd : p + 2 < q ∨ q + 2 < p) (τ : q_M) (h12 : τ q 12 = 0 ∨ τ q 12 = 1) (h13 : τ q 13 = 0 ∨ τ q 13 = 1) : P_X6_copyFrom p q τ ∧ (∀ j, 3 ≤ j → j < 14 → F_X6_copyFrom p q τ p j = τ q j) ∧ F_X6_copyFrom p q τ p 0 = τ p 0 ∧ (∀ j, j < 4 → F_X6_copyFrom p q τ (p + 1) j = τ (q + 1) j) ∧ (∀ j, j < 4 → F_X6_copyFrom p q τ (p + 2) j = τ (q + 2) j) ∧ ∀ a, a ≠ p → a ≠ p + 1 → a ≠ p + 2 → F_X6_copyFrom p q τ a = τ a := by
  obtain ⟨a1, a2, a3⟩ := z_row (f := q + 1) (g := p + 1) (by omega) (by omega) (by omega) τ
  obtain ⟨b1, b2, b3⟩ := z_row (f := q + 2) (g := p + 2) (by omega) (by omega) (by omega) (F_X8_copyRow (q + 1) (p + 1) τ)
  have eq : (F_X8_copyRow (q + 2) (p + 2) (F_X8_copyRow (q + 1) (p + 1) τ)) q = τ q := by rw [b3 q (by omega), a3 q (by omega)]
  have ep : (F_X8_copyRow (q + 2) (p + 2) (F_X8_copyRow (q + 1) (p + 1) τ)) p = τ p := by rw [b3 p (by omega), a3 p (by omega)]
  have e1 : ∀ j, j < 4 → (F_X8_copyRow (q + 2) (p + 2) (F_X8_copyRow (q + 1) (p + 1) τ)) (p + 1) j = τ (q + 1) j := fun j hj => by rw [b3 (p + 1) (by omega), a2 j hj]
  have e2 : ∀ j, j < 4 → (F_X8_copyRow (q + 2) (p + 2) (F_X8_copyRow (q + 1) (p + 1) τ)) (p + 2) j = τ (q + 2) j := fun j hj => by rw [b2 j hj, a3 (q + 2) (by omega)]
  have eo : ∀ a, a ≠ p + 1 → a ≠ p + 2 → (F_X8_copyRow (q + 2) (p + 2) (F_X8_copyRow (q + 1) (p + 1) τ)) a = τ a := fun a x1 x2 => by rw [b3 a x2, a3 a x1]
  unfold P_X6_copyFrom F_X6_copyFrom
  simp only [q_L, forall_eq']
  generalize F_X8_copyRow (q + 2) (p + 2) (F_X8_copyRow (q + 1) (p + 1) τ) = μ at b1 eq ep e1 e2 eo ⊢
  refine ⟨⟨a1, b1, by rw [eq]; exact h12, by rw [eq]; exact h13, trivial⟩, fun j j1 j2 => ?_, ?_, fun j hj => ?_, fun j hj => ?_, fun a x0 x1 x2 => ?_⟩
  · rcases (show j = 3 ∨ j = 4 ∨ j = 5 ∨ j = 6 ∨ j = 7 ∨ j = 8 ∨ j = 9 ∨ j = 10 ∨ j = 11 ∨ j = 12 ∨ j = 13 by omega) with rfl | rfl | rfl | rfl | rfl | rfl | rfl | rfl | rfl | rfl | rfl

    · rw [q_up_nj (by decide), q_up_nj (by decide), q_up_nj (by decide), q_up_nj (by decide), q_up_nj (by decide), q_up_nj (by decide), q_up_nj (by decide), q_up_nj (by decide), q_up_nj (by decide), q_up_nj (by decide), q_up_eq, eq]
    · rw [q_up_nj (by decide), q_up_nj (by decide), q_up_nj (by decide), q_up_nj (by decide), q_up_nj (by decide), q_up_nj (by decide), q_up_nj (by decide), q_up_nj (by decide), q_up_nj (by decide), q_up_eq, eq]
    · rw [q_up_nj (by decide), q_up_nj (by decide), q_up_nj (by decide), q_up_nj (by decide), q_up_nj (by decide), q_up_nj (by decide), q_up_nj (by decide), q_up_nj (by decide), q_up_eq, eq]
    · rw [q_up_nj (by decide), q_up_nj (by decide), q_up_nj (by decide), q_up_nj (by decide), q_up_nj (by decide), q_up_nj (by decide), q_up_nj (by decide), q_up_eq, eq]
    · rw [q_up_nj (by decide), q_up_nj (by decide), q_up_nj (by decide), q_up_nj (by decide), q_up_nj (by decide), q_up_nj (by decide), q_up_eq, eq]
    · rw [q_up_nj (by decide), q_up_nj (by decide), q_up_nj (by decide), q_up_nj (by decide), q_up_nj (by decide), q_up_eq, eq]
    · rw [q_up_nj (by decide), q_up_nj (by decide), q_up_nj (by decide), q_up_nj (by decide), q_up_eq, eq]
    · rw [q_up_nj (by decide), q_up_nj (by decide), q_up_nj (by decide), q_up_eq, eq]
    · rw [q_up_nj (by decide), q_up_nj (by decide), q_up_eq, eq]
    · rw [q_up_nj (by decide), q_up_eq, eq]
    · rw [q_up_eq, eq]
  · rw [q_up_nj (by decide), q_up_nj (by decide), q_up_nj (by decide), q_up_nj (by decide), q_up_nj (by decide), q_up_nj (by decide), q_up_nj (by decide), q_up_nj (by decide), q_up_nj (by decide), q_up_nj (by decide), q_up_nj (by decide), ep]
  · rw [q_up_nk (by omega), q_up_nk (by omega), q_up_nk (by omega), q_up_nk (by omega), q_up_nk (by omega), q_up_nk (by omega), q_up_nk (by omega), q_up_nk (by omega), q_up_nk (by omega), q_up_nk (by omega), q_up_nk (by omega)]
    exact e1 j hj
  · rw [q_up_nk (by omega), q_up_nk (by omega), q_up_nk (by omega), q_up_nk (by omega), q_up_nk (by omega), q_up_nk (by omega), q_up_nk (by omega), q_up_nk (by omega), q_up_nk (by omega), q_up_nk (by omega), q_up_nk (by omega)]
    exact e2 j hj
  · rw [q_up_off x0, q_up_off x0, q_up_off x0, q_up_off x0, q_up_off x0, q_up_off x0, q_up_off x0, q_up_off x0, q_up_off x0, q_up_off x0, q_up_off x0]
    exact eo a x1 x2
theorem z_T.cp {τ μ : q_M} {p q w : Nat} {x : Nat → Nat} (h : z_T τ q w x) (h0 : μ p 0 = nI w) (h1 : ∀ j, 3 ≤ j → j < 14 → μ p j = τ q j) (h2 : ∀ j, j < 4 → μ (p + 1) j = τ (q + 1) j) (h3 : ∀ j, j < 4 → μ (p + 2) j = τ (q + 2) j) : z_T μ p w x :=
  ⟨h0, by rw [h1 3 (by decide) (by decide)]; exact h.st, by rw [h1 4 (by decide) (by decide)]; exact h.ln, by rw [h1 5 (by decide) (by decide)]; exact h.ps, by rw [h1 6 (by decide) (by decide)]; exact h.lg, by rw [h1 7 (by decide) (by decide)]; exact h.sr, by rw [h1 8 (by decide) (by decide)]; exact h.sd, by rw [h1 9 (by decide) (by decide)]; exact h.pn, fun e => by rw [h1 10 (by decide) (by decide)]; exact h.lp e, by rw [h1 11 (by decide) (by decide)]; exact h.tm, by rw [h1 12 (by decide) (by decide)]; exact h.lf, by rw [h1 13 (by decide) (by decide)]; exact h.df, fun j hj => by rw [h2 j hj]; exact h.sp j hj, fun j hj => by rw [h3 j hj]; exact h.sl j hj⟩
theorem z_N.cp {τ μ : q_M} {p q w : Nat} (h : z_N τ q w) (h0 : μ p 0 = nI w) (h1 : ∀ j, 3 ≤ j → j < 14 → μ p j = τ q j) (h2 : ∀ j, j < 4 → μ (p + 1) j = τ (q + 1) j) (h3 : ∀ j, j < 4 → μ (p + 2) j = τ (q + 2) j) : z_N μ p w :=
  ⟨h0, by rw [h1 3 (by decide) (by decide)]; exact h.st, by rw [h1 4 (by decide) (by decide)]; exact h.ln, fun j j1 j2 => by rw [h1 j (by omega) j2]; exact h.z j j1 j2, fun j hj => by rw [h2 j hj]; exact h.sp j hj, fun j hj => by rw [h3 j hj]; exact h.sl j hj⟩
def z_no (σ : q_M) (r : Nat) : Prop := ∀ w, w < 6 → σ (r + 2 + 3 * w) 0 = nI w
theorem z_01or {x : Nat} (h : x ≤ 1) : nI x = 0 ∨ nI x = 1 := by
  rcases (show x = 0 ∨ x = 1 by omega) with e | e <;> rw [e]
  · exact .inl rfl
  · exact .inr rfl
theorem z_cfL {r u k : Nat} (hr : r + 20 ≤ 220) (hu : u + 20 ≤ 220) (hd : r + 20 ≤ u ∨ u + 20 ≤ r) {b : Nat → Nat} {t : Nat → Nat → Nat} (hV : z_V k b t) :
    ∀ (nn w : Nat) (τ : q_M), 7 ≤ nn + w → w ≤ 6 → z_R τ u b t → z_no τ r → (∀ i, i < w → (i < b 3 → z_T τ (r + 2 + 3 * i) i (t i)) ∧ (b 3 ≤ i → z_N τ (r + 2 + 3 * i) i)) → PL_X4_copyFrom_2 r u nn (nI w) τ ∧ z_R (FL_X4_copyFrom_2 r u nn (nI w) τ) r b t ∧ z_no (FL_X4_copyFrom_2 r u nn (nI w) τ) r ∧ (∀ a, a < r ∨ r + 20 ≤ a → (FL_X4_copyFrom_2 r u nn (nI w) τ) a = τ a) := by
  intro nn
  induction nn with
  | zero => intro w τ h1 h2; omega
  | succ nn ih =>
    intro w τ h1 h2 hR hno hc
    have e6 : (nI w < 6) = (w < 6) := by rw [z_l6, z_lt (by omega) (by omega)]
    have ew : nI w + 1 = nI (w + 1) := by rw [z_l1, z_add]
    unfold PL_X4_copyFrom_2 FL_X4_copyFrom_2
    by_cases h6 : w < 6
    · have hcl : (nI w).toNatClampNeg = w := nI_clamp (by omega)
      have hf : (τ (u + 2 + 3 * w) 12 = 0 ∨ τ (u + 2 + 3 * w) 12 = 1) ∧ (τ (u + 2 + 3 * w) 13 = 0 ∨ τ (u + 2 + 3 * w) 13 = 1) := by
        by_cases q : w < b 3
        · rw [(hR.te w h6 q).lf, (hR.te w h6 q).df]
          exact ⟨z_01or (hV.te w q).lf, z_01or (hV.te w q).df⟩
        · have hA := hR.ab w h6 (by omega)
          exact ⟨.inl (hA.z 12 (by decide) (by decide)), .inl (hA.z 13 (by decide) (by decide))⟩
      obtain ⟨p1, p2, p3, p4, p5, p6⟩ := z_tcp (p := r + 2 + 3 * w) (q := u + 2 + 3 * w) (by omega) (by omega) (by omega) τ hf.1 hf.2
      have hR2 : z_R (F_X6_copyFrom (r + 2 + 3 * w) (u + 2 + 3 * w) τ) u b t := hR.off (fun a a1 a2 => p6 a (by omega) (by omega) (by omega))
      have hno2 : z_no (F_X6_copyFrom (r + 2 + 3 * w) (u + 2 + 3 * w) τ) r := fun i hi => by
        by_cases e : i = w
        · subst e; rw [p3]; exact hno i hi
        · rw [p6 _ (by omega) (by omega) (by omega)]; exact hno i hi
      have hc2 : ∀ i, i < w + 1 → (i < b 3 → z_T (F_X6_copyFrom (r + 2 + 3 * w) (u + 2 + 3 * w) τ) (r + 2 + 3 * i) i (t i)) ∧ (b 3 ≤ i → z_N (F_X6_copyFrom (r + 2 + 3 * w) (u + 2 + 3 * w) τ) (r + 2 + 3 * i) i) := by
        intro i hi
        by_cases e : i = w
        · subst e
          exact ⟨fun q => (hR.te i h6 q).cp (by rw [p3]; exact hno i h6) p2 p4 p5, fun q => (hR.ab i h6 q).cp (by rw [p3]; exact hno i h6) p2 p4 p5⟩
        · obtain ⟨c1, c2⟩ := hc i (by omega)
          exact ⟨fun q => (c1 q).off (p6 _ (by omega) (by omega) (by omega)) (p6 _ (by omega) (by omega) (by omega)) (p6 _ (by omega) (by omega) (by omega)), fun q => (c2 q).off (p6 _ (by omega) (by omega) (by omega)) (p6 _ (by omega) (by omega) (by omega)) (p6 _ (by omega) (by omega) (by omega))⟩
      obtain ⟨q1, q2, q3, q4⟩ := ih (w + 1) _ (by omega) (by omega) hR2 hno2 hc2
      simp only [e6, hcl, z_place, ew, q_L, forall_eq']
      rw [if_pos h6]
      exact ⟨⟨fun _ => ⟨z_in h6 (by decide), z_in h6 (by decide), p1, q1⟩, fun q => absurd h6 q⟩, q2, q3, fun a ha => (q4 a ha).trans (p6 a (by omega) (by omega) (by omega))⟩
    · simp only [e6]
      rw [if_neg h6]
      have e : w = 6 := by omega
      subst e
      have hoff : ∀ a, a ≠ r → (q_up (q_up (q_up τ r 1 (τ u 1)) r 2 (τ u 2)) r 3 (τ u 3)) a = τ a := fun a ha => by rw [q_up_off ha, q_up_off ha, q_up_off ha]
      refine ⟨⟨fun q => absurd q h6, fun _ => ⟨by rw [hR.bg]; exact z_01or hV.bg, trivial⟩⟩, ⟨?_, ?_, ?_, fun i hi hb => ?_, fun i hi hb => ?_⟩, fun i hi => ?_, fun a ha => hoff a (by omega)⟩
      · rw [q_up_nj (by decide), q_up_nj (by decide), q_up_eq]; exact hR.bg
      · rw [q_up_nj (by decide), q_up_eq]; exact hR.ck
      · rw [q_up_eq]; exact hR.ll
      · exact ((hc i hi).1 hb).off (hoff _ (by omega)) (hoff _ (by omega)) (hoff _ (by omega))
      · exact ((hc i hi).2 hb).off (hoff _ (by omega)) (hoff _ (by omega)) (hoff _ (by omega))
      · rw [hoff _ (by omega)]; exact hno i hi
theorem z_cf {r u k : Nat} (hr : r + 20 ≤ 220) (hu : u + 20 ≤ 220) (hd : r + 20 ≤ u ∨ u + 20 ≤ r) {b : Nat → Nat} {t : Nat → Nat → Nat} (hV : z_V k b t) {τ : q_M} (hR : z_R τ u b t) (hno : z_no τ r) : P_X4_copyFrom r u τ ∧ z_R (F_X4_copyFrom r u τ) r b t ∧ z_no (F_X4_copyFrom r u τ) r ∧ (∀ a, a < r ∨ r + 20 ≤ a → (F_X4_copyFrom r u τ) a = τ a) :=
  z_cfL hr hu hd hV 8 0 τ (by omega) (by omega) hR hno (fun i hi => by omega)
def z_sl (nw sz i : Nat) : Nat := 60 + 20 * ((nw + 8 - (sz - 1 - i)) % 8)
def z_sh {α : Type} (sz : Nat) (h : Nat → α) (x : α) : Nat → α := fun i => if sz = 8 then (if i = 7 then x else h (i + 1)) else (if i = sz then x else h i)
def z_HC (σ : q_M) (nw sz : Nat) (hb : Nat → Nat → Nat) (ht : Nat → Nat → Nat → Nat) : Prop := σ 221 1 = nI nw ∧ σ 221 2 = nI sz ∧ nw < 8 ∧ sz ≤ 8 ∧ (∀ i, i < sz → z_R σ (z_sl nw sz i) (hb i) (ht i)) ∧ ∀ i, i < 8 → z_no σ (60 + 20 * i)
def z_HV (k sz : Nat) (hb : Nat → Nat → Nat) (ht : Nat → Nat → Nat → Nat) : Prop := ∀ i, i < sz → z_V k (hb i) (ht i)
def z_s1 (sz : Nat) : Nat := if sz = 8 then 8 else sz + 1
theorem z_HV.sh {k sz : Nat} {hb : Nat → Nat → Nat} {ht : Nat → Nat → Nat → Nat} {b : Nat → Nat} {t : Nat → Nat → Nat} (h : z_HV k sz hb ht) (hV : z_V k b t) : z_HV k (z_s1 sz) (z_sh sz hb b) (z_sh sz ht t) := by
  intro i hi
  unfold z_s1 at hi
  unfold z_sh
  by_cases e : sz = 8
  · rw [if_pos e] at hi
    simp only [if_pos e]
    by_cases c : i = 7
    · simp only [if_pos c]; exact hV
    · simp only [if_neg c]; exact h (i + 1) (by omega)
  · rw [if_neg e] at hi
    simp only [if_neg e]
    by_cases c : i = sz
    · simp only [if_pos c]; exact hV
    · simp only [if_neg c]; exact h i (by omega)
theorem z_push {r k nw sz : Nat} (hr : r + 20 ≤ 60) {σ : q_M} {b : Nat → Nat} {t : Nat → Nat → Nat} {hb : Nat → Nat → Nat} {ht : Nat → Nat → Nat → Nat} (hR : z_R σ r b t) (hV : z_V k b t) (hH : z_HC σ nw sz hb ht) : P_X2_push r σ ∧ z_HC (F_X2_push r σ) ((nw + 1) % 8) (z_s1 sz) (z_sh sz hb b) (z_sh sz ht t) ∧ ∀ a, a < 60 ∨ 222 ≤ a ∨ a = 220 → F_X2_push r σ a = σ a := by
  obtain ⟨h1, h2, h3, h4, h5, h6⟩ := hH
  have e1 : σ 221 1 + 1 = nI (nw + 1) := by rw [h1, z_l1, z_add]
  have key : ∀ n, n = (nw + 1) % 8 → ∀ σ1 : q_M, (∀ a, a ≠ 221 → σ1 a = σ a) → σ1 221 1 = nI n → σ1 221 2 = nI sz → P_X4_copyFrom (60 + 20 * n) r σ1 ∧ z_HC (q_up (F_X4_copyFrom (60 + 20 * n) r σ1) 221 2 (q_min ((F_X4_copyFrom (60 + 20 * n) r σ1) 221 2 + 1) 8)) ((nw + 1) % 8) (z_s1 sz) (z_sh sz hb b) (z_sh sz ht t) ∧ ∀ a, a < 60 ∨ 222 ≤ a ∨ a = 220 → (q_up (F_X4_copyFrom (60 + 20 * n) r σ1) 221 2 (q_min ((F_X4_copyFrom (60 + 20 * n) r σ1) 221 2 + 1) 8)) a = σ a := by
    intro n hn σ1 ho hn1 hs1
    have hn8 : n < 8 := by omega
    have hR1 : z_R σ1 r b t := hR.off (fun a a1 a2 => ho a (by omega))
    have hno1 : ∀ i, i < 8 → z_no σ1 (60 + 20 * i) := fun i hi w hw => by rw [ho _ (by omega)]; exact h6 i hi w hw
    obtain ⟨p1, p2, p3, p4⟩ := z_cf (r := 60 + 20 * n) (u := r) (by omega) (by omega) (by omega) hV hR1 (hno1 n hn8)
    have es : q_min ((F_X4_copyFrom (60 + 20 * n) r σ1) 221 2 + 1) 8 = nI (z_s1 sz) := by
      rw [p4 221 (by omega), hs1, z_l1, z_add]
      unfold q_min z_s1
      rw [z_l8]
      simp (disch := omega) only [z_lt]
      by_cases c : sz = 8
      · rw [if_pos (by omega), if_pos c]
      · rw [if_neg (by omega), if_neg c]
    rw [es]
    generalize F_X4_copyFrom (60 + 20 * n) r σ1 = μ at p2 p3 p4
    refine ⟨p1, ⟨?_, q_up_eq _ _ _ _, by omega, by unfold z_s1; split <;> omega, fun i hi => ?_, fun i hi => ?_⟩, fun a ha => ?_⟩
    · rw [q_up_nj (by decide), p4 221 (by omega), hn1, hn]
    · have goal : z_R μ (z_sl ((nw + 1) % 8) (z_s1 sz) i) (z_sh sz hb b i) (z_sh sz ht t i) := by
        unfold z_s1 at hi ⊢
        unfold z_sh
        by_cases c : sz = 8
        · simp only [if_pos c] at hi ⊢
          by_cases d : i = 7
          · simp only [if_pos d]
            have e : z_sl ((nw + 1) % 8) 8 i = 60 + 20 * n := by unfold z_sl; subst d; omega
            rw [e]
            exact p2
          · simp only [if_neg d]
            have e : z_sl ((nw + 1) % 8) 8 i = z_sl nw sz (i + 1) := by unfold z_sl; subst c; omega
            rw [e]
            have hh := h5 (i + 1) (by omega)
            refine hh.off (fun a a1 a2 => ?_)
            have e2 : z_sl nw sz (i + 1) + 20 ≤ 60 + 20 * n ∨ 60 + 20 * n + 20 ≤ z_sl nw sz (i + 1) := by unfold z_sl; subst c; omega
            have e3 : z_sl nw sz (i + 1) + 20 ≤ 220 := by unfold z_sl; omega
            rw [p4 a (by omega), ho a (by omega)]
        · simp only [if_neg c] at hi ⊢
          by_cases d : i = sz
          · simp only [if_pos d]
            have e : z_sl ((nw + 1) % 8) (sz + 1) i = 60 + 20 * n := by unfold z_sl; subst d; omega
            rw [e]
            exact p2
          · simp only [if_neg d]
            have e : z_sl ((nw + 1) % 8) (sz + 1) i = z_sl nw sz i := by unfold z_sl; omega
            rw [e]
            have hh := h5 i (by omega)
            refine hh.off (fun a a1 a2 => ?_)
            have e2 : z_sl nw sz i + 20 ≤ 60 + 20 * n ∨ 60 + 20 * n + 20 ≤ z_sl nw sz i := by unfold z_sl; omega
            have e3 : z_sl nw sz i + 20 ≤ 220 := by unfold z_sl; omega
            rw [p4 a (by omega), ho a (by omega)]
      refine goal.off (fun a a1 a2 => q_up_off ?_)
      have e3 : z_sl ((nw + 1) % 8) (z_s1 sz) i + 20 ≤ 220 := by unfold z_sl; omega
      omega
    · intro w hw
      rw [q_up_off (by omega)]
      by_cases c : i = n
      · subst c; exact p3 w hw
      · rw [p4 _ (by omega)]; exact hno1 i hi w hw
    · rw [q_up_off (by omega), p4 a (by omega), ho a (by omega)]
  have e0 : ¬ σ 221 1 + 1 < 0 := by rw [e1]; exact nI_pos (by omega)
  have es1 : (q_up σ 221 1 (σ 221 1 + 1)) 221 1 = nI (nw + 1) := by rw [q_up_eq, e1]
  unfold P_X2_push F_X2_push
  simp only [q_L, forall_eq']
  rw [if_neg e0]
  by_cases c : nw + 1 < 8
  · have c1 : (q_up σ 221 1 (σ 221 1 + 1)) 221 1 < 8 := by rw [es1, z_l8, z_lt (by omega) (by omega)]; exact c
    rw [if_pos c1]
    obtain ⟨k1, k2, k3⟩ := key (nw + 1) (by omega) (q_up σ 221 1 (σ 221 1 + 1)) (fun a ha => q_up_off ha) es1 (by rw [q_up_nj (by decide)]; exact h2)
    have ec : ((q_up σ 221 1 (σ 221 1 + 1)) 221 1).toNatClampNeg = nw + 1 := by rw [es1, nI_clamp (by omega)]
    rw [ec]
    exact ⟨⟨fun q => absurd q e0, fun _ => ⟨fun _ => ⟨by rw [es1]; exact vp_in_nI c (by decide), k1, trivial⟩, fun q => absurd c1 q⟩⟩, k2, k3⟩
  · have c1 : ¬ (q_up σ 221 1 (σ 221 1 + 1)) 221 1 < 8 := by rw [es1, z_l8, z_lt (by omega) (by omega)]; exact c
    rw [if_neg c1]
    obtain ⟨k1, k2, k3⟩ := key 0 (by omega) (q_up (q_up σ 221 1 (σ 221 1 + 1)) 221 1 0) (fun a ha => by rw [q_up_off ha, q_up_off ha]) (q_up_eq _ _ _ _) (by rw [q_up_nj (by decide), q_up_nj (by decide)]; exact h2)
    have ec : (0 : Int32).toNatClampNeg = 0 := by decide
    rw [ec]
    exact ⟨⟨fun q => absurd q e0, fun _ => ⟨fun q => absurd q c1, fun _ => ⟨vp_in_nI (n := 0) (by decide) (by decide), k1, trivial⟩⟩⟩, k2, k3⟩
theorem z_pop {k nw sz : Nat} {σ : q_M} {hb : Nat → Nat → Nat} {ht : Nat → Nat → Nat → Nat} (hno : z_no σ 0) (hHV : z_HV k sz hb ht) (hH : z_HC σ nw sz hb ht) (h0 : 0 < sz) : P_X2_popInto 0 σ ∧ z_R (F_X2_popInto 0 σ) 0 (hb (sz - 1)) (ht (sz - 1)) ∧ z_no (F_X2_popInto 0 σ) 0 ∧ z_HC (F_X2_popInto 0 σ) ((nw + 7) % 8) (sz - 1) hb ht ∧ ∀ a, 20 ≤ a → a ≠ 221 → F_X2_popInto 0 σ a = σ a := by
  obtain ⟨h1, h2, h3, h4, h5, h6⟩ := hH
  have c0 : (0 : Int32) < σ 221 2 := by rw [h2, z_l0, z_lt (by decide) (by omega)]; exact h0
  have c1 : ¬ σ 221 1 < 0 := by rw [h1]; exact nI_pos (by omega)
  have c2 : σ 221 1 < 8 := by rw [h1, z_l8, z_lt (by omega) (by decide)]; exact h3
  have ec : (σ 221 1).toNatClampNeg = nw := by rw [h1, nI_clamp (by omega)]
  have esl : z_sl nw sz (sz - 1) = 60 + 20 * nw := by unfold z_sl; omega
  have hR := h5 (sz - 1) (by omega)
  rw [esl] at hR
  obtain ⟨p1, p2, p3, p4⟩ := z_cf (r := 0) (u := 60 + 20 * nw) (by omega) (by omega) (by omega) (hHV (sz - 1) (by omega)) hR hno
  unfold P_X2_popInto F_X2_popInto
  simp only [q_L]
  rw [if_pos c0, if_neg c1, if_pos c2, ec]
  generalize F_X4_copyFrom 0 (60 + 20 * nw) σ = μ at p2 p3 p4
  have e4 : μ 221 1 = nI nw := by rw [p4 221 (by omega)]; exact h1
  have e5 : μ 221 2 = nI sz := by rw [p4 221 (by omega)]; exact h2
  have en : (if 0 < μ 221 1 then μ 221 1 - 1 else 8 - 1) = nI ((nw + 7) % 8) := by
    rw [e4, z_l0]
    simp (disch := omega) only [z_lt]
    by_cases c : 0 < nw
    · rw [if_pos c, z_l1, z_sub (by omega)]
      congr 1
      omega
    · rw [if_neg c, show nw = 0 by omega]
      rfl
  rw [en]
  have e6 : (q_up μ 221 1 (nI ((nw + 7) % 8))) 221 2 - 1 = nI (sz - 1) := by
    rw [q_up_nj (by decide), e5, z_l1, z_sub (by omega)]
  rw [e6]
  have hof : ∀ a, a ≠ 221 → (q_up (q_up μ 221 1 (nI ((nw + 7) % 8))) 221 2 (nI (sz - 1))) a = μ a := fun a ha => by rw [q_up_off ha, q_up_off ha]
  refine ⟨⟨fun _ => ⟨fun q => absurd q c1, fun _ => ⟨fun _ => ⟨by rw [h1]; exact vp_in_nI h3 (by decide), p1, trivial⟩, fun q => absurd c2 q⟩⟩, fun q => absurd c0 q⟩, p2.off (fun a _ a2 => hof a (by omega)), fun w hw => ?_, ⟨?_, q_up_eq _ _ _ _, by omega, by omega, fun i hi => ?_, fun i hi w hw => ?_⟩, fun a a1 a2 => ?_⟩
  · rw [hof _ (by omega)]; exact p3 w hw
  · rw [q_up_nj (by decide), q_up_eq]
  · have e : z_sl ((nw + 7) % 8) (sz - 1) i = z_sl nw sz i := by unfold z_sl; omega
    rw [e]
    have e3 : z_sl nw sz i + 20 ≤ 220 ∧ 60 ≤ z_sl nw sz i := by unfold z_sl; omega
    exact (h5 i (by omega)).off (fun a a1 a2 => by rw [hof a (by omega), p4 a (by omega)])
  · rw [hof _ (by omega), p4 _ (by omega)]; exact h6 i hi w hw
  · rw [hof a a2, p4 a (by omega)]
