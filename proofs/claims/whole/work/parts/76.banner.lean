/-! The banner; typing. -/
def z_tx (σ : q_M) (p j q : Nat) (s : Nat × (Nat → Nat)) : Prop := σ p j = nI s.1 ∧ ∀ i, i < s.1 → σ q i = nI (s.2 i)
def z_ch (c : Nat) (s : Nat × (Nat → Nat)) : Nat × (Nat → Nat) := (s.1 + 1, z_up s.2 s.1 c)
def z_nu (v : Nat) (s : Nat × (Nat → Nat)) : Nat × (Nat → Nat) := (s.1 + sb_dg v, fun i => if s.1 ≤ i then sb_dec v (i - s.1) else s.2 i)
def z_asc (s : Nat × (Nat → Nat)) : Prop := ∀ i, i < s.1 → s.2 i < 128
theorem z_asc.ch {s : Nat × (Nat → Nat)} (h : z_asc s) {c : Nat} (hc : c < 128) : z_asc (z_ch c s) := by
  intro i hi
  have hi : i < s.1 + 1 := hi
  show z_up s.2 s.1 c i < 128
  by_cases e : i = s.1
  · subst e; rw [z_up_s]; exact hc
  · rw [z_up_n e]; exact h i (by omega)
theorem z_asc.nu {s : Nat × (Nat → Nat)} (h : z_asc s) (v : Nat) : z_asc (z_nu v s) := by
  intro i hi
  show (if s.1 ≤ i then sb_dec v (i - s.1) else s.2 i) < 128
  by_cases e : s.1 ≤ i
  · rw [if_pos e]
    unfold sb_dec
    have := Nat.mod_lt (v / 10 ^ (sb_dg v - 1 - (i - s.1))) (show 10 > 0 by decide)
    omega
  · rw [if_neg e]
    exact h i (by omega)
theorem z_tx.off {σ μ : q_M} {p j q : Nat} {s : Nat × (Nat → Nat)} (h : z_tx σ p j q s) (e1 : μ p j = σ p j) (e2 : μ q = σ q) : z_tx μ p j q s := ⟨by rw [e1]; exact h.1, fun i hi => by rw [e2]; exact h.2 i hi⟩
/-! in the builder -/
theorem z_apC {σ : q_M} {s : Nat × (Nat → Nat)} (h : z_tx σ 226 3 228 s) (hs : s.1 < 100) (c : Nat) : q_cut σ 226 ∧ z_tx (q_apC 226 (nI c) σ) 226 3 228 (z_ch c s) ∧ ∀ a, a ≠ 226 → a ≠ 228 → q_apC 226 (nI c) σ a = σ a := by
  refine ⟨⟨s.1, hs, h.1⟩, ⟨?_, fun i hi => ?_⟩, fun a a1 a2 => ?_⟩
  · unfold q_apC
    rw [q_up_nk (by decide), q_up_eq, h.1, z_l1, z_add]
    rfl
  · have hi : i < s.1 + 1 := hi
    unfold q_apC
    rw [h.1, nI_clamp (by omega)]
    show _ = nI (z_up s.2 s.1 c i)
    by_cases e : i = s.1
    · subst e
      rw [z_up_s]
      exact q_up_eq _ _ _ _
    · rw [z_up_n e, q_up_nj e, q_up_nk (by decide)]
      exact h.2 i (by omega)
  · unfold q_apC
    rw [q_up_off a2, q_up_off a1]
theorem z_apI {σ : q_M} {s : Nat × (Nat → Nat)} (h : z_tx σ 226 3 228 s) (hs : s.1 < 100) {v : Nat} (hv : v < 2 ^ 31) : q_cut σ 226 ∧ ¬ nI v < 0 ∧ z_tx (q_apI 226 (nI v) σ) 226 3 228 (z_nu v s) ∧ ∀ a, a ≠ 226 → a ≠ 228 → q_apI 226 (nI v) σ a = σ a := by
  have ev : (nI v).toNatClampNeg = v := nI_clamp hv
  have es : (σ 226 3).toNatClampNeg = s.1 := by rw [h.1, nI_clamp (by omega)]
  refine ⟨⟨s.1, hs, h.1⟩, nI_pos hv, ⟨?_, fun i hi => ?_⟩, fun a a1 a2 => ?_⟩
  · unfold q_apI
    rw [q_up_eq, es, ev]
    rfl
  · have hi : i < s.1 + sb_dg v := hi
    unfold q_apI
    rw [q_up_nk (by decide), es, ev]
    show _ = nI (if s.1 ≤ i then sb_dec v (i - s.1) else s.2 i)
    by_cases e : s.1 ≤ i
    · rw [if_pos e]
      have := q_dgs_at (σ := σ) (k := 226 + 2) (n := s.1) (f := sb_dec v) (sb_dg v) (i - s.1) (by omega)
      rw [show s.1 + (i - s.1) = i by omega] at this
      exact this
    · rw [if_neg e, q_dgs_lo (by omega)]
      exact h.2 i (by omega)
  · unfold q_apI
    rw [q_up_off a1, q_dgs_off a2]
/-! in the model -/
def z_bf (τ τ' : q_M) : Prop := (∀ a, a ≠ 229 → a ≠ 234 → τ' a = τ a) ∧ ∀ j, j ≠ 13 → τ' 229 j = τ 229 j
theorem z_bf.rf (τ : q_M) : z_bf τ τ := ⟨fun _ _ _ => rfl, fun _ _ => rfl⟩
theorem z_bf.tr {τ τ' τ'' : q_M} (h : z_bf τ τ') (h' : z_bf τ' τ'') : z_bf τ τ'' := ⟨fun a e1 e2 => (h'.1 a e1 e2).trans (h.1 a e1 e2), fun j e => (h'.2 j e).trans (h.2 j e)⟩
theorem z_puts {σ : q_M} {s : Nat × (Nat → Nat)} (h : z_tx σ 229 13 234 s) (hs : s.1 < 40) (c : Nat) : P_X9_puts (nI c) σ ∧ z_tx (F_X9_puts (nI c) σ) 229 13 234 (z_ch c s) ∧ z_bf σ (F_X9_puts (nI c) σ) := by
  have es : (σ 229 13).toNatClampNeg = s.1 := by rw [h.1, nI_clamp (by omega)]
  have e1 : (q_up σ 234 s.1 (nI c)) 229 13 + 1 = nI (s.1 + 1) := by rw [q_up_nk (by decide), h.1, z_l1, z_add]
  have eF : F_X9_puts (nI c) σ = q_up (q_up σ 234 s.1 (nI c)) 229 13 (nI (s.1 + 1)) := by
    unfold F_X9_puts q_L
    dsimp only
    rw [es, e1]
  rw [eF]
  refine ⟨⟨by rw [h.1]; exact vp_in_nI hs (by decide), trivial⟩, ⟨q_up_eq _ _ _ _, fun i hi => ?_⟩, fun a a1 a2 => by rw [q_up_off a1, q_up_off a2], fun j hj => by rw [q_up_nj hj, q_up_nk (by decide)]⟩
  have hi : i < s.1 + 1 := hi
  rw [q_up_nk (by decide)]
  show _ = nI (z_up s.2 s.1 c i)
  by_cases e : i = s.1
  · subst e
    rw [z_up_s]
    exact q_up_eq _ _ _ _
  · rw [z_up_n e, q_up_nj e]
    exact h.2 i (by omega)
theorem z_dg1 {v : Nat} (h : v < 10) : sb_dg v = 1 := by
  unfold sb_dg
  rw [if_pos h]
theorem z_dgS {v : Nat} (h : 10 ≤ v) (hv : v < 2 ^ 31) : sb_dg v = sb_dg (v / 10) + 1 := by
  unfold sb_dg
  (repeat' split) <;> omega
theorem z_tx.cg {σ : q_M} {p j q : Nat} {s s' : Nat × (Nat → Nat)} (h : z_tx σ p j q s) (e1 : s.1 = s'.1) (e2 : ∀ i, i < s.1 → s.2 i = s'.2 i) : z_tx σ p j q s' := ⟨by rw [← e1]; exact h.1, fun i hi => by rw [← e2 i (by omega)]; exact h.2 i (by omega)⟩
theorem z_nu1 {σ : q_M} {p j q v : Nat} {s : Nat × (Nat → Nat)} (hv : v < 10) (h : z_tx σ p j q (z_ch (48 + v) s)) : z_tx σ p j q (z_nu v s) := by
  refine h.cg ?_ (fun i hi => ?_)
  · show s.1 + 1 = s.1 + sb_dg v
    rw [z_dg1 hv]
  · have hi : i < s.1 + 1 := hi
    show z_up s.2 s.1 (48 + v) i = if s.1 ≤ i then sb_dec v (i - s.1) else s.2 i
    by_cases e : i = s.1
    · subst e
      rw [z_up_s, if_pos (Nat.le_refl _), Nat.sub_self]
      unfold sb_dec
      rw [z_dg1 hv]
      show 48 + v = 48 + v / 10 ^ 0 % 10
      rw [Nat.pow_zero, Nat.div_one, Nat.mod_eq_of_lt hv]
    · rw [z_up_n e, if_neg (by omega)]
theorem z_nuS {σ : q_M} {p j q v : Nat} {s : Nat × (Nat → Nat)} (h10 : 10 ≤ v) (hv : v < 2 ^ 31) (h : z_tx σ p j q (z_ch (48 + v % 10) (z_nu (v / 10) s))) : z_tx σ p j q (z_nu v s) := by
  have hd := z_dgS h10 hv
  have h1 := (sb_dg_in (v / 10)).1
  refine h.cg ?_ (fun i hi => ?_)
  · show s.1 + sb_dg (v / 10) + 1 = s.1 + sb_dg v
    rw [hd, Nat.add_assoc]
  · have hi : i < s.1 + sb_dg (v / 10) + 1 := hi
    show z_up (fun i => if s.1 ≤ i then sb_dec (v / 10) (i - s.1) else s.2 i) (s.1 + sb_dg (v / 10)) (48 + v % 10) i = if s.1 ≤ i then sb_dec v (i - s.1) else s.2 i
    by_cases e : i = s.1 + sb_dg (v / 10)
    · subst e
      rw [z_up_s, if_pos (by omega)]
      unfold sb_dec
      rw [hd, show sb_dg (v / 10) + 1 - 1 - (s.1 + sb_dg (v / 10) - s.1) = 0 by omega, Nat.pow_zero, Nat.div_one]
    · rw [z_up_n e]
      by_cases c : s.1 ≤ i
      · rw [if_pos c, if_pos c]
        unfold sb_dec
        rw [hd, show sb_dg (v / 10) + 1 - 1 - (i - s.1) = (sb_dg (v / 10) - 1 - (i - s.1)) + 1 by omega, Nat.pow_succ, Nat.mul_comm, ← Nat.div_div_eq_div_mul]
      · rw [if_neg c, if_neg c]
theorem z_md10 {v : Nat} (hv : v < 2 ^ 31) : (48 : Int32) + (nI v - nI v / 10 * 10) = nI (48 + v % 10) := by
  rw [z_l10, z_mod hv (by decide) (by decide)]
  show nI 48 + nI (v % 10) = _
  rw [z_add]
theorem z_dv10 {v : Nat} (hv : v < 2 ^ 31) : nI v / 10 = nI (v / 10) := by
  rw [z_l10, z_div hv (by decide) (by decide)]
theorem z_mdx {v : Nat} (hv : v < 2 ^ 31) : (48 : Int32) + (nI v - nI (v / 10) * 10) = nI (48 + v % 10) := by
  rw [← z_dv10 hv, z_md10 hv]

theorem z_n0 {σ : q_M} {s : Nat × (Nat → Nat)} {v : Nat} (h : z_tx σ 229 13 234 s) (hv : v < 10) (hs : s.1 + sb_dg v ≤ 40) : P_X9_number0 (nI v) σ ∧ z_tx (F_X9_number0 (nI v) σ) 229 13 234 (z_nu v s) ∧ z_bf σ (F_X9_number0 (nI v) σ) := by
  have hdg := (sb_dg_in v).1
  unfold P_X9_number0 F_X9_number0
  simp only [q_L, forall_eq', z_mdx (show v < 2 ^ 31 by omega), z_dv10 (show v < 2 ^ 31 by omega)]
  by_cases c : v < 10
  · have c1 : nI v < 10 := nI_lt (b := 10) c (by decide)
    rw [if_pos c1]
    obtain ⟨p1, p2, p3⟩ := z_puts h (by omega) (48 + v % 10)
    have p4 := p2
    rw [Nat.mod_eq_of_lt c] at p4
    exact ⟨⟨fun _ => ⟨p1, trivial⟩, fun q => absurd c1 q⟩, by rw [Nat.mod_eq_of_lt c]; exact z_nu1 c p4, p3⟩
  · omega
theorem z_n1 {σ : q_M} {s : Nat × (Nat → Nat)} {v : Nat} (h : z_tx σ 229 13 234 s) (hv : v < 100) (hs : s.1 + sb_dg v ≤ 40) : P_X9_number1 (nI v) σ ∧ z_tx (F_X9_number1 (nI v) σ) 229 13 234 (z_nu v s) ∧ z_bf σ (F_X9_number1 (nI v) σ) := by
  have hdg := (sb_dg_in v).1
  unfold P_X9_number1 F_X9_number1
  simp only [q_L, forall_eq', z_mdx (show v < 2 ^ 31 by omega), z_dv10 (show v < 2 ^ 31 by omega)]
  by_cases c : v < 10
  · have c1 : nI v < 10 := nI_lt (b := 10) c (by decide)
    rw [if_pos c1]
    obtain ⟨p1, p2, p3⟩ := z_puts h (by omega) (48 + v % 10)
    have p4 := p2
    rw [Nat.mod_eq_of_lt c] at p4
    exact ⟨⟨fun _ => ⟨p1, trivial⟩, fun q => absurd c1 q⟩, by rw [Nat.mod_eq_of_lt c]; exact z_nu1 c p4, p3⟩
  · have c1 : ¬ nI v < 10 := fun q => c ((nI_ltI (b := 10) (by omega) (by decide)).mp q)
    have hd := z_dgS (show 10 ≤ v by omega) (show v < 2 ^ 31 by omega)
    rw [if_neg c1]
    obtain ⟨a1, a2, a3⟩ := z_n0 (v := v / 10) h (by omega) (by omega)
    obtain ⟨p1, p2, p3⟩ := z_puts a2 (show s.1 + sb_dg (v / 10) < 40 by omega) (48 + v % 10)
    exact ⟨⟨fun q => absurd q c1, fun _ => ⟨a1, p1, trivial⟩⟩, z_nuS (by omega) (by omega) p2, a3.tr p3⟩
theorem z_n2 {σ : q_M} {s : Nat × (Nat → Nat)} {v : Nat} (h : z_tx σ 229 13 234 s) (hv : v < 1000) (hs : s.1 + sb_dg v ≤ 40) : P_X9_number2 (nI v) σ ∧ z_tx (F_X9_number2 (nI v) σ) 229 13 234 (z_nu v s) ∧ z_bf σ (F_X9_number2 (nI v) σ) := by
  have hdg := (sb_dg_in v).1
  unfold P_X9_number2 F_X9_number2
  simp only [q_L, forall_eq', z_mdx (show v < 2 ^ 31 by omega), z_dv10 (show v < 2 ^ 31 by omega)]
  by_cases c : v < 10
  · have c1 : nI v < 10 := nI_lt (b := 10) c (by decide)
    rw [if_pos c1]
    obtain ⟨p1, p2, p3⟩ := z_puts h (by omega) (48 + v % 10)
    have p4 := p2
    rw [Nat.mod_eq_of_lt c] at p4
    exact ⟨⟨fun _ => ⟨p1, trivial⟩, fun q => absurd c1 q⟩, by rw [Nat.mod_eq_of_lt c]; exact z_nu1 c p4, p3⟩
  · have c1 : ¬ nI v < 10 := fun q => c ((nI_ltI (b := 10) (by omega) (by decide)).mp q)
    have hd := z_dgS (show 10 ≤ v by omega) (show v < 2 ^ 31 by omega)
    rw [if_neg c1]
    obtain ⟨a1, a2, a3⟩ := z_n1 (v := v / 10) h (by omega) (by omega)
    obtain ⟨p1, p2, p3⟩ := z_puts a2 (show s.1 + sb_dg (v / 10) < 40 by omega) (48 + v % 10)
    exact ⟨⟨fun q => absurd q c1, fun _ => ⟨a1, p1, trivial⟩⟩, z_nuS (by omega) (by omega) p2, a3.tr p3⟩
theorem z_n3 {σ : q_M} {s : Nat × (Nat → Nat)} {v : Nat} (h : z_tx σ 229 13 234 s) (hv : v < 10000) (hs : s.1 + sb_dg v ≤ 40) : P_X9_number3 (nI v) σ ∧ z_tx (F_X9_number3 (nI v) σ) 229 13 234 (z_nu v s) ∧ z_bf σ (F_X9_number3 (nI v) σ) := by
  have hdg := (sb_dg_in v).1
  unfold P_X9_number3 F_X9_number3
  simp only [q_L, forall_eq', z_mdx (show v < 2 ^ 31 by omega), z_dv10 (show v < 2 ^ 31 by omega)]
  by_cases c : v < 10
  · have c1 : nI v < 10 := nI_lt (b := 10) c (by decide)
    rw [if_pos c1]
    obtain ⟨p1, p2, p3⟩ := z_puts h (by omega) (48 + v % 10)
    have p4 := p2
    rw [Nat.mod_eq_of_lt c] at p4
    exact ⟨⟨fun _ => ⟨p1, trivial⟩, fun q => absurd c1 q⟩, by rw [Nat.mod_eq_of_lt c]; exact z_nu1 c p4, p3⟩
  · have c1 : ¬ nI v < 10 := fun q => c ((nI_ltI (b := 10) (by omega) (by decide)).mp q)
    have hd := z_dgS (show 10 ≤ v by omega) (show v < 2 ^ 31 by omega)
    rw [if_neg c1]
    obtain ⟨a1, a2, a3⟩ := z_n2 (v := v / 10) h (by omega) (by omega)
    obtain ⟨p1, p2, p3⟩ := z_puts a2 (show s.1 + sb_dg (v / 10) < 40 by omega) (48 + v % 10)
    exact ⟨⟨fun q => absurd q c1, fun _ => ⟨a1, p1, trivial⟩⟩, z_nuS (by omega) (by omega) p2, a3.tr p3⟩
theorem z_n4 {σ : q_M} {s : Nat × (Nat → Nat)} {v : Nat} (h : z_tx σ 229 13 234 s) (hv : v < 100000) (hs : s.1 + sb_dg v ≤ 40) : P_X9_number4 (nI v) σ ∧ z_tx (F_X9_number4 (nI v) σ) 229 13 234 (z_nu v s) ∧ z_bf σ (F_X9_number4 (nI v) σ) := by
  have hdg := (sb_dg_in v).1
  unfold P_X9_number4 F_X9_number4
  simp only [q_L, forall_eq', z_mdx (show v < 2 ^ 31 by omega), z_dv10 (show v < 2 ^ 31 by omega)]
  by_cases c : v < 10
  · have c1 : nI v < 10 := nI_lt (b := 10) c (by decide)
    rw [if_pos c1]
    obtain ⟨p1, p2, p3⟩ := z_puts h (by omega) (48 + v % 10)
    have p4 := p2
    rw [Nat.mod_eq_of_lt c] at p4
    exact ⟨⟨fun _ => ⟨p1, trivial⟩, fun q => absurd c1 q⟩, by rw [Nat.mod_eq_of_lt c]; exact z_nu1 c p4, p3⟩
  · have c1 : ¬ nI v < 10 := fun q => c ((nI_ltI (b := 10) (by omega) (by decide)).mp q)
    have hd := z_dgS (show 10 ≤ v by omega) (show v < 2 ^ 31 by omega)
    rw [if_neg c1]
    obtain ⟨a1, a2, a3⟩ := z_n3 (v := v / 10) h (by omega) (by omega)
    obtain ⟨p1, p2, p3⟩ := z_puts a2 (show s.1 + sb_dg (v / 10) < 40 by omega) (48 + v % 10)
    exact ⟨⟨fun q => absurd q c1, fun _ => ⟨a1, p1, trivial⟩⟩, z_nuS (by omega) (by omega) p2, a3.tr p3⟩
theorem z_n5 {σ : q_M} {s : Nat × (Nat → Nat)} {v : Nat} (h : z_tx σ 229 13 234 s) (hv : v < 1000000) (hs : s.1 + sb_dg v ≤ 40) : P_X9_number5 (nI v) σ ∧ z_tx (F_X9_number5 (nI v) σ) 229 13 234 (z_nu v s) ∧ z_bf σ (F_X9_number5 (nI v) σ) := by
  have hdg := (sb_dg_in v).1
  unfold P_X9_number5 F_X9_number5
  simp only [q_L, forall_eq', z_mdx (show v < 2 ^ 31 by omega), z_dv10 (show v < 2 ^ 31 by omega)]
  by_cases c : v < 10
  · have c1 : nI v < 10 := nI_lt (b := 10) c (by decide)
    rw [if_pos c1]
    obtain ⟨p1, p2, p3⟩ := z_puts h (by omega) (48 + v % 10)
    have p4 := p2
    rw [Nat.mod_eq_of_lt c] at p4
    exact ⟨⟨fun _ => ⟨p1, trivial⟩, fun q => absurd c1 q⟩, by rw [Nat.mod_eq_of_lt c]; exact z_nu1 c p4, p3⟩
  · have c1 : ¬ nI v < 10 := fun q => c ((nI_ltI (b := 10) (by omega) (by decide)).mp q)
    have hd := z_dgS (show 10 ≤ v by omega) (show v < 2 ^ 31 by omega)
    rw [if_neg c1]
    obtain ⟨a1, a2, a3⟩ := z_n4 (v := v / 10) h (by omega) (by omega)
    obtain ⟨p1, p2, p3⟩ := z_puts a2 (show s.1 + sb_dg (v / 10) < 40 by omega) (48 + v % 10)
    exact ⟨⟨fun q => absurd q c1, fun _ => ⟨a1, p1, trivial⟩⟩, z_nuS (by omega) (by omega) p2, a3.tr p3⟩
theorem z_n6 {σ : q_M} {s : Nat × (Nat → Nat)} {v : Nat} (h : z_tx σ 229 13 234 s) (hv : v < 10000000) (hs : s.1 + sb_dg v ≤ 40) : P_X9_number6 (nI v) σ ∧ z_tx (F_X9_number6 (nI v) σ) 229 13 234 (z_nu v s) ∧ z_bf σ (F_X9_number6 (nI v) σ) := by
  have hdg := (sb_dg_in v).1
  unfold P_X9_number6 F_X9_number6
  simp only [q_L, forall_eq', z_mdx (show v < 2 ^ 31 by omega), z_dv10 (show v < 2 ^ 31 by omega)]
  by_cases c : v < 10
  · have c1 : nI v < 10 := nI_lt (b := 10) c (by decide)
    rw [if_pos c1]
    obtain ⟨p1, p2, p3⟩ := z_puts h (by omega) (48 + v % 10)
    have p4 := p2
    rw [Nat.mod_eq_of_lt c] at p4
    exact ⟨⟨fun _ => ⟨p1, trivial⟩, fun q => absurd c1 q⟩, by rw [Nat.mod_eq_of_lt c]; exact z_nu1 c p4, p3⟩
  · have c1 : ¬ nI v < 10 := fun q => c ((nI_ltI (b := 10) (by omega) (by decide)).mp q)
    have hd := z_dgS (show 10 ≤ v by omega) (show v < 2 ^ 31 by omega)
    rw [if_neg c1]
    obtain ⟨a1, a2, a3⟩ := z_n5 (v := v / 10) h (by omega) (by omega)
    obtain ⟨p1, p2, p3⟩ := z_puts a2 (show s.1 + sb_dg (v / 10) < 40 by omega) (48 + v % 10)
    exact ⟨⟨fun q => absurd q c1, fun _ => ⟨a1, p1, trivial⟩⟩, z_nuS (by omega) (by omega) p2, a3.tr p3⟩
theorem z_n7 {σ : q_M} {s : Nat × (Nat → Nat)} {v : Nat} (h : z_tx σ 229 13 234 s) (hv : v < 100000000) (hs : s.1 + sb_dg v ≤ 40) : P_X9_number7 (nI v) σ ∧ z_tx (F_X9_number7 (nI v) σ) 229 13 234 (z_nu v s) ∧ z_bf σ (F_X9_number7 (nI v) σ) := by
  have hdg := (sb_dg_in v).1
  unfold P_X9_number7 F_X9_number7
  simp only [q_L, forall_eq', z_mdx (show v < 2 ^ 31 by omega), z_dv10 (show v < 2 ^ 31 by omega)]
  by_cases c : v < 10
  · have c1 : nI v < 10 := nI_lt (b := 10) c (by decide)
    rw [if_pos c1]
    obtain ⟨p1, p2, p3⟩ := z_puts h (by omega) (48 + v % 10)
    have p4 := p2
    rw [Nat.mod_eq_of_lt c] at p4
    exact ⟨⟨fun _ => ⟨p1, trivial⟩, fun q => absurd c1 q⟩, by rw [Nat.mod_eq_of_lt c]; exact z_nu1 c p4, p3⟩
  · have c1 : ¬ nI v < 10 := fun q => c ((nI_ltI (b := 10) (by omega) (by decide)).mp q)
    have hd := z_dgS (show 10 ≤ v by omega) (show v < 2 ^ 31 by omega)
    rw [if_neg c1]
    obtain ⟨a1, a2, a3⟩ := z_n6 (v := v / 10) h (by omega) (by omega)
    obtain ⟨p1, p2, p3⟩ := z_puts a2 (show s.1 + sb_dg (v / 10) < 40 by omega) (48 + v % 10)
    exact ⟨⟨fun q => absurd q c1, fun _ => ⟨a1, p1, trivial⟩⟩, z_nuS (by omega) (by omega) p2, a3.tr p3⟩
theorem z_n8 {σ : q_M} {s : Nat × (Nat → Nat)} {v : Nat} (h : z_tx σ 229 13 234 s) (hv : v < 1000000000) (hs : s.1 + sb_dg v ≤ 40) : P_X9_number8 (nI v) σ ∧ z_tx (F_X9_number8 (nI v) σ) 229 13 234 (z_nu v s) ∧ z_bf σ (F_X9_number8 (nI v) σ) := by
  have hdg := (sb_dg_in v).1
  unfold P_X9_number8 F_X9_number8
  simp only [q_L, forall_eq', z_mdx (show v < 2 ^ 31 by omega), z_dv10 (show v < 2 ^ 31 by omega)]
  by_cases c : v < 10
  · have c1 : nI v < 10 := nI_lt (b := 10) c (by decide)
    rw [if_pos c1]
    obtain ⟨p1, p2, p3⟩ := z_puts h (by omega) (48 + v % 10)
    have p4 := p2
    rw [Nat.mod_eq_of_lt c] at p4
    exact ⟨⟨fun _ => ⟨p1, trivial⟩, fun q => absurd c1 q⟩, by rw [Nat.mod_eq_of_lt c]; exact z_nu1 c p4, p3⟩
  · have c1 : ¬ nI v < 10 := fun q => c ((nI_ltI (b := 10) (by omega) (by decide)).mp q)
    have hd := z_dgS (show 10 ≤ v by omega) (show v < 2 ^ 31 by omega)
    rw [if_neg c1]
    obtain ⟨a1, a2, a3⟩ := z_n7 (v := v / 10) h (by omega) (by omega)
    obtain ⟨p1, p2, p3⟩ := z_puts a2 (show s.1 + sb_dg (v / 10) < 40 by omega) (48 + v % 10)
    exact ⟨⟨fun q => absurd q c1, fun _ => ⟨a1, p1, trivial⟩⟩, z_nuS (by omega) (by omega) p2, a3.tr p3⟩
theorem z_n9 {σ : q_M} {s : Nat × (Nat → Nat)} {v : Nat} (h : z_tx σ 229 13 234 s) (hv : v < 2 ^ 31) (hs : s.1 + sb_dg v ≤ 40) : P_X9_number9 (nI v) σ ∧ z_tx (F_X9_number9 (nI v) σ) 229 13 234 (z_nu v s) ∧ z_bf σ (F_X9_number9 (nI v) σ) := by
  have hdg := (sb_dg_in v).1
  unfold P_X9_number9 F_X9_number9
  simp only [q_L, forall_eq', z_mdx (show v < 2 ^ 31 by omega), z_dv10 (show v < 2 ^ 31 by omega)]
  by_cases c : v < 10
  · have c1 : nI v < 10 := nI_lt (b := 10) c (by decide)
    rw [if_pos c1]
    obtain ⟨p1, p2, p3⟩ := z_puts h (by omega) (48 + v % 10)
    have p4 := p2
    rw [Nat.mod_eq_of_lt c] at p4
    exact ⟨⟨fun _ => ⟨p1, trivial⟩, fun q => absurd c1 q⟩, by rw [Nat.mod_eq_of_lt c]; exact z_nu1 c p4, p3⟩
  · have c1 : ¬ nI v < 10 := fun q => c ((nI_ltI (b := 10) (by omega) (by decide)).mp q)
    have hd := z_dgS (show 10 ≤ v by omega) (show v < 2 ^ 31 by omega)
    rw [if_neg c1]
    obtain ⟨a1, a2, a3⟩ := z_n8 (v := v / 10) h (by omega) (by omega)
    obtain ⟨p1, p2, p3⟩ := z_puts a2 (show s.1 + sb_dg (v / 10) < 40 by omega) (48 + v % 10)
    exact ⟨⟨fun q => absurd q c1, fun _ => ⟨a1, p1, trivial⟩⟩, z_nuS (by omega) (by omega) p2, a3.tr p3⟩
/-! what a team's banner is -/
def z_bS (x : Nat → Nat) (s : Nat × (Nat → Nat)) : Nat × (Nat → Nat) := if x 6 = 1 then z_nu (x 8) (z_ch 114 s) else if x 6 = 2 then z_nu (x 18 + x 5) (z_ch 102 s) else z_ch (if x 6 = 3 then 119 else 45) s
def z_bE (x : Nat → Nat) (s : Nat × (Nat → Nat)) : Nat × (Nat → Nat) := if x 5 = 0 then z_nu (x 7) (z_ch 32 s) else z_nu (x 5) (z_ch 43 (z_nu (x 7) (z_ch 32 s)))
def z_bA (x : Nat → Nat) : Nat × (Nat → Nat) := z_ch 32 (z_nu (x 4) (z_ch 76 (0, fun _ => 0)))
theorem z_dgL {v m : Nat} (hm : m = 1 ∧ v < 10 ∨ m = 5 ∧ v < 100000 ∨ m = 6 ∧ v < 1000000 ∨ m = 7 ∧ v < 10000000) : sb_dg v ≤ m := by
  unfold sb_dg
  (repeat' split) <;> omega
theorem z_bAn {k : Nat} {b x : Nat → Nat} (hW : z_W k b x) : (z_bA x).1 = 3 := by
  have h := hW.ln
  show 0 + 1 + sb_dg (x 4) + 1 = 3
  rw [z_dg1 (by omega)]
theorem z_bSn {k : Nat} {b x : Nat → Nat} (hW : z_W k b x) (hk : k ≤ 20000) (hT : b 2 ≤ 200 * k) (s : Nat × (Nat → Nat)) : (z_bS x s).1 ≤ s.1 + 8 := by
  have h8 := hW.lg
  have h18 := hW.tm
  have h5 := hW.pn
  unfold z_bS
  split
  · show s.1 + 1 + sb_dg (x 8) ≤ s.1 + 8
    rw [z_dg1 (by omega)]
    omega
  · split
    · show s.1 + 1 + sb_dg (x 18 + x 5) ≤ s.1 + 8
      have := z_dgL (v := x 18 + x 5) (m := 7) (by omega)
      omega
    · show s.1 + 1 ≤ s.1 + 8
      omega
theorem z_bEn {k : Nat} {b x : Nat → Nat} (hW : z_W k b x) (hk : k ≤ 20000) (hL : b 0 ≤ 4000) (s : Nat × (Nat → Nat)) : (z_bE x s).1 ≤ s.1 + 13 := by
  have h7 := hW.ps
  have hE := z_mE hW.lg hL
  have h5 := hW.pn
  have d7 := z_dgL (v := x 7) (m := 5) (by omega)
  have d5 := z_dgL (v := x 5) (m := 6) (by omega)
  unfold z_bE
  split
  · show s.1 + 1 + sb_dg (x 7) ≤ s.1 + 13
    omega
  · show s.1 + 1 + sb_dg (x 7) + 1 + sb_dg (x 5) ≤ s.1 + 13
    omega
theorem z_bAa (x : Nat → Nat) : z_asc (z_bA x) := by
  have h0 : z_asc (0, fun _ => 0) := fun i hi => absurd hi (Nat.not_lt_zero i)
  exact (((h0.ch (by decide)).nu _).ch (by decide))
theorem z_bSa {x : Nat → Nat} {s : Nat × (Nat → Nat)} (h : z_asc s) : z_asc (z_bS x s) := by
  unfold z_bS
  split
  · exact (h.ch (by decide)).nu _
  · split
    · exact (h.ch (by decide)).nu _
    · exact h.ch (by split <;> decide)
theorem z_bEa {x : Nat → Nat} {s : Nat × (Nat → Nat)} (h : z_asc s) : z_asc (z_bE x s) := by
  unfold z_bE
  split
  · exact (h.ch (by decide)).nu _
  · exact (((h.ch (by decide)).nu _).ch (by decide)).nu _
theorem z_stC {k p w : Nat} {σ : q_M} {b x : Nat → Nat} {s : Nat × (Nat → Nat)} (hp : p < 220) (h : z_T σ p w x) (hW : z_W k b x) (hk : k ≤ 20000) (hck : b 2 ≤ 200 * k) (ht : z_tx σ 226 3 228 s) (hs : s.1 < 90) : P_X8_appendStage p σ ∧ z_tx (F_X8_appendStage p σ) 226 3 228 (z_bS x s) ∧ ∀ a, a ≠ 226 → a ≠ 228 → F_X8_appendStage p σ a = σ a := by
  have hst := hW.st
  have h8 := hW.lg
  have h18 := hW.tm
  have h5 := hW.pn
  unfold P_X8_appendStage F_X8_appendStage z_bS
  simp only [q_L, forall_eq']
  by_cases c1 : x 6 = 1
  · have e1 : σ p 3 = 2 := by rw [h.st, c1]; rfl
    rw [if_pos e1, if_pos c1]
    obtain ⟨a1, a2, a3⟩ := z_apC ht (by omega) 114
    have a2 : z_tx (q_apC 226 114 σ) 226 3 228 (z_ch 114 s) := a2
    have a3 : ∀ a, a ≠ 226 → a ≠ 228 → q_apC 226 114 σ a = σ a := a3
    have el : q_apC 226 114 σ p 6 = nI (x 8) := by rw [a3 p (by omega) (by omega)]; exact h.lg
    rw [el]
    obtain ⟨b1, b2, b3, b4⟩ := z_apI a2 (show s.1 + 1 < 100 by omega) (v := x 8) (by omega)
    exact ⟨⟨fun _ => ⟨a1, b2, b1, trivial⟩, fun q => absurd e1 q⟩, b3, fun a x1 x2 => by rw [b4 a x1 x2, a3 a x1 x2]⟩
  · have e1 : ¬ σ p 3 = 2 := by rw [h.st, z_l2, z_eq (by omega) (by omega)]; omega
    rw [if_neg e1, if_neg c1]
    by_cases c2 : x 6 = 2
    · have e2 : σ p 3 = 3 := by rw [h.st, c2]; rfl
      rw [if_pos e2, if_pos c2]
      obtain ⟨a1, a2, a3⟩ := z_apC ht (by omega) 102
      have a2 : z_tx (q_apC 226 102 σ) 226 3 228 (z_ch 102 s) := a2
      have a3 : ∀ a, a ≠ 226 → a ≠ 228 → q_apC 226 102 σ a = σ a := a3
      have el : F_X6_result p (q_apC 226 102 σ) = nI (x 18 + x 5) := by
        unfold F_X6_result
        rw [a3 p (by omega) (by omega), h.tm, h.pn, z_add]
      rw [el]
      obtain ⟨b1, b2, b3, b4⟩ := z_apI a2 (show s.1 + 1 < 100 by omega) (v := x 18 + x 5) (by omega)
      exact ⟨⟨fun q => absurd q e1, fun _ => ⟨fun _ => ⟨a1, b2, b1, trivial⟩, fun q => absurd e2 q⟩⟩, b3, fun a x1 x2 => by rw [b4 a x1 x2, a3 a x1 x2]⟩
    · have e2 : ¬ σ p 3 = 3 := by rw [h.st, z_l3, z_eq (by omega) (by omega)]; omega
      rw [if_neg e2, if_neg c2]
      by_cases c3 : x 6 = 3
      · have e3 : σ p 3 = 4 := by rw [h.st, c3]; rfl
        rw [if_pos e3, if_pos c3]
        obtain ⟨a1, a2, a3⟩ := z_apC ht (by omega) 119
        exact ⟨⟨fun q => absurd q e1, fun _ => ⟨fun q => absurd q e2, fun _ => ⟨fun _ => ⟨a1, trivial⟩, fun q => absurd e3 q⟩⟩⟩, a2, a3⟩
      · have e3 : ¬ σ p 3 = 4 := by rw [h.st, z_l4, z_eq (by omega) (by omega)]; omega
        rw [if_neg e3, if_neg c3]
        obtain ⟨a1, a2, a3⟩ := z_apC ht (by omega) 45
        exact ⟨⟨fun q => absurd q e1, fun _ => ⟨fun q => absurd q e2, fun _ => ⟨fun q => absurd q e3, fun _ => ⟨a1, trivial⟩⟩⟩⟩, a2, a3⟩
def z_bT (x : Nat → Nat) : Nat × (Nat → Nat) := z_bE x (z_bS x (z_bA x))
theorem z_wbC {k w : Nat} {σ : q_M} {b : Nat → Nat} {t : Nat → Nat → Nat} (hR : z_R σ 0 b t) (hV : z_V k b t) (hk : k ≤ 20000) (hw : w < b 3) : P_X8_writeBanner (nI w) σ ∧ ∃ μ, F_X8_writeBanner (nI w) σ = (.inl (nI (z_bT (t w)).1), μ) ∧ z_tx μ 226 3 228 (z_bT (t w)) ∧ ∀ a, a ≠ 226 → a ≠ 228 → μ a = σ a := by
  have n6 := hV.n6
  have hT := hR.te w (by omega) hw
  have hW := hV.te w hw
  have h4 := hW.ln
  have h7 := hW.ps
  have hE := z_mE hW.lg hV.l1
  have h5 := hW.pn
  have hp : 0 + 2 + 3 * w < 220 := by omega
  unfold P_X8_writeBanner F_X8_writeBanner
  rw [z_tw1 hR hV hw]
  simp only [forall_eq', q_L]
  have t0 : z_tx (q_up σ 226 3 0) 226 3 228 (0, fun _ => 0) := ⟨q_up_eq _ _ _ _, fun i hi => absurd hi (Nat.not_lt_zero i)⟩
  have o0 : ∀ a, a ≠ 226 → a ≠ 228 → (q_up σ 226 3 0) a = σ a := fun a x1 _ => q_up_off x1
  generalize q_up σ 226 3 0 = σ3 at t0 o0 ⊢
  obtain ⟨a1, t1, o1⟩ := z_apC t0 (by decide) 76
  have a1 : q_cut σ3 226 := a1
  have t1 : z_tx (q_apC 226 76 σ3) 226 3 228 (z_ch 76 (0, fun _ => 0)) := t1
  have o1 : ∀ a, a ≠ 226 → a ≠ 228 → q_apC 226 76 σ3 a = σ3 a := o1
  generalize q_apC 226 76 σ3 = σ5 at t1 o1 ⊢
  have e5 : σ5 (0 + 2 + 3 * w) 4 = nI (t w 4) := by rw [o1 _ (by omega) (by omega), o0 _ (by omega) (by omega)]; exact hT.ln
  rw [e5]
  obtain ⟨a2, n2, t2, o2⟩ := z_apI t1 (show 0 + 1 < 100 by decide) (v := t w 4) (by omega)
  generalize q_apI 226 (nI (t w 4)) σ5 = σ7 at t2 o2 ⊢
  have d4 := z_dg1 (show t w 4 < 10 by omega)
  obtain ⟨a3, t3, o3⟩ := z_apC t2 (show 0 + 1 + sb_dg (t w 4) < 100 by omega) 32
  have t3 : z_tx (q_apC 226 32 σ7) 226 3 228 (z_bA (t w)) := t3
  have o3 : ∀ a, a ≠ 226 → a ≠ 228 → q_apC 226 32 σ7 a = σ7 a := o3
  generalize q_apC 226 32 σ7 = σ9 at t3 o3 ⊢
  have f9 : ∀ a, a ≠ 226 → a ≠ 228 → σ9 a = σ a := fun a x1 x2 => by rw [o3 a x1 x2, o2 a x1 x2, o1 a x1 x2, o0 a x1 x2]
  have hT9 : z_T σ9 (0 + 2 + 3 * w) w (t w) := hT.off (f9 _ (by omega) (by omega)) (f9 _ (by omega) (by omega)) (f9 _ (by omega) (by omega))
  have nA := z_bAn hW
  obtain ⟨a4, t4, o4⟩ := z_stC hp hT9 hW hk hV.ck t3 (by omega)
  generalize F_X8_appendStage (0 + 2 + 3 * w) σ9 = σ11 at t4 o4 ⊢
  have nS := z_bSn hW hk hV.ck (z_bA (t w))
  obtain ⟨a5, t5, o5⟩ := z_apC t4 (by omega) 32
  have t5 : z_tx (q_apC 226 32 σ11) 226 3 228 (z_ch 32 (z_bS (t w) (z_bA (t w)))) := t5
  have o5 : ∀ a, a ≠ 226 → a ≠ 228 → q_apC 226 32 σ11 a = σ11 a := o5
  generalize q_apC 226 32 σ11 = σ13 at t5 o5 ⊢
  have f13 : ∀ a, a ≠ 226 → a ≠ 228 → σ13 a = σ a := fun a x1 x2 => by rw [o5 a x1 x2, o4 a x1 x2, f9 a x1 x2]
  have e13 : σ13 (0 + 2 + 3 * w) 5 = nI (t w 7) := by rw [f13 _ (by omega) (by omega)]; exact hT.ps
  rw [e13]
  obtain ⟨a6, n6', t6, o6⟩ := z_apI t5 (show (z_bS (t w) (z_bA (t w))).1 + 1 < 100 by omega) (v := t w 7) (by omega)
  generalize q_apI 226 (nI (t w 7)) σ13 = σ15 at t6 o6 ⊢
  have f15 : ∀ a, a ≠ 226 → a ≠ 228 → σ15 a = σ a := fun a x1 x2 => by rw [o6 a x1 x2, f13 a x1 x2]
  have e15 : σ15 (0 + 2 + 3 * w) 9 = nI (t w 5) := by rw [f15 _ (by omega) (by omega)]; exact hT.pn
  have d7 := z_dgL (v := t w 7) (m := 5) (by omega)
  rw [e15]
  unfold z_bT z_bE
  by_cases c : t w 5 = 0
  · have c1 : nI (t w 5) = 0 := by rw [c]; rfl
    rw [if_pos c1, if_pos c]
    exact ⟨⟨a1, n2, a2, a3, a4, a5, n6', a6, fun _ => trivial, fun q => absurd c1 q⟩, σ15, by rw [t6.1], t6, f15⟩
  · have c1 : ¬ nI (t w 5) = 0 := nI_ne0 (by omega) (by omega)
    rw [if_neg c1, if_neg c]
    obtain ⟨a7, t7, o7⟩ := z_apC t6 (show (z_bS (t w) (z_bA (t w))).1 + 1 + sb_dg (t w 7) < 100 by omega) 43
    have t7 : z_tx (q_apC 226 43 σ15) 226 3 228 (z_ch 43 (z_nu (t w 7) (z_ch 32 (z_bS (t w) (z_bA (t w)))))) := t7
    have o7 : ∀ a, a ≠ 226 → a ≠ 228 → q_apC 226 43 σ15 a = σ15 a := o7
    generalize q_apC 226 43 σ15 = σ18 at t7 o7 ⊢
    have e18 : σ18 (0 + 2 + 3 * w) 9 = nI (t w 5) := by rw [o7 _ (by omega) (by omega), f15 _ (by omega) (by omega)]; exact hT.pn
    rw [e18]
    obtain ⟨a8, n8, t8, o8⟩ := z_apI t7 (show (z_bS (t w) (z_bA (t w))).1 + 1 + sb_dg (t w 7) + 1 < 100 by omega) (v := t w 5) (by omega)
    exact ⟨⟨a1, n2, a2, a3, a4, a5, n6', a6, fun q => absurd q c1, fun _ => ⟨a7, n8, a8, trivial⟩⟩, _, by rw [t8.1], t8, fun a x1 x2 => by rw [o8 a x1 x2, o7 a x1 x2, f15 a x1 x2]⟩
/-! the model's banner -/
def z_eF (t : Int32) (σ : q_M) : Int32 × q_M := q_L (F_X9_puts 32 σ) (fun σ19 : q_M => q_L (F_X9_number9 (F_X9_of t 7 σ19) σ19) (fun σ21 : q_M => if 0 < F_X9_of t 5 σ21 then q_L (F_X9_puts 43 σ21) (fun σ24 : q_M => q_L (F_X9_number9 (F_X9_of t 5 σ24) σ24) (fun σ26 : q_M => (σ26 229 13, σ26))) else (σ21 229 13, σ21)))
def z_eP (t : Int32) (σ : q_M) : Prop := P_X9_puts 32 σ ∧ (∀ σ19 : q_M, F_X9_puts 32 σ = σ19 → (P_X9_of t 7 σ19 ∧ (P_X9_number9 (F_X9_of t 7 σ19) σ19 ∧ (∀ σ21 : q_M, F_X9_number9 (F_X9_of t 7 σ19) σ19 = σ21 → (P_X9_of t 5 σ21 ∧ ((0 < F_X9_of t 5 σ21 → (P_X9_puts 43 σ21 ∧ (∀ σ24 : q_M, F_X9_puts 43 σ21 = σ24 → (P_X9_of t 5 σ24 ∧ (P_X9_number9 (F_X9_of t 5 σ24) σ24 ∧ True))))) ∧ (¬ 0 < F_X9_of t 5 σ21 → True)))))))
theorem z_enM {k w : Nat} {σ : q_M} {b : Nat → Nat} {t : Nat → Nat → Nat} {s : Nat × (Nat → Nat)} (hM : z_M σ b t) (hV : z_V k b t) (hk : k ≤ 20000) (hw : w < b 3) (ht : z_tx σ 229 13 234 s) (hs : s.1 ≤ 20) : z_eP (nI w) σ ∧ (z_eF (nI w) σ).1 = nI (z_bE (t w) s).1 ∧ z_tx (z_eF (nI w) σ).2 229 13 234 (z_bE (t w) s) ∧ z_bf σ (z_eF (nI w) σ).2 := by
  have n6 := hV.n6
  have h6 : w < 6 := by omega
  have hW := hV.te w hw
  have h7 := hW.ps
  have hE := z_mE hW.lg hV.l1
  have h5 := hW.pn
  unfold z_eP z_eF
  simp only [forall_eq', q_L]
  obtain ⟨p1, t1, o1⟩ := z_puts ht (by omega) 32
  have p1 : P_X9_puts 32 σ := p1
  have t1 : z_tx (F_X9_puts 32 σ) 229 13 234 (z_ch 32 s) := t1
  have o1 : z_bf σ (F_X9_puts 32 σ) := o1
  generalize F_X9_puts 32 σ = σ19 at t1 o1 ⊢
  have hM1 : z_M σ19 b t := hM.off (o1.1 230 (by decide) (by decide))
  have d7 := z_dgL (v := t w 7) (m := 5) (by omega)
  have d5 := z_dgL (v := t w 5) (m := 6) (by omega)
  rw [hM1.o7 h6]
  obtain ⟨p2, t2, o2⟩ := z_n9 (v := t w 7) t1 (by omega) (show s.1 + 1 + sb_dg (t w 7) ≤ 40 by omega)
  generalize F_X9_number9 (nI (t w 7)) σ19 = σ21 at t2 o2 ⊢
  have hM2 : z_M σ21 b t := hM1.off (o2.1 230 (by decide) (by decide))
  rw [hM2.o5 h6]
  unfold z_bE
  by_cases c : t w 5 = 0
  · have c1 : ¬ (0 : Int32) < nI (t w 5) := by rw [c]; decide
    rw [if_neg c1, if_pos c]
    exact ⟨⟨p1, z_p7 h6, p2, z_p5 h6, fun q => absurd q c1, fun _ => trivial⟩, t2.1, t2, o1.tr o2⟩
  · have c1 : (0 : Int32) < nI (t w 5) := by rw [z_l0, z_lt (by decide) (by omega)]; omega
    rw [if_pos c1, if_neg c]
    obtain ⟨p3, t3, o3⟩ := z_puts t2 (show s.1 + 1 + sb_dg (t w 7) < 40 by omega) 43
    have p3 : P_X9_puts 43 σ21 := p3
    have t3 : z_tx (F_X9_puts 43 σ21) 229 13 234 (z_ch 43 (z_nu (t w 7) (z_ch 32 s))) := t3
    have o3 : z_bf σ21 (F_X9_puts 43 σ21) := o3
    generalize F_X9_puts 43 σ21 = σ24 at t3 o3 ⊢
    have hM3 : z_M σ24 b t := hM2.off (o3.1 230 (by decide) (by decide))
    rw [hM3.o5 h6]
    obtain ⟨p4, t4, o4⟩ := z_n9 (v := t w 5) t3 (by omega) (show s.1 + 1 + sb_dg (t w 7) + 1 + sb_dg (t w 5) ≤ 40 by omega)
    exact ⟨⟨p1, z_p7 h6, p2, z_p5 h6, fun _ => ⟨p3, z_p5 h6, p4, trivial⟩, fun q => absurd c1 q⟩, t4.1, t4, ((o1.tr o2).tr o3).tr o4⟩
