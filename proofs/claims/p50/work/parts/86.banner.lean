/-! The banner, in the class. -/
def z_tx (σ : q_M) (p j q : Nat) (s : Nat × (Nat → Nat)) : Prop := σ p j = nI s.1 ∧ ∀ i, i < s.1 → σ q i = nI (s.2 i)
def z_ch (c : Nat) (s : Nat × (Nat → Nat)) : Nat × (Nat → Nat) := (s.1 + 1, z_up s.2 s.1 c)
def z_nu (v : Nat) (s : Nat × (Nat → Nat)) : Nat × (Nat → Nat) := (s.1 + sb_dg v, fun i => if s.1 ≤ i then sb_dec v (i - s.1) else s.2 i)
def z_asc (s : Nat × (Nat → Nat)) : Prop := ∀ i, i < s.1 → s.2 i < 128
theorem z_asc.ch {s : Nat × (Nat → Nat)} (h : z_asc s) {c : Nat} (hc : c < 128) : z_asc (z_ch c s) := by
  intro i hi
  have hi : i < s.1 + 1 := hi
  show z_up s.2 s.1 c i < 128
  by_cases e : i = s.1
  · subst e; rw [z_up_s]; exact hc
  · rw [z_up_n e]; exact h i (by omega)
theorem z_asc.nu {s : Nat × (Nat → Nat)} (h : z_asc s) (v : Nat) : z_asc (z_nu v s) := by
  intro i hi
  show (if s.1 ≤ i then sb_dec v (i - s.1) else s.2 i) < 128
  by_cases e : s.1 ≤ i
  · rw [if_pos e]
    unfold sb_dec
    have := Nat.mod_lt (v / 10 ^ (sb_dg v - 1 - (i - s.1))) (show 10 > 0 by decide)
    omega
  · rw [if_neg e]
    exact h i (by omega)
theorem z_tx.off {σ μ : q_M} {p j q : Nat} {s : Nat × (Nat → Nat)} (h : z_tx σ p j q s) (e1 : μ p j = σ p j) (e2 : μ q = σ q) : z_tx μ p j q s := ⟨by rw [e1]; exact h.1, fun i hi => by rw [e2]; exact h.2 i hi⟩
theorem z_apC {σ : q_M} {s : Nat × (Nat → Nat)} (h : z_tx σ 226 3 228 s) (hs : s.1 < 100) (c : Nat) : q_cut σ 226 ∧ z_tx (q_apC 226 (nI c) σ) 226 3 228 (z_ch c s) ∧ ∀ a, a ≠ 226 → a ≠ 228 → q_apC 226 (nI c) σ a = σ a := by
  refine ⟨⟨s.1, hs, h.1⟩, ⟨?_, fun i hi => ?_⟩, fun a a1 a2 => ?_⟩
  · unfold q_apC
    rw [q_up_nk (by decide), q_up_eq, h.1, z_l1, z_add]
    rfl
  · have hi : i < s.1 + 1 := hi
    unfold q_apC
    rw [h.1, nI_clamp (by omega)]
    show _ = nI (z_up s.2 s.1 c i)
    by_cases e : i = s.1
    · subst e
      rw [z_up_s]
      exact q_up_eq _ _ _ _
    · rw [z_up_n e, q_up_nj e, q_up_nk (by decide)]
      exact h.2 i (by omega)
  · unfold q_apC
    rw [q_up_off a2, q_up_off a1]
theorem z_apI {σ : q_M} {s : Nat × (Nat → Nat)} (h : z_tx σ 226 3 228 s) (hs : s.1 < 100) {v : Nat} (hv : v < 2 ^ 31) : q_cut σ 226 ∧ ¬ nI v < 0 ∧ z_tx (q_apI 226 (nI v) σ) 226 3 228 (z_nu v s) ∧ ∀ a, a ≠ 226 → a ≠ 228 → q_apI 226 (nI v) σ a = σ a := by
  have ev : (nI v).toNatClampNeg = v := nI_clamp hv
  have es : (σ 226 3).toNatClampNeg = s.1 := by rw [h.1, nI_clamp (by omega)]
  refine ⟨⟨s.1, hs, h.1⟩, nI_pos hv, ⟨?_, fun i hi => ?_⟩, fun a a1 a2 => ?_⟩
  · unfold q_apI
    rw [q_up_eq, es, ev]
    rfl
  · have hi : i < s.1 + sb_dg v := hi
    unfold q_apI
    rw [q_up_nk (by decide), es, ev]
    show _ = nI (if s.1 ≤ i then sb_dec v (i - s.1) else s.2 i)
    by_cases e : s.1 ≤ i
    · rw [if_pos e]
      have := q_dgs_at (σ := σ) (k := 226 + 2) (n := s.1) (f := sb_dec v) (sb_dg v) (i - s.1) (by omega)
      rw [show s.1 + (i - s.1) = i by omega] at this
      exact this
    · rw [if_neg e, q_dgs_lo (by omega)]
      exact h.2 i (by omega)
  · unfold q_apI
    rw [q_up_off a1, q_dgs_off a2]
theorem z_dg1 {v : Nat} (h : v < 10) : sb_dg v = 1 := by
  unfold sb_dg
  rw [if_pos h]
theorem z_dgS {v : Nat} (h : 10 ≤ v) (hv : v < 2 ^ 31) : sb_dg v = sb_dg (v / 10) + 1 := by
  unfold sb_dg
  (repeat' split) <;> omega
theorem z_tx.cg {σ : q_M} {p j q : Nat} {s s' : Nat × (Nat → Nat)} (h : z_tx σ p j q s) (e1 : s.1 = s'.1) (e2 : ∀ i, i < s.1 → s.2 i = s'.2 i) : z_tx σ p j q s' := ⟨by rw [← e1]; exact h.1, fun i hi => by rw [← e2 i (by omega)]; exact h.2 i (by omega)⟩
theorem z_nu1 {σ : q_M} {p j q v : Nat} {s : Nat × (Nat → Nat)} (hv : v < 10) (h : z_tx σ p j q (z_ch (48 + v) s)) : z_tx σ p j q (z_nu v s) := by
  refine h.cg ?_ (fun i hi => ?_)
  · show s.1 + 1 = s.1 + sb_dg v
    rw [z_dg1 hv]
  · have hi : i < s.1 + 1 := hi
    show z_up s.2 s.1 (48 + v) i = if s.1 ≤ i then sb_dec v (i - s.1) else s.2 i
    by_cases e : i = s.1
    · subst e
      rw [z_up_s, if_pos (Nat.le_refl _), Nat.sub_self]
      unfold sb_dec
      rw [z_dg1 hv]
      show 48 + v = 48 + v / 10 ^ 0 % 10
      rw [Nat.pow_zero, Nat.div_one, Nat.mod_eq_of_lt hv]
    · rw [z_up_n e, if_neg (by omega)]
theorem z_nuS {σ : q_M} {p j q v : Nat} {s : Nat × (Nat → Nat)} (h10 : 10 ≤ v) (hv : v < 2 ^ 31) (h : z_tx σ p j q (z_ch (48 + v % 10) (z_nu (v / 10) s))) : z_tx σ p j q (z_nu v s) := by
  have hd := z_dgS h10 hv
  have h1 := (sb_dg_in (v / 10)).1
  refine h.cg ?_ (fun i hi => ?_)
  · show s.1 + sb_dg (v / 10) + 1 = s.1 + sb_dg v
    rw [hd, Nat.add_assoc]
  · have hi : i < s.1 + sb_dg (v / 10) + 1 := hi
    show z_up (fun i => if s.1 ≤ i then sb_dec (v / 10) (i - s.1) else s.2 i) (s.1 + sb_dg (v / 10)) (48 + v % 10) i = if s.1 ≤ i then sb_dec v (i - s.1) else s.2 i
    by_cases e : i = s.1 + sb_dg (v / 10)
    · subst e
      rw [z_up_s, if_pos (by omega)]
      unfold sb_dec
      rw [hd, show sb_dg (v / 10) + 1 - 1 - (s.1 + sb_dg (v / 10) - s.1) = 0 by omega, Nat.pow_zero, Nat.div_one]
    · rw [z_up_n e]
      by_cases c : s.1 ≤ i
      · rw [if_pos c, if_pos c]
        unfold sb_dec
        rw [hd, show sb_dg (v / 10) + 1 - 1 - (i - s.1) = (sb_dg (v / 10) - 1 - (i - s.1)) + 1 by omega, Nat.pow_succ, Nat.mul_comm, ← Nat.div_div_eq_div_mul]
      · rw [if_neg c, if_neg c]
def z_bS (x : Nat → Nat) (s : Nat × (Nat → Nat)) : Nat × (Nat → Nat) := if x 6 = 1 then z_nu (x 8) (z_ch 114 s) else if x 6 = 2 then z_nu (x 18 + x 5) (z_ch 102 s) else z_ch (if x 6 = 3 then 119 else 45) s
def z_bE (x : Nat → Nat) (s : Nat × (Nat → Nat)) : Nat × (Nat → Nat) := if x 5 = 0 then z_nu (x 7) (z_ch 32 s) else z_nu (x 5) (z_ch 43 (z_nu (x 7) (z_ch 32 s)))
def z_bA (x : Nat → Nat) : Nat × (Nat → Nat) := z_ch 32 (z_nu (x 4) (z_ch 76 (0, fun _ => 0)))
theorem z_dgL {v m : Nat} (hm : m = 1 ∧ v < 10 ∨ m = 5 ∧ v < 100000 ∨ m = 6 ∧ v < 1000000 ∨ m = 7 ∧ v < 10000000) : sb_dg v ≤ m := by
  unfold sb_dg
  (repeat' split) <;> omega
theorem z_bAn {k : Nat} {b x : Nat → Nat} (hW : z_W k b x) : (z_bA x).1 = 3 := by
  have h := hW.ln
  show 0 + 1 + sb_dg (x 4) + 1 = 3
  rw [z_dg1 (by omega)]
theorem z_bSn {k : Nat} {b x : Nat → Nat} (hW : z_W k b x) (hk : k ≤ 20000) (hT : b 2 ≤ 200 * k) (s : Nat × (Nat → Nat)) : (z_bS x s).1 ≤ s.1 + 8 := by
  have h8 := hW.lg
  have h18 := hW.tm
  have h5 := hW.pn
  unfold z_bS
  split
  · show s.1 + 1 + sb_dg (x 8) ≤ s.1 + 8
    rw [z_dg1 (by omega)]
    omega
  · split
    · show s.1 + 1 + sb_dg (x 18 + x 5) ≤ s.1 + 8
      have := z_dgL (v := x 18 + x 5) (m := 7) (by omega)
      omega
    · show s.1 + 1 ≤ s.1 + 8
      omega
theorem z_bEn {k : Nat} {b x : Nat → Nat} (hW : z_W k b x) (hk : k ≤ 20000) (hL : b 0 ≤ 4000) (s : Nat × (Nat → Nat)) : (z_bE x s).1 ≤ s.1 + 13 := by
  have h7 := hW.ps
  have hE := z_mE hW.lg hL
  have h5 := hW.pn
  have d7 := z_dgL (v := x 7) (m := 5) (by omega)
  have d5 := z_dgL (v := x 5) (m := 6) (by omega)
  unfold z_bE
  split
  · show s.1 + 1 + sb_dg (x 7) ≤ s.1 + 13
    omega
  · show s.1 + 1 + sb_dg (x 7) + 1 + sb_dg (x 5) ≤ s.1 + 13
    omega
theorem z_bAa (x : Nat → Nat) : z_asc (z_bA x) := by
  have h0 : z_asc (0, fun _ => 0) := fun i hi => absurd hi (Nat.not_lt_zero i)
  exact (((h0.ch (by decide)).nu _).ch (by decide))
theorem z_bSa {x : Nat → Nat} {s : Nat × (Nat → Nat)} (h : z_asc s) : z_asc (z_bS x s) := by
  unfold z_bS
  split
  · exact (h.ch (by decide)).nu _
  · split
    · exact (h.ch (by decide)).nu _
    · exact h.ch (by split <;> decide)
theorem z_bEa {x : Nat → Nat} {s : Nat × (Nat → Nat)} (h : z_asc s) : z_asc (z_bE x s) := by
  unfold z_bE
  split
  · exact (h.ch (by decide)).nu _
  · exact (((h.ch (by decide)).nu _).ch (by decide)).nu _
theorem z_stC {k p w : Nat} {σ : q_M} {b x : Nat → Nat} {s : Nat × (Nat → Nat)} (hp : p < 220) (h : z_T σ p w x) (hW : z_W k b x) (hk : k ≤ 20000) (hck : b 2 ≤ 200 * k) (ht : z_tx σ 226 3 228 s) (hs : s.1 < 90) : P_X8_appendStage p σ ∧ z_tx (F_X8_appendStage p σ) 226 3 228 (z_bS x s) ∧ ∀ a, a ≠ 226 → a ≠ 228 → F_X8_appendStage p σ a = σ a := by
  have hst := hW.st
  have h8 := hW.lg
  have h18 := hW.tm
  have h5 := hW.pn
  unfold P_X8_appendStage F_X8_appendStage z_bS
  simp only [q_L, forall_eq']
  by_cases c1 : x 6 = 1
  · have e1 : σ p 3 = 2 := by rw [h.st, c1]; rfl
    rw [if_pos e1, if_pos c1]
    obtain ⟨a1, a2, a3⟩ := z_apC ht (by omega) 114
    have a2 : z_tx (q_apC 226 114 σ) 226 3 228 (z_ch 114 s) := a2
    have a3 : ∀ a, a ≠ 226 → a ≠ 228 → q_apC 226 114 σ a = σ a := a3
    have el : q_apC 226 114 σ p 6 = nI (x 8) := by rw [a3 p (by omega) (by omega)]; exact h.lg
    rw [el]
    obtain ⟨b1, b2, b3, b4⟩ := z_apI a2 (show s.1 + 1 < 100 by omega) (v := x 8) (by omega)
    exact ⟨⟨fun _ => ⟨a1, b2, b1, trivial⟩, fun q => absurd e1 q⟩, b3, fun a x1 x2 => by rw [b4 a x1 x2, a3 a x1 x2]⟩
  · have e1 : ¬ σ p 3 = 2 := by rw [h.st, z_l2, z_eq (by omega) (by omega)]; omega
    rw [if_neg e1, if_neg c1]
    by_cases c2 : x 6 = 2
    · have e2 : σ p 3 = 3 := by rw [h.st, c2]; rfl
      rw [if_pos e2, if_pos c2]
      obtain ⟨a1, a2, a3⟩ := z_apC ht (by omega) 102
      have a2 : z_tx (q_apC 226 102 σ) 226 3 228 (z_ch 102 s) := a2
      have a3 : ∀ a, a ≠ 226 → a ≠ 228 → q_apC 226 102 σ a = σ a := a3
      have el : F_X6_result p (q_apC 226 102 σ) = nI (x 18 + x 5) := by
        unfold F_X6_result
        rw [a3 p (by omega) (by omega), h.tm, h.pn, z_add]
      rw [el]
      obtain ⟨b1, b2, b3, b4⟩ := z_apI a2 (show s.1 + 1 < 100 by omega) (v := x 18 + x 5) (by omega)
      exact ⟨⟨fun q => absurd q e1, fun _ => ⟨fun _ => ⟨a1, b2, b1, trivial⟩, fun q => absurd e2 q⟩⟩, b3, fun a x1 x2 => by rw [b4 a x1 x2, a3 a x1 x2]⟩
    · have e2 : ¬ σ p 3 = 3 := by rw [h.st, z_l3, z_eq (by omega) (by omega)]; omega
      rw [if_neg e2, if_neg c2]
      by_cases c3 : x 6 = 3
      · have e3 : σ p 3 = 4 := by rw [h.st, c3]; rfl
        rw [if_pos e3, if_pos c3]
        obtain ⟨a1, a2, a3⟩ := z_apC ht (by omega) 119
        exact ⟨⟨fun q => absurd q e1, fun _ => ⟨fun q => absurd q e2, fun _ => ⟨fun _ => ⟨a1, trivial⟩, fun q => absurd e3 q⟩⟩⟩, a2, a3⟩
      · have e3 : ¬ σ p 3 = 4 := by rw [h.st, z_l4, z_eq (by omega) (by omega)]; omega
        rw [if_neg e3, if_neg c3]
        obtain ⟨a1, a2, a3⟩ := z_apC ht (by omega) 45
        exact ⟨⟨fun q => absurd q e1, fun _ => ⟨fun q => absurd q e2, fun _ => ⟨fun q => absurd q e3, fun _ => ⟨a1, trivial⟩⟩⟩⟩, a2, a3⟩
def z_bT (x : Nat → Nat) : Nat × (Nat → Nat) := z_bE x (z_bS x (z_bA x))
theorem z_wbC {k w : Nat} {σ : q_M} {b : Nat → Nat} {t : Nat → Nat → Nat} (hR : z_R σ 0 b t) (hV : z_V k b t) (hk : k ≤ 20000) (hw : w < b 3) : P_X8_writeBanner (nI w) σ ∧ ∃ μ, F_X8_writeBanner (nI w) σ = (.inl (nI (z_bT (t w)).1), μ) ∧ z_tx μ 226 3 228 (z_bT (t w)) ∧ ∀ a, a ≠ 226 → a ≠ 228 → μ a = σ a := by
  have n6 := hV.n6
  have hT := hR.te w (by omega) hw
  have hW := hV.te w hw
  have h4 := hW.ln
  have h7 := hW.ps
  have hE := z_mE hW.lg hV.l1
  have h5 := hW.pn
  have hp : 0 + 2 + 3 * w < 220 := by omega
  unfold P_X8_writeBanner F_X8_writeBanner
  rw [z_tw1 hR hV hw]
  simp only [forall_eq', q_L]
  have t0 : z_tx (q_up σ 226 3 0) 226 3 228 (0, fun _ => 0) := ⟨q_up_eq _ _ _ _, fun i hi => absurd hi (Nat.not_lt_zero i)⟩
  have o0 : ∀ a, a ≠ 226 → a ≠ 228 → (q_up σ 226 3 0) a = σ a := fun a x1 _ => q_up_off x1
  generalize q_up σ 226 3 0 = σ3 at t0 o0 ⊢
  obtain ⟨a1, t1, o1⟩ := z_apC t0 (by decide) 76
  have a1 : q_cut σ3 226 := a1
  have t1 : z_tx (q_apC 226 76 σ3) 226 3 228 (z_ch 76 (0, fun _ => 0)) := t1
  have o1 : ∀ a, a ≠ 226 → a ≠ 228 → q_apC 226 76 σ3 a = σ3 a := o1
  generalize q_apC 226 76 σ3 = σ5 at t1 o1 ⊢
  have e5 : σ5 (0 + 2 + 3 * w) 4 = nI (t w 4) := by rw [o1 _ (by omega) (by omega), o0 _ (by omega) (by omega)]; exact hT.ln
  rw [e5]
  obtain ⟨a2, n2, t2, o2⟩ := z_apI t1 (show 0 + 1 < 100 by decide) (v := t w 4) (by omega)
  generalize q_apI 226 (nI (t w 4)) σ5 = σ7 at t2 o2 ⊢
  have d4 := z_dg1 (show t w 4 < 10 by omega)
  obtain ⟨a3, t3, o3⟩ := z_apC t2 (show 0 + 1 + sb_dg (t w 4) < 100 by omega) 32
  have t3 : z_tx (q_apC 226 32 σ7) 226 3 228 (z_bA (t w)) := t3
  have o3 : ∀ a, a ≠ 226 → a ≠ 228 → q_apC 226 32 σ7 a = σ7 a := o3
  generalize q_apC 226 32 σ7 = σ9 at t3 o3 ⊢
  have f9 : ∀ a, a ≠ 226 → a ≠ 228 → σ9 a = σ a := fun a x1 x2 => by rw [o3 a x1 x2, o2 a x1 x2, o1 a x1 x2, o0 a x1 x2]
  have hT9 : z_T σ9 (0 + 2 + 3 * w) w (t w) := hT.off (f9 _ (by omega) (by omega)) (f9 _ (by omega) (by omega)) (f9 _ (by omega) (by omega))
  have nA := z_bAn hW
  obtain ⟨a4, t4, o4⟩ := z_stC hp hT9 hW hk hV.ck t3 (by omega)
  generalize F_X8_appendStage (0 + 2 + 3 * w) σ9 = σ11 at t4 o4 ⊢
  have nS := z_bSn hW hk hV.ck (z_bA (t w))
  obtain ⟨a5, t5, o5⟩ := z_apC t4 (by omega) 32
  have t5 : z_tx (q_apC 226 32 σ11) 226 3 228 (z_ch 32 (z_bS (t w) (z_bA (t w)))) := t5
  have o5 : ∀ a, a ≠ 226 → a ≠ 228 → q_apC 226 32 σ11 a = σ11 a := o5
  generalize q_apC 226 32 σ11 = σ13 at t5 o5 ⊢
  have f13 : ∀ a, a ≠ 226 → a ≠ 228 → σ13 a = σ a := fun a x1 x2 => by rw [o5 a x1 x2, o4 a x1 x2, f9 a x1 x2]
  have e13 : σ13 (0 + 2 + 3 * w) 5 = nI (t w 7) := by rw [f13 _ (by omega) (by omega)]; exact hT.ps
  rw [e13]
  obtain ⟨a6, n6', t6, o6⟩ := z_apI t5 (show (z_bS (t w) (z_bA (t w))).1 + 1 < 100 by omega) (v := t w 7) (by omega)
  generalize q_apI 226 (nI (t w 7)) σ13 = σ15 at t6 o6 ⊢
  have f15 : ∀ a, a ≠ 226 → a ≠ 228 → σ15 a = σ a := fun a x1 x2 => by rw [o6 a x1 x2, f13 a x1 x2]
  have e15 : σ15 (0 + 2 + 3 * w) 9 = nI (t w 5) := by rw [f15 _ (by omega) (by omega)]; exact hT.pn
  have d7 := z_dgL (v := t w 7) (m := 5) (by omega)
  rw [e15]
  unfold z_bT z_bE
  by_cases c : t w 5 = 0
  · have c1 : nI (t w 5) = 0 := by rw [c]; rfl
    rw [if_pos c1, if_pos c]
    exact ⟨⟨a1, n2, a2, a3, a4, a5, n6', a6, fun _ => trivial, fun q => absurd c1 q⟩, σ15, by rw [t6.1], t6, f15⟩
  · have c1 : ¬ nI (t w 5) = 0 := nI_ne0 (by omega) (by omega)
    rw [if_neg c1, if_neg c]
    obtain ⟨a7, t7, o7⟩ := z_apC t6 (show (z_bS (t w) (z_bA (t w))).1 + 1 + sb_dg (t w 7) < 100 by omega) 43
    have t7 : z_tx (q_apC 226 43 σ15) 226 3 228 (z_ch 43 (z_nu (t w 7) (z_ch 32 (z_bS (t w) (z_bA (t w)))))) := t7
    have o7 : ∀ a, a ≠ 226 → a ≠ 228 → q_apC 226 43 σ15 a = σ15 a := o7
    generalize q_apC 226 43 σ15 = σ18 at t7 o7 ⊢
    have e18 : σ18 (0 + 2 + 3 * w) 9 = nI (t w 5) := by rw [o7 _ (by omega) (by omega), f15 _ (by omega) (by omega)]; exact hT.pn
    rw [e18]
    obtain ⟨a8, n8, t8, o8⟩ := z_apI t7 (show (z_bS (t w) (z_bA (t w))).1 + 1 + sb_dg (t w 7) + 1 < 100 by omega) (v := t w 5) (by omega)
    exact ⟨⟨a1, n2, a2, a3, a4, a5, n6', a6, fun q => absurd q c1, fun _ => ⟨a7, n8, a8, trivial⟩⟩, _, by rw [t8.1], t8, fun a x1 x2 => by rw [o8 a x1 x2, o7 a x1 x2, f15 a x1 x2]⟩
