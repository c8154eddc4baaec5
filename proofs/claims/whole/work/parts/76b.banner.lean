/-! The model's banner. -/
theorem z_qL {α β : Type} (x : α) (f : α → β) : q_L x f = f x := (Eq.refl (f x)).trans (Eq.refl (f x))
def z_mF (t x4 : Int32) (σ14 : q_M) : Int32 × q_M := if x4 = 1 then q_L (F_X9_number9 (F_X9_of t 8 σ14) σ14) (fun σ17 : q_M => z_eF t σ17) else if x4 = 2 then q_L (F_X9_number9 (F_X9_result t σ14) σ14) (fun σ29 : q_M => z_eF t σ29) else z_eF t σ14
def z_mP (t x4 : Int32) (σ14 : q_M) : Prop := (x4 = 1 → (P_X9_of t 8 σ14 ∧ (P_X9_number9 (F_X9_of t 8 σ14) σ14 ∧ (∀ σ17 : q_M, F_X9_number9 (F_X9_of t 8 σ14) σ14 = σ17 → z_eP t σ17)))) ∧ (¬ x4 = 1 → ((x4 = 2 → (P_X9_result t σ14 ∧ (P_X9_number9 (F_X9_result t σ14) σ14 ∧ (∀ σ29 : q_M, F_X9_number9 (F_X9_result t σ14) σ14 = σ29 → z_eP t σ29)))) ∧ (¬ x4 = 2 → z_eP t σ14)))
theorem z_wbP {t : Int32} {τ σ2 σ6 σ8 σ10 σ12 σ14 : q_M} {x4 : Int32} (h0 : F_X9_isTeam t τ = 1) (h2 : q_up τ 229 5 0 = σ2) (p2 : P_X9_of t 6 σ2) (h4 : F_X9_of t 6 σ2 = x4) (h6 : q_up σ2 229 13 0 = σ6) (p6 : P_X9_puts 76 σ6) (h8 : F_X9_puts 76 σ6 = σ8) (p8 : P_X9_of t 4 σ8) (p8' : P_X9_number9 (F_X9_of t 4 σ8) σ8) (h10 : F_X9_number9 (F_X9_of t 4 σ8) σ8 = σ10) (p10 : P_X9_puts 32 σ10) (h12 : F_X9_puts 32 σ10 = σ12) (v : vp_in x4 (q_sl.getD 8 0)) (p12 : P_X9_puts (q_ch 8 x4.toNatClampNeg) σ12) (h14 : F_X9_puts (q_ch 8 x4.toNatClampNeg) σ12 = σ14) (p14 : z_mP t x4 σ14) : P_X9_writeBanner t τ := by
  unfold z_mP z_eP at p14
  unfold P_X9_writeBanner
  refine ⟨fun _ => trivial, fun _ s2 e2 => ?_⟩
  obtain rfl := h2.symm.trans e2
  refine ⟨p2, fun x4' e4 => ?_⟩
  obtain rfl := h4.symm.trans e4
  intro s6 e6
  obtain rfl := h6.symm.trans e6
  refine ⟨p6, fun s8 e8 => ?_⟩
  obtain rfl := h8.symm.trans e8
  refine ⟨p8, p8', fun s10 e10 => ?_⟩
  obtain rfl := h10.symm.trans e10
  refine ⟨p10, fun s12 e12 => ?_⟩
  obtain rfl := h12.symm.trans e12
  refine ⟨v, p12, fun s14 e14 => ?_⟩
  obtain rfl := h14.symm.trans e14
  exact p14
theorem z_wbF {t : Int32} {τ σ2 σ6 σ8 σ10 σ12 σ14 : q_M} {x4 : Int32} (h0 : F_X9_isTeam t τ = 1) (h2 : q_up τ 229 5 0 = σ2) (h4 : F_X9_of t 6 σ2 = x4) (h6 : q_up σ2 229 13 0 = σ6) (h8 : F_X9_puts 76 σ6 = σ8) (h10 : F_X9_number9 (F_X9_of t 4 σ8) σ8 = σ10) (h12 : F_X9_puts 32 σ10 = σ12) (h14 : F_X9_puts (q_ch 8 x4.toNatClampNeg) σ12 = σ14) : F_X9_writeBanner t τ = z_mF t x4 σ14 := by
  subst h2 h4 h6 h8 h10 h12 h14
  unfold F_X9_writeBanner z_mF z_eF
  rw [h0, if_neg (by decide)]
  rfl
theorem z_sl8 : q_sl.getD 8 0 = 4 := by decide +kernel
theorem z_ch8 : ∀ i, i < 4 → q_ch 8 i = nI (if i = 1 then 114 else if i = 2 then 102 else if i = 3 then 119 else 45) := by decide +kernel
theorem z_mM1 {k w : Nat} {σ14 : q_M} {b : Nat → Nat} {t : Nat → Nat → Nat} (hM14 : z_M σ14 b t) (hV : z_V k b t) (hk : k ≤ 20000) (hw : w < b 3) (t4 : z_tx σ14 229 13 234 (z_ch (if t w 6 = 1 then 114 else if t w 6 = 2 then 102 else if t w 6 = 3 then 119 else 45) (z_bA (t w)))) (c1 : t w 6 = 1) : z_mP (nI w) (nI (t w 6)) σ14 ∧ (z_mF (nI w) (nI (t w 6)) σ14).1 = nI (z_bT (t w)).1 ∧ z_tx (z_mF (nI w) (nI (t w 6)) σ14).2 229 13 234 (z_bT (t w)) ∧ z_bf σ14 (z_mF (nI w) (nI (t w 6)) σ14).2 := by
  have n6 := hV.n6
  have h6 : w < 6 := by omega
  have hW := hV.te w hw
  have hst := hW.st
  have h8 := hW.lg
  have h18 := hW.tm
  have hck := hV.ck
  have h5 := hW.pn
  have nA := z_bAn hW
  have nS := z_bSn hW hk hck (z_bA (t w))
  have e1 : (nI (t w 6) = 1) = (t w 6 = 1) := by rw [z_l1, z_eq (by omega) (by decide)]
  have e2 : (nI (t w 6) = 2) = (t w 6 = 2) := by rw [z_l2, z_eq (by omega) (by decide)]
  unfold z_mP z_mF z_bT
  simp only [e1, e2, hM14.o8 h6, z_qL]
  rw [if_pos c1] at t4
  rw [if_pos c1]
  have hs : (z_ch 114 (z_bA (t w))).1 + sb_dg (t w 8) ≤ 40 := by
    rw [z_dg1 (show t w 8 < 10 by omega)]
    show (z_bA (t w)).1 + 1 + 1 ≤ 40
    omega
  obtain ⟨p5, t5, o5⟩ := z_n9 (v := t w 8) t4 (by omega) hs
  have eS : z_bS (t w) (z_bA (t w)) = z_nu (t w 8) (z_ch 114 (z_bA (t w))) := by unfold z_bS; rw [if_pos c1]
  rw [← eS] at t5
  obtain ⟨q1, q2, q3, q4⟩ := z_enM (hM14.off (o5.1 230 (by decide) (by decide))) hV hk hw t5 (by omega)
  exact ⟨⟨fun _ => ⟨z_p8 h6, p5, fun σ17 h17 => by subst h17; exact q1⟩, fun q => absurd c1 q⟩, q2, q3, o5.tr q4⟩
theorem z_mM2 {k w : Nat} {σ14 : q_M} {b : Nat → Nat} {t : Nat → Nat → Nat} (hM14 : z_M σ14 b t) (hV : z_V k b t) (hk : k ≤ 20000) (hw : w < b 3) (t4 : z_tx σ14 229 13 234 (z_ch (if t w 6 = 1 then 114 else if t w 6 = 2 then 102 else if t w 6 = 3 then 119 else 45) (z_bA (t w)))) (c1 : ¬ t w 6 = 1) (c2 : t w 6 = 2) : z_mP (nI w) (nI (t w 6)) σ14 ∧ (z_mF (nI w) (nI (t w 6)) σ14).1 = nI (z_bT (t w)).1 ∧ z_tx (z_mF (nI w) (nI (t w 6)) σ14).2 229 13 234 (z_bT (t w)) ∧ z_bf σ14 (z_mF (nI w) (nI (t w 6)) σ14).2 := by
  have n6 := hV.n6
  have h6 : w < 6 := by omega
  have hW := hV.te w hw
  have hst := hW.st
  have h8 := hW.lg
  have h18 := hW.tm
  have hck := hV.ck
  have h5 := hW.pn
  have nA := z_bAn hW
  have nS := z_bSn hW hk hck (z_bA (t w))
  have e1 : (nI (t w 6) = 1) = (t w 6 = 1) := by rw [z_l1, z_eq (by omega) (by decide)]
  have e2 : (nI (t w 6) = 2) = (t w 6 = 2) := by rw [z_l2, z_eq (by omega) (by decide)]
  unfold z_mP z_mF z_bT
  simp only [e1, e2, hM14.o8 h6, z_qL]
  rw [if_neg c1] at t4
  rw [if_neg c1]
  rw [if_pos c2] at t4
  rw [if_pos c2]
  have er : F_X9_result (nI w) σ14 = nI (t w 18 + t w 5) := by unfold F_X9_result; rw [hM14.o18 h6, hM14.o5 h6, z_add]
  rw [er]
  have d7 := z_dgL (v := t w 18 + t w 5) (m := 7) (by omega)
  have hs : (z_ch 102 (z_bA (t w))).1 + sb_dg (t w 18 + t w 5) ≤ 40 := by
    show (z_bA (t w)).1 + 1 + sb_dg (t w 18 + t w 5) ≤ 40
    omega
  obtain ⟨p5, t5, o5⟩ := z_n9 (v := t w 18 + t w 5) t4 (by omega) hs
  have eS : z_bS (t w) (z_bA (t w)) = z_nu (t w 18 + t w 5) (z_ch 102 (z_bA (t w))) := by unfold z_bS; rw [if_neg c1, if_pos c2]
  rw [← eS] at t5
  obtain ⟨q1, q2, q3, q4⟩ := z_enM (hM14.off (o5.1 230 (by decide) (by decide))) hV hk hw t5 (by omega)
  exact ⟨⟨fun q => absurd q c1, fun _ => ⟨fun _ => ⟨⟨z_p18 h6, z_p5 h6, trivial⟩, p5, fun σ29 h29 => by subst h29; exact q1⟩, fun q => absurd c2 q⟩⟩, q2, q3, o5.tr q4⟩
theorem z_mM3 {k w : Nat} {σ14 : q_M} {b : Nat → Nat} {t : Nat → Nat → Nat} (hM14 : z_M σ14 b t) (hV : z_V k b t) (hk : k ≤ 20000) (hw : w < b 3) (t4 : z_tx σ14 229 13 234 (z_ch (if t w 6 = 1 then 114 else if t w 6 = 2 then 102 else if t w 6 = 3 then 119 else 45) (z_bA (t w)))) (c1 : ¬ t w 6 = 1) (c2 : ¬ t w 6 = 2) : z_mP (nI w) (nI (t w 6)) σ14 ∧ (z_mF (nI w) (nI (t w 6)) σ14).1 = nI (z_bT (t w)).1 ∧ z_tx (z_mF (nI w) (nI (t w 6)) σ14).2 229 13 234 (z_bT (t w)) ∧ z_bf σ14 (z_mF (nI w) (nI (t w 6)) σ14).2 := by
  have n6 := hV.n6
  have h6 : w < 6 := by omega
  have hW := hV.te w hw
  have hst := hW.st
  have h8 := hW.lg
  have h18 := hW.tm
  have hck := hV.ck
  have h5 := hW.pn
  have nA := z_bAn hW
  have nS := z_bSn hW hk hck (z_bA (t w))
  have e1 : (nI (t w 6) = 1) = (t w 6 = 1) := by rw [z_l1, z_eq (by omega) (by decide)]
  have e2 : (nI (t w 6) = 2) = (t w 6 = 2) := by rw [z_l2, z_eq (by omega) (by decide)]
  unfold z_mP z_mF z_bT
  simp only [e1, e2, hM14.o8 h6, z_qL]
  rw [if_neg c1] at t4
  rw [if_neg c1]
  rw [if_neg c2] at t4
  rw [if_neg c2]
  have eS : z_bS (t w) (z_bA (t w)) = z_ch (if t w 6 = 3 then 119 else 45) (z_bA (t w)) := by unfold z_bS; rw [if_neg c1, if_neg c2]
  rw [← eS] at t4
  obtain ⟨q1, q2, q3, q4⟩ := z_enM hM14 hV hk hw t4 (by omega)
  exact ⟨⟨fun q => absurd q c1, fun _ => ⟨fun q => absurd q c2, fun _ => q1⟩⟩, q2, q3, q4⟩
theorem z_mM {k w : Nat} {σ14 : q_M} {b : Nat → Nat} {t : Nat → Nat → Nat} (hM14 : z_M σ14 b t) (hV : z_V k b t) (hk : k ≤ 20000) (hw : w < b 3) (t4 : z_tx σ14 229 13 234 (z_ch (if t w 6 = 1 then 114 else if t w 6 = 2 then 102 else if t w 6 = 3 then 119 else 45) (z_bA (t w)))) : z_mP (nI w) (nI (t w 6)) σ14 ∧ (z_mF (nI w) (nI (t w 6)) σ14).1 = nI (z_bT (t w)).1 ∧ z_tx (z_mF (nI w) (nI (t w 6)) σ14).2 229 13 234 (z_bT (t w)) ∧ z_bf σ14 (z_mF (nI w) (nI (t w 6)) σ14).2 := by
  by_cases c1 : t w 6 = 1
  · exact z_mM1 hM14 hV hk hw t4 c1
  · by_cases c2 : t w 6 = 2
    · exact z_mM2 hM14 hV hk hw t4 c1 c2
    · exact z_mM3 hM14 hV hk hw t4 c1 c2
theorem z_wbM {k w : Nat} {τ : q_M} {b : Nat → Nat} {t : Nat → Nat → Nat} (hM : z_M τ b t) (hV : z_V k b t) (hk : k ≤ 20000) (hw : w < b 3) : P_X9_writeBanner (nI w) τ ∧ (F_X9_writeBanner (nI w) τ).1 = nI (z_bT (t w)).1 ∧ z_tx (F_X9_writeBanner (nI w) τ).2 229 13 234 (z_bT (t w)) ∧ z_bf (q_up τ 229 5 0) (F_X9_writeBanner (nI w) τ).2 := by
  have n6 := hV.n6
  have h6 : w < 6 := by omega
  have hW := hV.te w hw
  have hst := hW.st
  have h4 := hW.ln
  have hM0 : z_M (q_up τ 229 5 0) b t := hM.u9
  generalize hσ2 : q_up τ 229 5 0 = σ2 at hM0 ⊢
  have t0 : z_tx (q_up σ2 229 13 0) 229 13 234 (0, fun _ => 0) := ⟨q_up_eq _ _ _ _, fun i hi => absurd hi (Nat.not_lt_zero i)⟩
  have o0 : z_bf σ2 (q_up σ2 229 13 0) := ⟨fun a x1 _ => q_up_off x1, fun j hj => q_up_nj hj⟩
  generalize hσ6 : q_up σ2 229 13 0 = σ6 at t0 o0
  obtain ⟨p1, t1, o1⟩ := z_puts t0 (by decide) 76
  have p1 : P_X9_puts 76 σ6 := p1
  have t1 : z_tx (F_X9_puts 76 σ6) 229 13 234 (z_ch 76 (0, fun _ => 0)) := t1
  have o1 : z_bf σ6 (F_X9_puts 76 σ6) := o1
  generalize hσ8 : F_X9_puts 76 σ6 = σ8 at t1 o1
  have hM8 : z_M σ8 b t := hM0.off (by rw [o1.1 230 (by decide) (by decide), o0.1 230 (by decide) (by decide)])
  have d4 := z_dg1 (show t w 4 < 10 by omega)
  obtain ⟨p2, t2, o2⟩ := z_n9 (v := t w 4) t1 (by omega) (show 0 + 1 + sb_dg (t w 4) ≤ 40 by omega)
  rw [← hM8.o4 h6] at p2 t2 o2
  generalize hσ10 : F_X9_number9 (F_X9_of (nI w) 4 σ8) σ8 = σ10 at t2 o2
  obtain ⟨p3, t3, o3⟩ := z_puts t2 (show 0 + 1 + sb_dg (t w 4) < 40 by omega) 32
  have p3 : P_X9_puts 32 σ10 := p3
  have t3 : z_tx (F_X9_puts 32 σ10) 229 13 234 (z_bA (t w)) := t3
  have o3 : z_bf σ10 (F_X9_puts 32 σ10) := o3
  generalize hσ12 : F_X9_puts 32 σ10 = σ12 at t3 o3
  have nA := z_bAn hW
  have ec : q_ch 8 (nI (t w 6)).toNatClampNeg = nI (if t w 6 = 1 then 114 else if t w 6 = 2 then 102 else if t w 6 = 3 then 119 else 45) := by
    rw [nI_clamp (by omega)]
    exact z_ch8 _ (by omega)
  obtain ⟨p4, t4, o4⟩ := z_puts t3 (by omega) (if t w 6 = 1 then 114 else if t w 6 = 2 then 102 else if t w 6 = 3 then 119 else 45)
  rw [← ec] at p4 t4 o4
  generalize hσ14 : F_X9_puts (q_ch 8 (nI (t w 6)).toNatClampNeg) σ12 = σ14 at t4 o4
  have o14 : z_bf σ2 σ14 := (((o0.tr o1).tr o2).tr o3).tr o4
  have hM14 : z_M σ14 b t := hM0.off (o14.1 230 (by decide) (by decide))
  have hvp : vp_in (nI (t w 6)) (q_sl.getD 8 0) := by
    rw [z_sl8]
    exact vp_in_nI (by omega) (by decide)
  obtain ⟨m1, m2, m3, m4⟩ := z_mM hM14 hV hk hw t4
  have eF := z_wbF (z_isT hM hw n6) hσ2 (hM0.o6 h6) hσ6 hσ8 hσ10 hσ12 hσ14
  have eP := z_wbP (z_isT hM hw n6) hσ2 (z_p6 h6) (hM0.o6 h6) hσ6 p1 hσ8 (z_p4 h6) p2 hσ10 p3 hσ12 hvp p4 hσ14 m1
  rw [eF]
  exact ⟨eP, m2, m3, o14.tr m4⟩