/-! isWell, in numbers. -/
theorem z_i1 {P Q : Prop} [Decidable P] [Decidable Q] (h : P ↔ Q) : (if P then (1 : Int32) else 0) = nI (if Q then 1 else 0) := by
  by_cases q : Q
  · rw [if_pos q, if_pos (h.mpr q)]; rfl
  · rw [if_neg q, if_neg (fun z => q (h.mp z))]; rfl
theorem a_group {k : Nat} {σ : q_M} {b : Nat → Nat} {t : Nat → Nat → Nat} (hR : z_R σ 0 b t) (hV : z_V k b t) (hk : k ≤ 20000) {w : Nat} (hw : w < b 3) : P_L_group (nI w) σ ∧ F_L_group (nI w) σ = nI (z_gp (t w)) := by
  obtain ⟨qt, et⟩ := a_timeOf hR hV hw
  obtain ⟨qr, er⟩ := a_isRunning hR hV hw
  obtain ⟨qs, es⟩ := a_started hR hV
  have hb := hV.bg
  have hck := hV.ck
  have hW := hV.te w hw
  have un := hW.un
  have e6 := hW.2.2.2.2.2.2
  have hst := hW.st
  have h18 := hW.tm
  by_cases h2 : t w 6 = 2
  · rw [if_pos h2] at et
    have n0 : ¬ nI (t w 18) < 0 := nI_pos (by omega)
    constructor
    · refine ⟨qt, fun x1 h1 => ?_⟩
      rw [et] at h1
      subst h1
      exact ⟨fun q => absurd q n0, fun _ => trivial⟩
    · refine (q_Lr et).trans ((if_neg n0).trans ?_)
      unfold z_gp
      rw [if_pos h2]
      rfl
  · rw [if_neg h2] at et
    have n0 : (-900002 : Int32) < 0 := by decide
    by_cases h1 : t w 6 = 1
    · rw [if_pos h1] at er
      constructor
      · refine ⟨qt, fun x1 e1 => ?_⟩
        rw [et] at e1
        subst e1
        refine ⟨fun _ => ⟨qr, fun x4 e4 => ?_⟩, fun q => absurd n0 q⟩
        rw [er] at e4
        subst e4
        exact ⟨fun q => absurd q (by decide), fun _ => trivial⟩
      · refine (q_Lr et).trans ((if_pos n0).trans ((q_Lr er).trans ((if_neg (by decide)).trans ?_)))
        unfold z_gp
        rw [if_neg h2, if_neg (by omega)]
        rfl
    · rw [if_neg h1] at er
      constructor
      · refine ⟨qt, fun x1 e1 => ?_⟩
        rw [et] at e1
        subst e1
        refine ⟨fun _ => ⟨qr, fun x4 e4 => ?_⟩, fun q => absurd n0 q⟩
        rw [er] at e4
        subst e4
        exact ⟨fun _ => ⟨qs, trivial⟩, fun q => absurd rfl q⟩
      · refine (q_Lr et).trans ((if_pos n0).trans ((q_Lr er).trans ((if_pos rfl).trans ((q_Lr es).trans ?_))))
        by_cases hb0 : b 1 = 0
        · obtain ⟨u1, -, -⟩ := un hb0
          rw [hb0]
          refine (if_pos (show nI 0 = 0 from rfl)).trans ?_
          unfold z_gp
          rw [if_neg h2, if_neg (by omega)]
          rfl
        · have h3 : t w 6 = 3 := by
            have : t w 6 ≠ 0 := fun q => hb0 (e6 q)
            omega
          refine (if_neg (nI_ne0 (by omega) (by omega))).trans ?_
          unfold z_gp
          rw [if_neg h2, if_pos h3]
          rfl
theorem a_ahead {k : Nat} {σ : q_M} {b : Nat → Nat} {t : Nat → Nat → Nat} (hR : z_R σ 0 b t) (hV : z_V k b t) (hk : k ≤ 20000) {i j : Nat} (hi : i < b 3) (hj : j < b 3) : P_L_isAhead (nI i) (nI j) σ ∧ F_L_isAhead (nI i) (nI j) σ = nI (z_ah (t i) (t j)) := by
  obtain ⟨pi, gi⟩ := a_group hR hV hk hi
  obtain ⟨pj, gj⟩ := a_group hR hV hk hj
  obtain ⟨b1, b2⟩ := z_lab (hV.te i hi) (hV.te j hj) hV.l1 hk hV.ck
  obtain ⟨ppi, epi⟩ := a_positionOf hR hV hi
  obtain ⟨ppj, epj⟩ := a_positionOf hR hV hj
  obtain ⟨pli, eli⟩ := a_laneOf hR hV hi
  obtain ⟨plj, elj⟩ := a_laneOf hR hV hj
  have l4i := (hV.te i hi).ln
  have l4j := (hV.te j hj).ln
  have g2i := z_gp2 (t i)
  have g2j := z_gp2 (t j)
  have s0 : (nI (z_gp (t j)) - nI (z_gp (t i)) = 0) = (z_gp (t j) = z_gp (t i)) := z_sb0 (by omega) (by omega)
  have z0 : (nI (z_gp (t i)) = 0) = (t i 6 = 2) := by
    rw [z_l0, z_eq (by omega) (by decide)]
    unfold z_gp
    by_cases a : t i 6 = 2
    · rw [if_pos a]; simp [a]
    · rw [if_neg a]
      by_cases c : t i 6 = 3
      · rw [if_pos c]; simp [a]
      · rw [if_neg c]; simp [a]
  have hfin : z_gp (t i) = z_gp (t j) → t i 6 = 2 → t j 6 = 2 := by
    intro e a
    unfold z_gp at e
    rw [if_pos a] at e
    by_cases c : t j 6 = 2
    · exact c
    · rw [if_neg c] at e
      split at e <;> omega
  have e11 : z_gp (t i) = z_gp (t j) → (if nI (z_gp (t i)) = 0 then ((W_resultOf (nI j) σ) - (W_resultOf (nI i) σ)) else ((F_N8_positionOf (nI i) σ) - (F_N8_positionOf (nI j) σ))) = nI (z_la (t i) (t j)) - nI (z_lb (t i) (t j)) := by
    intro e
    unfold z_la z_lb
    by_cases a : t i 6 = 2
    · rw [if_pos (by rw [z0]; exact a), if_pos a, if_pos a, (a_resultOf hR hV hi a).2, (a_resultOf hR hV hj (hfin e a)).2]
    · rw [if_neg (by rw [z0]; exact a), if_neg a, if_neg a, epi, epj]
  constructor
  · refine ⟨pj, fun x1 h1 => ?_⟩
    rw [gj] at h1
    subst h1
    refine ⟨pi, fun x3 h3 => ?_⟩
    rw [gi] at h3
    subst h3
    intro x5 h5
    subst h5
    refine ⟨fun q => ⟨pi, fun x8 h8 => ?_⟩, fun _ => trivial⟩
    rw [s0] at q
    rw [gi] at h8
    subst h8
    refine ⟨⟨fun a => ?_, fun _ => ⟨ppi, ppj, trivial⟩⟩, fun x11 _ => ⟨fun _ => ⟨pli, fun x14 _ => ⟨plj, trivial⟩⟩, fun _ => trivial⟩⟩
    rw [z0] at a
    exact ⟨(a_resultOf hR hV hj (hfin q.symm a)).1, (a_resultOf hR hV hi a).1, trivial⟩
  · refine (q_Lr gj).trans ((q_Lr gi).trans ((q_Lr rfl).trans ?_))
    unfold z_ah
    by_cases hg : z_gp (t i) = z_gp (t j)
    · rw [if_pos hg]
      refine (if_pos (by rw [s0]; exact hg.symm)).trans ((q_Lr gi).trans ((q_Lr (e11 hg)).trans ?_))
      by_cases hl : z_la (t i) (t j) = z_lb (t i) (t j)
      · rw [if_pos hl]
        refine (if_pos (by rw [z_sb0 b1 b2]; exact hl)).trans ((q_Lr eli).trans ((q_Lr elj).trans ?_))
        exact z_i1 (nI_ltI (by omega) (by omega))
      · rw [if_neg hl]
        refine (if_neg (by rw [z_sb0 b1 b2]; exact hl)).trans ?_
        exact z_i1 (by rw [z_sbl b1 b2])
    · rw [if_neg hg]
      refine (if_neg (by rw [s0]; exact fun q => hg q.symm)).trans ?_
      exact z_i1 (by rw [z_sbl (by omega) (by omega)])
theorem w_222 {k : Nat} {σ : q_M} {b : Nat → Nat} {t : Nat → Nat → Nat} (hR : z_R σ 0 b t) (hV : z_V k b t) (hk : k ≤ 20000) {w : Nat} (hw : w < b 3) (x19 x24 x29 x4 x8 x10 y32 x12 x37 : Int32) : ∀ (nn j a : Nat), nn + j = 7 → j ≤ b 3 → PL_L_isWell_222 x19 x24 x29 (nI w) x4 x8 x10 y32 x12 x37 nn (nI a) (nI j) σ ∧ FL_L_isWell_222 x19 x24 x29 (nI w) x4 x8 x10 y32 x12 x37 nn (nI a) (nI j) σ = nI (a + z_sm (fun i => z_ah (t i) (t w)) j (b 3 - j)) := by
  have n6 := hV.n6
  intro nn
  induction nn with
  | zero => intro j a h1 h2; omega
  | succ nn ih =>
    intro j a h1 h2
    obtain ⟨pc, ec⟩ := a_count hR hV
    rcases Nat.lt_or_ge j (b 3) with hj | hj
    · have c : nI j < nI (b 3) := nI_lt hj (by omega)
      obtain ⟨pa, ea⟩ := a_ahead hR hV hk hj hw
      have e93 : (if nI j = nI w then (0 : Int32) else (if F_L_isAhead (nI j) (nI w) σ = 0 then 0 else 1)) = nI (z_ah (t j) (t w)) := by
        by_cases e : j = w
        · subst e
          rw [if_pos rfl, z_ahs]
          rfl
        · rw [if_neg (fun q => e ((nI_eq (by omega) (by omega)).mp q)), ea]
          have := z_ah1 (t j) (t w)
          rcases (show z_ah (t j) (t w) = 0 ∨ z_ah (t j) (t w) = 1 by omega) with z | z <;> rw [z] <;> rfl
      obtain ⟨q1, q2⟩ := ih (j + 1) (a + z_ah (t j) (t w)) (by omega) (by omega)
      have es : z_sm (fun i => z_ah (t i) (t w)) j (b 3 - j) = z_ah (t j) (t w) + z_sm (fun i => z_ah (t i) (t w)) (j + 1) (b 3 - (j + 1)) := by
        rw [show b 3 - j = (b 3 - (j + 1)) + 1 by omega]
        rfl
      constructor
      · refine ⟨pc, fun x88 h88 => ?_⟩
        rw [ec] at h88
        subst h88
        refine ⟨fun _ => ⟨⟨fun _ => trivial, fun _ => ⟨pa, trivial⟩⟩, fun x93 h93 => ?_⟩, fun q => absurd c q⟩
        rw [e93] at h93
        subst h93
        intro x95 h95
        rw [z_add] at h95
        subst h95
        rw [nI_1]
        exact q1
      · refine (q_Lr ec).trans ((if_pos c).trans ((q_Lr e93).trans ((q_Lr (z_add _ _)).trans ?_)))
        rw [nI_1, q2, es, Nat.add_assoc]
    · obtain rfl : j = b 3 := by omega
      have c : ¬ nI (b 3) < nI (b 3) := nI_nlt (Nat.le_refl _) (by omega)
      constructor
      · refine ⟨pc, fun x88 h88 => ?_⟩
        rw [ec] at h88
        subst h88
        exact ⟨fun q => absurd q c, fun _ => trivial⟩
      · refine (q_Lr ec).trans ((if_neg c).trans ?_)
        rw [Nat.sub_self]
        rfl
theorem w_tl {k : Nat} {σ : q_M} {b : Nat → Nat} {t : Nat → Nat → Nat} (hR : z_R σ 0 b t) (hV : z_V k b t) (hk : k ≤ 20000) {w : Nat} (hw : w < b 3) : (W_timeOf (nI w) σ < 0) = (t w 6 ≠ 2) := by
  have hck := hV.ck
  have h18 := (hV.te w hw).tm
  rw [(a_timeOf hR hV hw).2]
  by_cases a : t w 6 = 2
  · rw [if_pos a]
    exact propext ⟨fun q => absurd q (nI_pos (by omega)), fun q => absurd a q⟩
  · rw [if_neg a]
    exact propext ⟨fun _ => a, fun _ => by decide⟩
theorem w_103 {k : Nat} {σ : q_M} {b : Nat → Nat} {t : Nat → Nat → Nat} (hR : z_R σ 0 b t) (hV : z_V k b t) (hk : k ≤ 20000) {w : Nat} (hw : w < b 3) (x19 x24 x29 x8 x10 : Int32) : ∀ (nn j a : Nat), nn + j = 5 → j ≤ 4 → PL_L_isWell_103 x19 x24 x29 (nI w) (nI (t w 8)) x8 x10 (W_timeOf (nI w) σ) nn (nI a) (nI j) σ ∧ FL_L_isWell_103 x19 x24 x29 (nI w) (nI (t w 8)) x8 x10 (W_timeOf (nI w) σ) nn (nI a) (nI j) σ = nI (a + z_sm (z_sp (t w)) j (4 - j)) := by
  have hck := hV.ck
  have hW := hV.te w hw
  have h8 := hW.lg
  have tl := w_tl hR hV hk hw
  generalize W_timeOf (nI w) σ = x12 at tl ⊢
  intro nn
  induction nn with
  | zero => intro j a h1 h2; omega
  | succ nn ih =>
    intro j a h1 h2
    have e4 : (4 : Int32) = nI 4 := rfl
    rcases Nat.lt_or_ge j 4 with hj | hj
    · have c : nI j < 4 := by rw [e4]; exact nI_lt hj (by decide)
      obtain ⟨qs, es⟩ := a_splitOf hR hV hw hj
      have hs := hW.sl j hj
      have hfi := hW.fi
      have hb : t w (14 + j) - 1 < 2 ^ 31 := by omega
      have m0 : (W_splitOf (nI w) (nI j) σ < 0) = ¬ 1 ≤ t w (14 + j) := by
        rw [es]
        by_cases q : 1 ≤ t w (14 + j)
        · rw [if_pos q]
          exact propext ⟨fun z => absurd z (nI_pos hb), fun z => absurd q z⟩
        · rw [if_neg q]
          exact propext ⟨fun _ => q, fun _ => by decide⟩
      have e81 : (if W_splitOf (nI w) (nI j) σ < 0 then 0 else W_splitOf (nI w) (nI j) σ) = nI (z_sp (t w) j) := by
        unfold z_sp
        by_cases q : 1 ≤ t w (14 + j)
        · rw [if_neg (by rw [m0]; exact fun z => z q), es, if_pos q]
        · rw [if_pos (by rw [m0]; exact q), show t w (14 + j) - 1 = 0 by omega]
          rfl
      have e78 : (if W_splitOf (nI w) (nI j) σ < 0 then (0 : Int32) else 1) = (if nI j < nI (t w 8) then 1 else (if nI j = 3 then (if x12 < 0 then 0 else 1) else 0)) := by
        have l8 : (nI j < nI (t w 8)) = (j < t w 8) := z_lt (by omega) (by omega)
        have l3 : (nI j = 3) = (j = 3) := by rw [z_l3, z_eq (by omega) (by decide)]
        by_cases q : 1 ≤ t w (14 + j)
        · rw [if_neg (by rw [m0]; exact fun z => z q)]
          by_cases a8 : j < t w 8
          · rw [if_pos (by rw [l8]; exact a8)]
          · have a2 : t w 6 = 2 := by
              rcases hs.2.mp q with z | z
              · exact absurd z a8
              · exact z
            have := hfi a2
            rw [if_neg (by rw [l8]; exact a8), if_pos (by rw [l3]; omega), if_neg (by rw [tl]; exact fun z => z a2)]
        · have a8 : ¬ j < t w 8 := fun z => q (hs.2.mpr (.inl z))
          have a2 : t w 6 ≠ 2 := fun z => q (hs.2.mpr (.inr z))
          rw [if_pos (by rw [m0]; exact q), if_neg (by rw [l8]; exact a8)]
          by_cases a3 : j = 3
          · rw [if_pos (by rw [l3]; exact a3), if_pos (by rw [tl]; exact a2)]
          · rw [if_neg (by rw [l3]; exact a3)]
      obtain ⟨q1, q2⟩ := ih (j + 1) (a + z_sp (t w) j) (by omega) (by omega)
      have ez : z_sm (z_sp (t w)) j (4 - j) = z_sp (t w) j + z_sm (z_sp (t w)) (j + 1) (4 - (j + 1)) := by
        rw [show 4 - j = (4 - (j + 1)) + 1 by omega]
        rfl
      constructor
      · refine ⟨fun _ => ⟨qs, fun x73 h73 => ?_⟩, fun q => absurd c q⟩
        subst h73
        refine ⟨trivial, fun x78 h78 => ⟨trivial, fun x81 h81 => ?_⟩⟩
        rw [e81] at h81
        subst h81
        intro x83 h83
        rw [z_add] at h83
        subst h83
        refine ⟨trivial, fun x86 h86 => ⟨?_, ?_⟩⟩
        · rw [← h86, ← h78]
          exact e78
        · rw [nI_1]
          exact q1
      · refine (if_pos c).trans ((q_Lr rfl).trans ((q_Lr rfl).trans ((q_Lr e81).trans ((q_Lr (z_add _ _)).trans ((q_Lr rfl).trans ?_)))))
        rw [nI_1, q2, ez, Nat.add_assoc]
    · obtain rfl : j = 4 := by omega
      have c : ¬ nI 4 < 4 := by rw [e4]; exact nI_nlt (Nat.le_refl _) (by decide)
      exact ⟨⟨fun q => absurd q c, fun _ => trivial⟩, (if_neg c).trans rfl⟩
