/-! Reading a command in the class. -/
def z_pts : List (List Nat) := [[115, 116, 97, 114, 116], [114, 117, 110, 32, 78], [112, 97, 115, 115, 32, 68], [100, 114, 111, 112, 32, 68, 32, 78], [113, 117, 105, 116, 32, 68], [112, 114, 111, 116, 101, 115, 116, 32, 68, 68, 75], [115, 112, 101, 101, 100, 32, 68, 32, 68, 32, 78], [100, 114, 97, 119, 32, 78]]
def z_pt (i : Nat) : List Nat := z_pts.getD i []
theorem z_ptq : ∀ i, i < 8 → q_sl.getD i 0 = (z_pt i).length ∧ (∀ k, k < 14 → k < (z_pt i).length → q_ch i k = nI ((z_pt i).getD k 0)) ∧ (z_pt i).length < 14 ∧ z_ar (z_pt i) ≤ 3 ∧ ∀ c ∈ z_pt i, 0 < c ∧ c < 200 := by decide +kernel
theorem z_vx : ∀ i, i < 8 → (nI i + 20).toUInt32.toNat - 20 = i ∧ 20 ≤ (nI i + 20).toUInt32.toNat ∧ (nI i + 20).toUInt32.toNat < 28 := by decide +kernel
theorem z_rpL {n : Nat} {tx : Nat → Nat} (hn : n ≤ 60) (htx : ∀ i, i < n → tx i < 200) {w : Nat} (bb : Int32) : ∀ (l : List Nat) (k nn : Nat) (x : z_St) (σ : q_M), k + l.length < 14 → (∀ j, j < l.length → q_ch w (k + j) = nI (l.getD j 0)) → q_sl.getD w 0 = k + l.length → l.length < nn → z_tc σ n tx → z_rc σ x → x.1 ≤ n → x.2.1 + z_ar l ≤ 3 → (∀ c ∈ l, 0 < c ∧ c < 200) → PL_X3_readPattern_12 w bb nn (nI k) σ ∧ ∃ μ, FL_X3_readPattern_12 w bb nn (nI k) σ = (z_b (z_pm (z_cx n tx) l x).1, μ) ∧ z_rc μ (z_pm (z_cx n tx) l x).2 ∧ z_pf σ μ := by
  intro l
  induction l with
  | nil =>
    intro k nn x σ h14 hq hl hnn ht hx hp hm hc
    obtain ⟨nn, rfl⟩ : ∃ q, nn = q + 1 := ⟨nn - 1, by omega⟩
    have e : ¬ nI k < nI (q_sl.getD w 0) := by
      rw [hl]
      show ¬ nI k < nI (k + 0)
      rw [z_lt (by omega) (by omega)]
      omega
    unfold PL_X3_readPattern_12 FL_X3_readPattern_12
    rw [if_neg e]
    exact ⟨⟨fun q => absurd q e, fun _ => trivial⟩, σ, rfl, hx, z_pf.rf σ⟩
  | cons c l ih =>
    intro k nn x σ h14 hq hl hnn ht hx hp hm hc
    obtain ⟨nn, rfl⟩ : ∃ q, nn = q + 1 := ⟨nn - 1, by omega⟩
    have h14 : k + (l.length + 1) < 14 := h14
    have hl' : q_sl.getD w 0 = k + (l.length + 1) := hl
    have hnn : l.length + 1 < nn + 1 := hnn
    have e : nI k < nI (q_sl.getD w 0) := by
      rw [hl']
      exact nI_lt (by omega) (by omega)
    have hm : x.2.1 + ((if c = 68 ∨ c = 78 ∨ c = 75 then 1 else 0) + z_ar l) ≤ 3 := hm
    obtain ⟨hc0, hc1⟩ := hc c (List.mem_cons_self ..)
    have e0 : q_ch w (nI k).toNatClampNeg = nI c := by
      rw [nI_clamp (by omega)]
      exact hq 0 (Nat.succ_pos _)
    have ek : nI k + 1 = nI (k + 1) := by rw [z_l1, z_add]
    obtain ⟨s1, μ, s2, s3, s4⟩ := z_rsg ht hx hp hn htx hc0 hc1 (by omega)
    unfold PL_X3_readPattern_12 FL_X3_readPattern_12
    rw [if_pos e, e0, ek, z_pmc]
    simp only [s2, q_L, forall_eq']
    by_cases d : (z_sg1 (z_cx n tx) c x).1 = true
    · rw [z_b1' d, if_neg (by decide), if_pos d]
      have hI := z_sg1I (z_cx n tx) n z_cx0 hc0 x
      have hmm : (z_sg1 (z_cx n tx) c x).2.2.1 = x.2.1 + (if c = 68 ∨ c = 78 ∨ c = 75 then 1 else 0) := by
        unfold z_sg1 at d ⊢
        by_cases c1 : c = 68
        · rw [if_pos c1, if_pos (show c = 68 ∨ c = 78 ∨ c = 75 from .inl c1)]; rfl
        · rw [if_neg c1]
          by_cases c2 : c = 78
          · rw [if_pos c2, if_pos (show c = 68 ∨ c = 78 ∨ c = 75 from .inr (.inl c2))]; rfl
          · rw [if_neg c2]
            by_cases c3 : c = 75
            · rw [if_pos c3, if_pos (show c = 68 ∨ c = 78 ∨ c = 75 from .inr (.inr c3))]
              split
              · rfl
              · split <;> rfl
            · rw [if_neg c3, if_neg (show ¬ (c = 68 ∨ c = 78 ∨ c = 75) by omega)]
              split <;> rfl
      obtain ⟨q1, q2⟩ := ih (k + 1) nn (z_sg1 (z_cx n tx) c x).2 μ (by omega) (fun j hj => by
        have := hq (j + 1) (Nat.succ_lt_succ hj)
        rw [show k + 1 + j = k + (j + 1) by omega]
        exact this) (by omega) (by omega) (s4.tc ht) s3 (hI.2.1 hp) (by rw [hmm]; omega) (fun c' h => hc c' (List.mem_cons_of_mem _ h))
      obtain ⟨ν, r1, r2, r3⟩ := q2
      exact ⟨⟨fun _ => ⟨vp_in_nI (by omega) (by omega), s1, fun q => absurd q (by decide), fun _ => q1⟩, fun q => absurd e q⟩, ν, r1, r2, s4.tr r3⟩
    · rw [z_b0 d, if_pos rfl, if_neg d]
      exact ⟨⟨fun _ => ⟨vp_in_nI (by omega) (by omega), s1, fun _ => trivial, fun q => absurd rfl q⟩, fun q => absurd e q⟩, μ, by rw [z_b0 d], s3, s4⟩
abbrev z_x0 (p : Nat) : z_St := (p, 0, fun _ => 0)
theorem z_rp {n : Nat} {tx : Nat → Nat} (hn : n ≤ 60) (htx : ∀ i, i < n → tx i < 200) {i p : Nat} (hi : i < 8) (hp : p ≤ n) {σ : q_M} (ht : z_tc σ n tx) : P_X3_readPattern i (nI p) σ ∧ ∃ μ, F_X3_readPattern i (nI p) σ = (z_b (z_pm (z_cx n tx) (z_pt i) (z_x0 p)).1, μ) ∧ z_rc μ (z_pm (z_cx n tx) (z_pt i) (z_x0 p)).2 ∧ z_pf σ μ := by
  obtain ⟨h1, h2, h3, h4, h5⟩ := z_ptq i hi
  have hx : z_rc (q_up (q_up σ 223 3 (nI p)) 223 2 0) (z_x0 p) := ⟨by rw [q_up_nj (by decide), q_up_eq], q_up_eq _ _ _ _, fun j hj => absurd hj (Nat.not_lt_zero j)⟩
  have hf : z_pf σ (q_up (q_up σ 223 3 (nI p)) 223 2 0) := ⟨fun a a1 _ => by rw [q_up_off a1, q_up_off a1], fun j j2 j3 => by rw [q_up_nj j2, q_up_nj j3]⟩
  obtain ⟨q1, μ, q2, q3, q4⟩ := z_rpL hn htx (w := i) (nI p) (z_pt i) 0 14 (z_x0 p) _ (by omega) (fun j hj => by rw [Nat.zero_add]; exact h2 j (by omega) hj) (by rw [Nat.zero_add]; exact h1) h3 (hf.tc ht) hx hp (by show 0 + z_ar (z_pt i) ≤ 3; omega) h5
  unfold P_X3_readPattern F_X3_readPattern
  simp only [q_L, forall_eq']
  exact ⟨q1, μ, q2, q3, hf.tr q4⟩
def z_rd (s : Nat → Nat) (p : Nat) : List (List Nat) → Nat → Nat → Bool × Nat × z_St
  | [], i, f => (false, i, z_x0 f)
  | l :: ls, i, f => if (z_pm s l (z_x0 p)).1 = true then (true, i, (z_pm s l (z_x0 p)).2) else z_rd s p ls (i + 1) (max f (z_pm s l (z_x0 p)).2.1)
def z_cmd (s : Nat → Nat) (p : Nat) : Bool × Nat × z_St := z_rd s p z_pts 0 p
def z_qf (σ μ : q_M) : Prop := (∀ a, a ≠ 223 → a ≠ 224 → μ a = σ a) ∧ ∀ j, j ≠ 2 → j ≠ 3 → j ≠ 5 → μ 223 j = σ 223 j
theorem z_qf.tr {τ τ' τ'' : q_M} (h : z_qf τ τ') (h' : z_qf τ' τ'') : z_qf τ τ'' := ⟨fun a e1 e2 => (h'.1 a e1 e2).trans (h.1 a e1 e2), fun j e1 e2 e3 => (h'.2 j e1 e2 e3).trans (h.2 j e1 e2 e3)⟩
theorem z_pf.q {τ τ' : q_M} (h : z_pf τ τ') : z_qf τ τ' := ⟨h.1, fun j e1 e2 _ => h.2 j e1 e2⟩
theorem z_qf.tc {σ μ : q_M} {n : Nat} {tx : Nat → Nat} (h : z_qf σ μ) (ht : z_tc σ n tx) : z_tc μ n tx := ⟨by rw [h.1 225 (by decide) (by decide)]; exact ht.1, fun i hi => by rw [h.1 227 (by decide) (by decide)]; exact ht.2 i hi⟩
theorem z_mxx {f e : Nat} (hf : f < 2 ^ 31) (he : e < 2 ^ 31) : q_max (nI f) (nI e) = nI (max f e) := by
  unfold q_max
  simp only [z_lt hf he]
  by_cases c : f < e
  · rw [if_pos c, Nat.max_eq_right (by omega)]
  · rw [if_neg c, Nat.max_eq_left (by omega)]
theorem z_nxL {n : Nat} {tx : Nat → Nat} (hn : n ≤ 60) (htx : ∀ i, i < n → tx i < 200) {p : Nat} (hp : p ≤ n) : ∀ (ls : List (List Nat)) (i nn f : Nat) (σ : q_M), ls.length < nn → i + ls.length = 8 → (∀ j, j < ls.length → z_pt (i + j) = ls.getD j []) → f ≤ n → z_tc σ n tx → PL_X3_readNext_36 nn (nI p) (nI f) (nI i) σ ∧ ∃ μ, FL_X3_readNext_36 nn (nI p) (nI f) (nI i) σ = (z_b (z_rd (z_cx n tx) p ls i f).1, μ) ∧ μ 223 3 = nI (z_rd (z_cx n tx) p ls i f).2.2.1 ∧ ((z_rd (z_cx n tx) p ls i f).1 = true → z_rc μ (z_rd (z_cx n tx) p ls i f).2.2 ∧ μ 223 5 = nI (20 + (z_rd (z_cx n tx) p ls i f).2.1) ∧ (z_rd (z_cx n tx) p ls i f).2.1 < 8) ∧ z_qf σ μ := by
  intro ls
  induction ls with
  | nil =>
    intro i nn f σ hnn hi hpt hf ht
    obtain ⟨nn, rfl⟩ : ∃ q, nn = q + 1 := ⟨nn - 1, by omega⟩
    have hi : i + 0 = 8 := hi
    have e : ¬ nI i < 8 := by rw [show i = 8 by omega]; decide
    unfold PL_X3_readNext_36 FL_X3_readNext_36 q_L
    rw [if_neg e]
    exact ⟨⟨fun q => absurd q e, fun _ => trivial⟩, _, rfl, q_up_eq _ _ _ _, fun q => (by cases q), fun a a1 _ => q_up_off a1, fun j _ j3 _ => q_up_nj j3⟩
  | cons l ls ih =>
    intro i nn f σ hnn hi hpt hf ht
    obtain ⟨nn, rfl⟩ : ∃ q, nn = q + 1 := ⟨nn - 1, by omega⟩
    have hi : i + (ls.length + 1) = 8 := hi
    have hnn : ls.length + 1 < nn + 1 := hnn
    have hi8 : i < 8 := by omega
    have e : nI i < 8 := nI_lt (b := 8) hi8 (by decide)
    obtain ⟨v1, v2, v3⟩ := z_vx i hi8
    have ep : z_pt i = l := hpt 0 (Nat.succ_pos _)
    have e1 : nI i + 1 = nI (i + 1) := by rw [z_l1, z_add]
    have e20 : nI i + 20 = nI (20 + i) := by
      show nI i + nI 20 = _
      rw [z_add, Nat.add_comm]
    obtain ⟨p1, μ, p2, p3, p4⟩ := z_rp hn htx hi8 hp ht
    rw [ep] at p2 p3
    have hI := z_pmI (z_cx n tx) n z_cx0 l (z_x0 p) (fun c hc => by rw [← ep] at hc; exact ((z_ptq i hi8).2.2.2.2 c hc).1)
    unfold PL_X3_readNext_36 FL_X3_readNext_36
    rw [if_pos e, v1, e1, e20]
    simp only [p2, q_L, forall_eq', p3.1]
    unfold z_rd
    by_cases d : (z_pm (z_cx n tx) l (z_x0 p)).1 = true
    · rw [z_b1' d, if_neg (by decide), if_pos d]
      refine ⟨⟨fun _ => ⟨z_in hi8 (by decide), by rw [← e20]; exact ⟨v2, v3⟩, p1, fun q => absurd q (by decide), fun _ => trivial⟩, fun q => absurd e q⟩, _, rfl, ?_, fun _ => ⟨⟨?_, ?_, fun j hj => ?_⟩, q_up_eq _ _ _ _, hi8⟩, ⟨fun a a1 a2 => ?_, fun j j2 j3 j5 => ?_⟩⟩
      · rw [q_up_nj (by decide)]; exact p3.1
      · rw [q_up_nj (by decide)]; exact p3.1
      · rw [q_up_nj (by decide)]; exact p3.2.1
      · rw [q_up_nk (by decide)]; exact p3.2.2 j hj
      · rw [q_up_off a1]; exact p4.1 a a1 a2
      · rw [q_up_nj j5]; exact p4.2 j j2 j3
    · rw [z_b0 d, if_pos rfl, if_neg d]
      have hle := hI.2.1 hp
      rw [z_mxx (by omega) (by omega)]
      obtain ⟨q1, ν, q2, q3, q4, q5⟩ := ih (i + 1) nn (max f (z_pm (z_cx n tx) l (z_x0 p)).2.1) μ (by omega) (by omega) (fun j hj => by
        have := hpt (j + 1) (Nat.succ_lt_succ hj)
        rw [show i + 1 + j = i + (j + 1) by omega]
        exact this) (by omega) (p4.tc ht)
      exact ⟨⟨fun _ => ⟨z_in hi8 (by decide), by rw [← e20]; exact ⟨v2, v3⟩, p1, fun _ => q1, fun q => absurd rfl q⟩, fun q => absurd e q⟩, ν, q2, q3, q4, p4.q.tr q5⟩
theorem z_nx0 {n : Nat} {tx : Nat → Nat} (hn : n ≤ 60) (htx : ∀ i, i < n → tx i < 200) {p : Nat} (hp : p ≤ n) {σ : q_M} (ht : z_tc σ n tx) : PL_X3_readNext_36 10 (nI p) (nI p) 0 σ ∧ ∃ μ, FL_X3_readNext_36 10 (nI p) (nI p) 0 σ = (z_b (z_cmd (z_cx n tx) p).1, μ) ∧ μ 223 3 = nI (z_cmd (z_cx n tx) p).2.2.1 ∧ ((z_cmd (z_cx n tx) p).1 = true → z_rc μ (z_cmd (z_cx n tx) p).2.2 ∧ μ 223 5 = nI (20 + (z_cmd (z_cx n tx) p).2.1) ∧ (z_cmd (z_cx n tx) p).2.1 < 8) ∧ z_qf σ μ :=
  z_nxL hn htx hp z_pts 0 10 p σ (by decide) (by decide) (fun j hj => by rw [Nat.zero_add]; rfl) hp ht
/-- the next command: at the start of the text, or behind a semicolon -/
theorem z_next {n : Nat} {tx : Nat → Nat} (hn : n ≤ 60) (htx : ∀ i, i < n → tx i < 200) {p : Nat} (hp : p ≤ n) {σ : q_M} (ht : z_tc σ n tx) (hx : σ 223 3 = nI p) :
    P_X3_readNext σ ∧
    (p = 0 → ∃ μ, F_X3_readNext σ = (z_b (z_cmd (z_cx n tx) p).1, μ) ∧ μ 223 3 = nI (z_cmd (z_cx n tx) p).2.2.1 ∧ ((z_cmd (z_cx n tx) p).1 = true → z_rc μ (z_cmd (z_cx n tx) p).2.2 ∧ μ 223 5 = nI (20 + (z_cmd (z_cx n tx) p).2.1) ∧ (z_cmd (z_cx n tx) p).2.1 < 8) ∧ z_qf σ μ) ∧
    (0 < p → z_cx n tx p = 59 → ∃ μ, F_X3_readNext σ = (z_b (z_cmd (z_cx n tx) (p + 1)).1, μ) ∧ μ 223 3 = nI (z_cmd (z_cx n tx) (p + 1)).2.2.1 ∧ ((z_cmd (z_cx n tx) (p + 1)).1 = true → z_rc μ (z_cmd (z_cx n tx) (p + 1)).2.2 ∧ μ 223 5 = nI (20 + (z_cmd (z_cx n tx) (p + 1)).2.1) ∧ (z_cmd (z_cx n tx) (p + 1)).2.1 < 8) ∧ z_qf σ μ) ∧
    (0 < p → z_cx n tx p ≠ 59 → F_X3_readNext σ = (0, σ)) := by
  have e0 : ((0 : Int32) < σ 223 3) = (0 < p) := by rw [hx, z_l0, z_lt (by decide) (by omega)]
  obtain ⟨a1, a2⟩ := z_nx0 hn htx hp ht
  have key : 0 < p → P_X3_readCharacter 59 σ ∧ ∃ μ, F_X3_readCharacter 59 σ = (z_b (decide (z_cx n tx p = 59)), μ) ∧ μ 223 3 = nI (if z_cx n tx p = 59 then p + 1 else p) ∧ z_pf σ μ ∧ (z_cx n tx p ≠ 59 → μ = σ) := by
    intro h
    have e1 : (σ 223 3 < σ 225 3) = (p < n) := by rw [hx, ht.1, z_lt (by omega) (by omega)]
    refine ⟨⟨fun q => ⟨by rw [hx]; exact nI_pos (by omega), q, trivial⟩, fun _ => trivial⟩, ?_⟩
    have ec : (σ 223 3).toNatClampNeg = p := by rw [hx, nI_clamp (by omega)]
    unfold F_X3_readCharacter q_L z_cx
    by_cases a : p < n
    · have e2 : (σ 227 p = 59) = (tx p = 59) := by rw [ht.2 _ a]; show (nI (tx p) = nI 59) = _; rw [z_eq (by have := htx _ a; omega) (by decide)]
      simp only [e1, ec, e2, if_pos a]
      by_cases d : tx p = 59
      · rw [if_pos d, if_pos d, z_b1' (by simpa using d)]
        exact ⟨_, rfl, by rw [q_up_eq, hx, z_l1, z_add], ⟨fun b b1 _ => q_up_off b1, fun j _ j3 => q_up_nj j3⟩, fun q => absurd d q⟩
      · rw [if_neg d, if_neg d, z_b0 (by simpa using d)]
        exact ⟨σ, rfl, hx, z_pf.rf σ, fun _ => rfl⟩
    · have d : ¬ (0 : Nat) = 59 := by decide
      simp only [e1, if_neg a]
      exact ⟨σ, rfl, hx, z_pf.rf σ, fun _ => rfl⟩
  refine ⟨⟨fun q => ?_, fun q => ?_⟩, fun h0 => ?_, fun h0 h59 => ?_, fun h0 h59 => ?_⟩
  · rw [e0] at q
    obtain ⟨k1, μ, k2, k3, k4, k5⟩ := key q
    refine ⟨k1, fun σ2 h2 => ?_⟩
    rw [k2] at h2
    subst h2
    rw [k2]
    refine ⟨fun _ => trivial, fun c => ?_⟩
    by_cases d : z_cx n tx p = 59
    · rw [if_pos d] at k3
      have hpn : p + 1 ≤ n := by
        by_cases z : p < n
        · omega
        · rw [z_cx0 p (by omega)] at d; omega
      dsimp only
      rw [k3]
      exact (z_nx0 hn htx hpn (k4.tc ht)).1
    · exact absurd (z_b0 (by simpa using d)) c
  · rw [hx]
    exact a1
  · have : ¬ (0 : Int32) < σ 223 3 := by rw [e0]; omega
    unfold F_X3_readNext
    rw [if_neg this, hx]
    exact a2
  · have c : (0 : Int32) < σ 223 3 := by rw [e0]; exact h0
    obtain ⟨k1, μ, k2, k3, k4, k5⟩ := key h0
    rw [if_pos h59] at k3
    have hpn : p + 1 ≤ n := by
      by_cases z : p < n
      · omega
      · rw [z_cx0 p (by omega)] at h59; omega
    obtain ⟨b1, ν, b2, b3, b4, b5⟩ := z_nx0 hn htx hpn (k4.tc ht)
    unfold F_X3_readNext q_L
    rw [if_pos c, k2, z_b1' (by simpa using h59)]
    dsimp only
    rw [if_neg (by decide), k3]
    exact ⟨ν, b2, b3, b4, k4.q.tr b5⟩
  · have c : (0 : Int32) < σ 223 3 := by rw [e0]; exact h0
    obtain ⟨k1, μ, k2, k3, k4, k5⟩ := key h0
    unfold F_X3_readNext q_L
    rw [if_pos c, k2, z_b0 (by simpa using h59)]
    dsimp only
    rw [if_pos rfl, k5 h59]
