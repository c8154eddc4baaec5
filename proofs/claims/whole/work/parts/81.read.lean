/-! Reading in the model. -/
def z_tm (τ : q_M) (n : Nat) (tx : Nat → Nat) : Prop := τ 229 16 = nI n ∧ ∀ i, i < n → τ 235 i = nI (tx i)
def z_rm (τ : q_M) (a : Nat) (x : z_St) : Prop := τ 229 17 = nI x.1 ∧ ∀ j, j < x.2.1 → τ 236 (a + 1 + j) = nI (x.2.2 j)
def z_mf (a : Nat) (τ μ : q_M) : Prop := (∀ b, b ≠ 229 → b ≠ 236 → μ b = τ b) ∧ (∀ j, j ≠ 17 → μ 229 j = τ 229 j) ∧ ∀ j, j < a + 1 ∨ a + 4 ≤ j → μ 236 j = τ 236 j
theorem z_mf.rf (a : Nat) (τ : q_M) : z_mf a τ τ := ⟨fun _ _ _ => rfl, fun _ _ => rfl, fun _ _ => rfl⟩
theorem z_mf.tr {a : Nat} {τ τ' τ'' : q_M} (h : z_mf a τ τ') (h' : z_mf a τ' τ'') : z_mf a τ τ'' := ⟨fun b e1 e2 => (h'.1 b e1 e2).trans (h.1 b e1 e2), fun j e1 => (h'.2.1 j e1).trans (h.2.1 j e1), fun j e1 => (h'.2.2 j e1).trans (h.2.2 j e1)⟩
theorem z_mf.tm {a : Nat} {τ μ : q_M} {n : Nat} {tx : Nat → Nat} (h : z_mf a τ μ) (ht : z_tm τ n tx) : z_tm μ n tx := ⟨by rw [h.2.1 16 (by decide)]; exact ht.1, fun i hi => by rw [h.1 235 (by decide) (by decide)]; exact ht.2 i hi⟩
theorem z_sgn {τ : q_M} {n p : Nat} {tx : Nat → Nat} (ht : z_tm τ n tx) (hx : τ 229 17 = nI p) (hp : p ≤ n) (hn : n ≤ 60) : P_X9_sign τ ∧ F_X9_sign τ = if p < n then nI (tx p) else -1 := by
  have e1 : (τ 229 17 < τ 229 16) = (p < n) := by rw [hx, ht.1, z_lt (by omega) (by omega)]
  refine ⟨⟨fun q => ⟨by rw [hx]; exact vp_in_nI (N := 60) (by rw [e1] at q; omega) (by decide), trivial⟩, fun _ => trivial⟩, ?_⟩
  unfold F_X9_sign
  simp only [e1]
  by_cases c : p < n
  · rw [if_pos c, if_pos c, hx, nI_clamp (by omega)]
    exact ht.2 p c
  · rw [if_neg c, if_neg c]
theorem z_sgc {τ : q_M} {n p : Nat} {tx : Nat → Nat} (ht : z_tm τ n tx) (hx : τ 229 17 = nI p) (hp : p ≤ n) (hn : n ≤ 60) (htx : ∀ i, i < n → tx i < 200) {c : Nat} (hc0 : 0 < c) (hc : c < 200) : (F_X9_sign τ = nI c) = (z_cx n tx p = c) := by
  rw [(z_sgn ht hx hp hn).2]
  unfold z_cx
  by_cases d : p < n
  · rw [if_pos d, if_pos d, z_eq (by have := htx p d; omega) (by omega)]
  · rw [if_neg d, if_neg d]
    exact propext ⟨fun q => absurd q.symm (z_nm1 (by omega)), fun q => by omega⟩
/-- what a piece of the model's reader does -/
def z_ok (n : Nat) (tx : Nat → Nat) (a : Nat) (l : List Nat) (P : q_M → Prop) (F : q_M → Int32 × q_M) (m0 : Nat) : Prop :=
  ∀ τ x, z_tm τ n tx → z_rm τ a x → x.1 ≤ n → x.2.1 = m0 → P τ ∧ ∃ μ, F τ = (z_b (z_pm (z_cx n tx) l x).1, μ) ∧ μ 229 17 = nI (z_pm (z_cx n tx) l x).2.1 ∧ ((z_pm (z_cx n tx) l x).1 = true → z_rm μ a (z_pm (z_cx n tx) l x).2) ∧ z_mf a τ μ
theorem z_sgm {s : Nat → Nat} {c : Nat} {x : z_St} (d : (z_sg1 s c x).1 = true) : (z_sg1 s c x).2.2.1 = x.2.1 + (if c = 68 ∨ c = 78 ∨ c = 75 then 1 else 0) := by
  unfold z_sg1 at d ⊢
  by_cases c1 : c = 68
  · rw [if_pos c1, if_pos (show c = 68 ∨ c = 78 ∨ c = 75 from .inl c1)]; rfl
  · rw [if_neg c1]
    by_cases c2 : c = 78
    · rw [if_pos c2, if_pos (show c = 68 ∨ c = 78 ∨ c = 75 from .inr (.inl c2))]; rfl
    · rw [if_neg c2]
      by_cases c3 : c = 75
      · rw [if_pos c3, if_pos (show c = 68 ∨ c = 78 ∨ c = 75 from .inr (.inr c3))]
        split
        · rfl
        · split <;> rfl
      · rw [if_neg c3, if_neg (show ¬ (c = 68 ∨ c = 78 ∨ c = 75) by omega)]
        split <;> rfl
theorem z_pmm {s : Nat → Nat} : ∀ (l : List Nat) (x : z_St), (z_pm s l x).1 = true → (z_pm s l x).2.2.1 = x.2.1 + z_ar l := by
  intro l
  induction l with
  | nil => intro x _; rfl
  | cons c l ih =>
    intro x
    rw [z_pmc]
    by_cases d : (z_sg1 s c x).1 = true
    · rw [if_pos d]
      intro h
      rw [ih _ h, z_sgm d]
      show _ = x.2.1 + ((if c = 68 ∨ c = 78 ∨ c = 75 then 1 else 0) + z_ar l)
      omega
    · rw [if_neg d]
      intro h
      exact absurd h d
theorem z_seq {n a m0 : Nat} {tx : Nat → Nat} {l1 l2 : List Nat} {P1 P2 : q_M → Prop} {F1 F2 : q_M → Int32 × q_M} (hl1 : ∀ c ∈ l1, 0 < c) (h1 : z_ok n tx a l1 P1 F1 m0) (h2 : z_ok n tx a l2 P2 F2 (m0 + z_ar l1)) : z_ok n tx a (l1 ++ l2) (fun τ => P1 τ ∧ (∀ μ : q_M, (F1 τ).2 = μ → (((F1 τ).1 = 0 → True) ∧ (¬ (F1 τ).1 = 0 → P2 μ)))) (fun τ => q_L (F1 τ).2 (fun μ : q_M => if (F1 τ).1 = 0 then (0, μ) else F2 μ)) m0 := by
  intro τ x ht hx hp hm
  obtain ⟨p1, μ, e1, e2, e3, e4⟩ := h1 τ x ht hx hp hm
  have hI := z_pmI (z_cx n tx) n z_cx0 l1 x hl1
  rw [z_pm_app]
  dsimp only [q_L]
  rw [e1]
  by_cases d : (z_pm (z_cx n tx) l1 x).1 = true
  · rw [if_pos d, z_b1' d]
    dsimp only
    rw [if_neg (show ¬ (1 : Int32) = 0 by decide)]
    obtain ⟨p2, f⟩ := h2 μ (z_pm (z_cx n tx) l1 x).2 (e4.tm ht) (e3 d) (hI.2.1 hp) (by rw [z_pmm l1 x d, hm])
    obtain ⟨ν, f1, f2, f3, f4⟩ := f
    exact ⟨⟨p1, fun μ' h => by subst h; exact ⟨fun q => absurd q (by decide), fun _ => p2⟩⟩, ν, f1, f2, f3, e4.tr f4⟩
  · rw [if_neg d, z_b0 d]
    dsimp only
    rw [if_pos rfl]
    exact ⟨⟨p1, fun μ' h => by subst h; exact ⟨fun _ => trivial, fun q => absurd rfl q⟩⟩, μ, rfl, e2, fun q => absurd q d, e4⟩
theorem z_lst {n a m0 : Nat} {tx : Nat → Nat} {l : List Nat} {P : q_M → Prop} {F : q_M → Int32 × q_M} (h : z_ok n tx a l P F m0) : z_ok n tx a l (fun τ => P τ ∧ True) (fun τ => q_L (F τ).2 (fun μ : q_M => if (F τ).1 = 0 then (0, μ) else (1, μ))) m0 := by
  intro τ x ht hx hp hm
  obtain ⟨p1, μ, e1, e2, e3, e4⟩ := h τ x ht hx hp hm
  refine ⟨⟨p1, trivial⟩, μ, ?_, e2, e3, e4⟩
  dsimp only [q_L]
  rw [e1]
  by_cases d : (z_pm (z_cx n tx) l x).1 = true
  · rw [z_b1' d]
    rfl
  · rw [z_b0 d]
    rfl
/-- a sign -/
theorem z_isg {n : Nat} {tx : Nat → Nat} (hn : n ≤ 60) (htx : ∀ i, i < n → tx i < 200) {a m0 c : Nat} (hc : c ≠ 68 ∧ c ≠ 78 ∧ c ≠ 75) (hc0 : 0 < c) (hc1 : c < 200) : z_ok n tx a [c] (P_X9_isSign (nI c)) (F_X9_isSign (nI c)) m0 := by
  intro τ x ht hx hp hm
  have hs := z_sgc ht hx.1 hp hn htx hc0 hc1
  rw [z_pch hc]
  unfold F_X9_isSign P_X9_isSign q_L
  refine ⟨⟨(z_sgn ht hx.1 hp hn).1, trivial⟩, ?_⟩
  simp only [hs, hx.1]
  by_cases d : z_cx n tx x.1 = c
  · have e1 : nI x.1 + 1 = nI (x.1 + 1) := by rw [z_l1, z_add]
    simp only [if_pos d, z_10, if_false, e1]
    refine ⟨_, rfl, q_up_eq _ _ _ _, fun _ => ⟨q_up_eq _ _ _ _, fun j hj => by rw [q_up_nk (by decide)]; exact hx.2 j hj⟩, ⟨fun b b1 _ => q_up_off b1, fun j hj => q_up_nj hj, fun j _ => by rw [q_up_nk (by decide)]⟩⟩
  · have e1 : nI x.1 + 0 = nI x.1 := by rw [z_l0, z_add, Nat.add_zero]
    simp only [if_neg d, if_true, e1]
    refine ⟨_, rfl, q_up_eq _ _ _ _, fun q => (by cases q), ⟨fun b b1 _ => q_up_off b1, fun j hj => q_up_nj hj, fun j _ => by rw [q_up_nk (by decide)]⟩⟩
/-- a word -/
theorem z_iwL {n : Nat} {tx : Nat → Nat} (hn : n ≤ 60) (htx : ∀ i, i < n → tx i < 200) {a m0 w : Nat} : ∀ (l : List Nat) (k nn : Nat), k + l.length < 14 → (∀ j, j < l.length → q_ch w (k + j) = nI (l.getD j 0)) → q_sl.getD w 0 = k + l.length → l.length < nn → (∀ c ∈ l, (c ≠ 68 ∧ c ≠ 78 ∧ c ≠ 75) ∧ 0 < c ∧ c < 200) → z_ok n tx a l (PL_X9_isWord_2 w nn (nI k)) (FL_X9_isWord_2 w nn (nI k)) m0 := by
  intro l
  induction l with
  | nil =>
    intro k nn h14 hq hl hnn hc τ x ht hx hp hm
    obtain ⟨nn, rfl⟩ : ∃ q, nn = q + 1 := ⟨nn - 1, by omega⟩
    have e : ¬ nI k < nI (q_sl.getD w 0) := by
      rw [hl]
      show ¬ nI k < nI (k + 0)
      rw [z_lt (by omega) (by omega)]
      omega
    unfold PL_X9_isWord_2 FL_X9_isWord_2
    rw [if_neg e]
    exact ⟨⟨fun q => absurd q e, fun _ => trivial⟩, τ, rfl, hx.1, fun _ => hx, z_mf.rf a τ⟩
  | cons c l ih =>
    intro k nn h14 hq hl hnn hc τ x ht hx hp hm
    obtain ⟨nn, rfl⟩ : ∃ q, nn = q + 1 := ⟨nn - 1, by omega⟩
    have h14 : k + (l.length + 1) < 14 := h14
    have hl' : q_sl.getD w 0 = k + (l.length + 1) := hl
    have hnn : l.length + 1 < nn + 1 := hnn
    have e : nI k < nI (q_sl.getD w 0) := by
      rw [hl']
      exact nI_lt (by omega) (by omega)
    obtain ⟨hcc, hc0, hc1⟩ := hc c (List.mem_cons_self ..)
    have e0 : q_ch w (nI k).toNatClampNeg = nI c := by
      rw [nI_clamp (by omega)]
      exact hq 0 (Nat.succ_pos _)
    have ek : nI k + 1 = nI (k + 1) := by rw [z_l1, z_add]
    have ea : z_ar [c] = 0 := by
      show (if c = 68 ∨ c = 78 ∨ c = 75 then 1 else 0) + 0 = 0
      rw [if_neg (by omega)]
    have h2 := ih (k + 1) nn (by omega) (fun j hj => by
        have := hq (j + 1) (Nat.succ_lt_succ hj)
        rw [show k + 1 + j = k + (j + 1) by omega]
        exact this) (by omega) (by omega) (fun c' h => hc c' (List.mem_cons_of_mem _ h))
    have hs := z_seq (l1 := [c]) (l2 := l) (m0 := m0) (fun c' h => by rw [List.mem_singleton] at h; subst h; exact hc0) (z_isg hn htx hcc hc0 hc1) (by rw [ea]; exact h2)
    obtain ⟨s1, s2⟩ := hs τ x ht hx hp hm
    unfold PL_X9_isWord_2 FL_X9_isWord_2
    rw [if_pos e, e0, ek]
    exact ⟨⟨fun _ => ⟨vp_in_nI (by omega) (by omega), s1⟩, fun q => absurd e q⟩, s2⟩
def z_wds : List (List Nat) := [[97, 114, 116], [112, 101, 101, 100], [115, 115], [114, 111, 116, 101, 115, 116], [112], [97, 119], [117, 110], [117, 105, 116]]
theorem z_wdq : ∀ i, i < 8 → q_sl.getD (9 + i) 0 = (z_wds.getD i []).length ∧ (∀ k, k < 14 → k < (z_wds.getD i []).length → q_ch (9 + i) k = nI ((z_wds.getD i []).getD k 0)) ∧ (z_wds.getD i []).length < 14 ∧ z_ar (z_wds.getD i []) = 0 ∧ ∀ c ∈ z_wds.getD i [], (c ≠ 68 ∧ c ≠ 78 ∧ c ≠ 75) ∧ 0 < c ∧ c < 200 := by decide +kernel
theorem z_iw {n : Nat} {tx : Nat → Nat} (hn : n ≤ 60) (htx : ∀ i, i < n → tx i < 200) {a m0 i : Nat} (hi : i < 8) : z_ok n tx a (z_wds.getD i []) (P_X9_isWord (9 + i)) (F_X9_isWord (9 + i)) m0 := by
  obtain ⟨h1, h2, h3, h4, h5⟩ := z_wdq i hi
  exact z_iwL hn htx (w := 9 + i) (z_wds.getD i []) 0 14 (by omega) (fun j hj => by rw [Nat.zero_add]; exact h2 j (by omega) hj) (by rw [Nat.zero_add]; exact h1) h3 h5
/-- a number -/
theorem z_inL {n : Nat} {tx : Nat → Nat} (hn : n ≤ 60) (htx : ∀ i, i < n → tx i < 200) {W b q : Nat} (hb : b ≤ 60) (hW : W ≤ 3) (hq : q < 124) : ∀ (w nn v p : Nat) (τ : q_M), w < nn → p = b + (W - w) → w ≤ W → p ≤ n → z_tm τ n tx → τ 229 17 = nI p → PL_X9_isNumber_5 (nI W) (nI q) nn (nI v) (nI (W - w)) τ ∧ ∃ μ, FL_X9_isNumber_5 (nI W) (nI q) nn (nI v) (nI (W - w)) τ = (z_b (decide (b < (z_dn (z_cx n tx) w p v).1)), μ) ∧ μ 229 17 = nI (z_dn (z_cx n tx) w p v).1 ∧ μ 236 q = nI (z_dn (z_cx n tx) w p v).2 ∧ (∀ c, c ≠ 229 → c ≠ 236 → μ c = τ c) ∧ (∀ j, j ≠ 17 → μ 229 j = τ 229 j) ∧ ∀ j, j ≠ q → μ 236 j = τ 236 j := by
  have eq : (nI q).toNatClampNeg = q := nI_clamp (by omega)
  have hv : vp_in (nI q) (q_len 236) := vp_in_nI (N := 124) hq (by decide)
  have fin : ∀ (w v p : Nat) (τ : q_M), p = b + (W - w) → p ≤ n → τ 229 17 = nI p → ∃ μ, q_L (q_up τ 236 q (nI v)) (fun σ3 : q_M => if 0 < nI (W - w) then ((1 : Int32), σ3) else (0, σ3)) = (z_b (decide (b < p)), μ) ∧ μ 229 17 = nI p ∧ μ 236 q = nI v ∧ (∀ c, c ≠ 229 → c ≠ 236 → μ c = τ c) ∧ (∀ j, j ≠ 17 → μ 229 j = τ 229 j) ∧ ∀ j, j ≠ q → μ 236 j = τ 236 j := by
    intro w v p τ hp hpn hx
    refine ⟨q_up τ 236 q (nI v), ?_, by rw [q_up_nk (by decide)]; exact hx, q_up_eq _ _ _ _, fun c _ c2 => q_up_off c2, fun j _ => by rw [q_up_nk (by decide)], fun j hj => q_up_nj hj⟩
    unfold q_L
    dsimp only
    have e1 : ((0 : Int32) < nI (W - w)) = (0 < W - w) := by rw [z_l0, z_lt (by decide) (by omega)]
    by_cases c : 0 < W - w
    · have e2 : (0 : Int32) < nI (W - w) := by rw [e1]; exact c
      rw [if_pos e2, z_b1' (by have : b < p := by omega
                               simpa using this)]
    · have e2 : ¬ (0 : Int32) < nI (W - w) := by rw [e1]; exact c
      rw [if_neg e2, z_b0 (by have : ¬ b < p := by omega
                              simpa using this)]
  intro w
  induction w with
  | zero =>
    intro nn v p τ h1 hp hw hpn ht hx
    obtain ⟨nn, rfl⟩ : ∃ q, nn = q + 1 := ⟨nn - 1, by omega⟩
    have e1 : ¬ nI (W - 0) < nI W := by rw [z_lt (by omega) (by omega)]; omega
    unfold PL_X9_isNumber_5 FL_X9_isNumber_5
    rw [if_neg e1, eq]
    exact ⟨⟨fun z => absurd z e1, fun _ => ⟨hv, trivial⟩⟩, fin 0 v p τ hp hpn hx⟩
  | succ w ih =>
    intro nn v p τ h1 hp hw hpn ht hx
    obtain ⟨nn, rfl⟩ : ∃ q, nn = q + 1 := ⟨nn - 1, by omega⟩
    have e1 : nI (W - (w + 1)) < nI W := nI_lt (by omega) (by omega)
    obtain ⟨sP, sF⟩ := z_sgn ht hx hpn hn
    have ed : F_X9_isIn (F_X9_sign τ) 48 57 τ = if 48 ≤ z_cx n tx p ∧ z_cx n tx p ≤ 57 then 1 else 0 := by
      rw [sF]
      unfold F_X9_isIn z_cx
      by_cases a : p < n
      · have hl := htx p a
        rw [if_pos a, if_pos a]
        by_cases c1 : nI (tx p) < 48
        · have := (nI_ltI (b := 48) (by omega) (by decide)).mp c1
          rw [if_pos c1, if_neg (by omega)]
        · have c1' : ¬ tx p < 48 := fun z => c1 ((nI_ltI (b := 48) (by omega) (by decide)).mpr z)
          rw [if_neg c1]
          by_cases c2 : 57 < nI (tx p)
          · have := (nI_ltI (a := 57) (by decide) (by omega)).mp c2
            rw [if_pos c2, if_neg (by omega)]
          · have c2' : ¬ 57 < tx p := fun z => c2 ((nI_ltI (a := 57) (by decide) (by omega)).mpr z)
            rw [if_neg c2, if_pos (by omega)]
      · rw [if_neg a, if_neg a]
        decide
    unfold PL_X9_isNumber_5 FL_X9_isNumber_5 z_dn
    rw [if_pos e1, ed, eq]
    by_cases c : 48 ≤ z_cx n tx p ∧ z_cx n tx p ≤ 57
    · have a : p < n := by
        by_cases z : p < n
        · exact z
        · rw [z_cx0 p (by omega)] at c; omega
      have ecx : z_cx n tx p = tx p := if_pos a
      have e10 : (10 : Int32) * nI v + F_X9_sign τ - 48 = nI (10 * v + (z_cx n tx p - 48)) := by
        rw [sF, if_pos a, ecx, z_l10, z_mul, z_add]
        show _ - nI 48 = _
        rw [ecx] at c
        rw [z_sub (by omega)]
        congr 1
        omega
      have ep : τ 229 17 + 1 = nI (p + 1) := by rw [hx, z_l1, z_add]
      have ed2 : nI (W - (w + 1)) + 1 = nI (W - w) := by rw [z_l1, z_add, show W - (w + 1) + 1 = W - w by omega]
      obtain ⟨q1, μ, q2, q3, q4, q5, q6, q7⟩ := ih nn (10 * v + (z_cx n tx p - 48)) (p + 1) (q_up τ 229 17 (nI (p + 1))) (by omega) (by omega) (by omega) (by omega) ⟨by rw [q_up_nj (by decide)]; exact ht.1, fun i hi => by rw [q_up_nk (by decide)]; exact ht.2 i hi⟩ (q_up_eq _ _ _ _)
      simp only [if_pos c, e10, ep, ed2, q_L, forall_eq']
      rw [if_neg (show ¬ (1 : Int32) = 0 by decide)]
      exact ⟨⟨fun _ => ⟨sP, fun z => absurd z (by decide), fun _ => ⟨sP, q1⟩⟩, fun z => absurd e1 z⟩, μ, q2, q3, q4, fun c c1 c2 => by rw [q5 c c1 c2, q_up_off c1], fun j hj => by rw [q6 j hj, q_up_nj hj], fun j hj => by rw [q7 j hj, q_up_nk (by decide)]⟩
    · simp only [if_neg c]
      rw [if_pos trivial]
      exact ⟨⟨fun _ => ⟨sP, fun _ => ⟨hv, trivial⟩, fun z => absurd trivial z⟩, fun z => absurd e1 z⟩, fin (w + 1) v p τ hp hpn hx⟩
theorem z_in' {n : Nat} {tx : Nat → Nat} (hn : n ≤ 60) (htx : ∀ i, i < n → tx i < 200) {a m W c : Nat} (hc : c = 68 ∧ W = 1 ∨ c = 78 ∧ W = 3) (hm : m < 3) (ha : a + 4 ≤ 124) {q : Int32} (hq : q = nI (a + 1 + m)) : z_ok n tx a [c] (P_X9_isNumber (nI W) q) (F_X9_isNumber (nI W) q) m := by
  intro τ x ht hx hp hxm
  subst hq
  obtain ⟨q1, μ, q2, q3, q4, q5, q6, q7⟩ := z_inL hn htx (W := W) (b := x.1) (q := a + 1 + m) (by omega) (by omega) (by omega) W 5 0 x.1 τ (by omega) (by omega) (Nat.le_refl _) hp ht hx.1
  rw [Nat.sub_self] at q1 q2
  have eS : z_pm (z_cx n tx) [c] x = (decide (x.1 < (z_dn (z_cx n tx) W x.1 0).1), z_aa (z_dn (z_cx n tx) W x.1 0).1 (z_dn (z_cx n tx) W x.1 0).2 x) := by
    rw [z_pmc]
    have e : z_sg1 (z_cx n tx) c x = (decide (x.1 < (z_dn (z_cx n tx) W x.1 0).1), z_aa (z_dn (z_cx n tx) W x.1 0).1 (z_dn (z_cx n tx) W x.1 0).2 x) := by
      unfold z_sg1
      rcases hc with ⟨rfl, rfl⟩ | ⟨rfl, rfl⟩
      · rw [if_pos rfl]
      · rw [if_neg (by decide), if_pos rfl]
    rw [e]
    by_cases d : decide (x.1 < (z_dn (z_cx n tx) W x.1 0).1) = true
    · dsimp only
      rw [if_pos d]
      rw [d]
      rfl
    · dsimp only
      rw [if_neg d]
  rw [eS]
  refine ⟨q1, μ, q2, q3, fun _ => ⟨q3, fun j hj => ?_⟩, ⟨q5, q6, fun j hj => q7 j (by omega)⟩⟩
  have hj : j < x.2.1 + 1 := hj
  show _ = nI (z_up x.2.2 x.2.1 (z_dn (z_cx n tx) W x.1 0).2 j)
  by_cases e : j = x.2.1
  · subst e
    rw [z_up_s, hxm]
    exact q4
  · rw [z_up_n e, q7 _ (by omega)]
    exact hx.2 j (by omega)
theorem z_isp {n : Nat} {tx : Nat → Nat} (hn : n ≤ 60) (htx : ∀ i, i < n → tx i < 200) {a m W c : Nat} (hc : c = 68 ∧ W = 1 ∨ c = 78 ∧ W = 3) (hm : m < 3) (ha : a + 4 ≤ 124) {q : Int32} (hq : q = nI (a + 1 + m)) : z_ok n tx a [32, c] (P_X9_isSpaced (nI W) q) (F_X9_isSpaced (nI W) q) m :=
  z_seq (l1 := [32]) (l2 := [c]) (fun c' h => by rw [List.mem_singleton] at h; subst h; decide) (z_isg hn htx (by decide) (by decide) (by decide)) (z_lst (z_in' hn htx hc hm ha hq))
theorem z_ikd {n : Nat} {tx : Nat → Nat} (hn : n ≤ 60) (htx : ∀ i, i < n → tx i < 200) {a m : Nat} (hm : m < 3) (ha : a + 4 ≤ 124) {q : Int32} (hq : q = nI (a + 1 + m)) : z_ok n tx a [75] (P_X9_isKind q) (F_X9_isKind q) m := by
  intro τ x ht hx hp hxm
  subst hq
  have eq : (nI (a + 1 + m)).toNatClampNeg = a + 1 + m := nI_clamp (by omega)
  have hv : vp_in (nI (a + 1 + m)) (q_len 236) := vp_in_nI (N := 124) (by omega) (by decide)
  have h100 : (F_X9_sign τ = 100) = (z_cx n tx x.1 = 100) := z_sgc ht hx.1 hp hn htx (c := 100) (by decide) (by decide)
  have eS : z_pm (z_cx n tx) [75] x = if z_cx n tx x.1 = 108 then (true, z_aa (x.1 + 1) 0 x) else if z_cx n tx x.1 = 100 then (true, z_aa (x.1 + 1) 1 x) else (false, z_aa x.1 1 x) := by
    rw [z_pmc]
    have e : z_sg1 (z_cx n tx) 75 x = if z_cx n tx x.1 = 108 then (true, z_aa (x.1 + 1) 0 x) else if z_cx n tx x.1 = 100 then (true, z_aa (x.1 + 1) 1 x) else (false, z_aa x.1 1 x) := by
      unfold z_sg1
      rw [if_neg (by decide), if_neg (by decide), if_pos rfl]
    rw [e]
    by_cases d1 : z_cx n tx x.1 = 108
    · rw [if_pos d1, if_pos rfl]
      rfl
    · rw [if_neg d1]
      by_cases d2 : z_cx n tx x.1 = 100
      · rw [if_pos d2, if_pos rfl]
        rfl
      · rw [if_neg d2]
        rfl
  unfold P_X9_isKind F_X9_isKind
  simp only [h100, eq, q_L, forall_eq']
  have hw : ∀ v : Int32, z_tm (q_up τ 236 (a + 1 + m) v) n tx ∧ z_rm (q_up τ 236 (a + 1 + m) v) a x ∧ z_mf a τ (q_up τ 236 (a + 1 + m) v) ∧ (q_up τ 236 (a + 1 + m) v) 236 (a + 1 + m) = v := fun v =>
    ⟨⟨by rw [q_up_nk (by decide)]; exact ht.1, fun i hi => by rw [q_up_nk (by decide)]; exact ht.2 i hi⟩, ⟨by rw [q_up_nk (by decide)]; exact hx.1, fun j hj => by rw [q_up_nj (by omega)]; exact hx.2 j hj⟩, ⟨fun b _ b2 => q_up_off b2, fun j _ => by rw [q_up_nk (by decide)], fun j hj => q_up_nj (by omega)⟩, q_up_eq _ _ _ _⟩
  obtain ⟨w1, w2, w3, w4⟩ := hw (if z_cx n tx x.1 = 100 then 1 else 0)
  generalize q_up τ 236 (a + 1 + m) (if z_cx n tx x.1 = 100 then 1 else 0) = σ4 at w1 w2 w3 w4 ⊢
  obtain ⟨a1, μ, a2, a3, a4, a5⟩ := z_isg hn htx (a := a) (m0 := m) (c := 108) (by decide) (by decide) (by decide) σ4 x w1 w2 hp hxm
  have a1 : P_X9_isSign 108 σ4 := a1
  have a2 : F_X9_isSign 108 σ4 = (z_b (z_pm (z_cx n tx) [108] x).1, μ) := a2
  rw [a2, eS]
  have ep : ∀ c, c ≠ 68 ∧ c ≠ 78 ∧ c ≠ 75 → z_pm (z_cx n tx) [c] x = if z_cx n tx x.1 = c then (true, (x.1 + 1, x.2)) else (false, x) := fun c hc => by
    rw [z_pch hc]
    rfl
  rw [ep 108 (by decide)] at a3 a4 ⊢
  have kp : ∀ (ν : q_M) (v : Nat), z_mf a σ4 ν → ν 229 17 = nI (x.1 + 1) → ν 236 = σ4 236 → σ4 236 (a + 1 + m) = nI v → z_rm ν a (z_aa (x.1 + 1) v x) := by
    intro ν v hν h17 h36 h4
    refine ⟨h17, fun j hj => ?_⟩
    have hj : j < x.2.1 + 1 := hj
    rw [h36]
    show _ = nI (z_up x.2.2 x.2.1 v j)
    by_cases e : j = x.2.1
    · subst e
      rw [z_up_s, hxm]
      exact h4
    · rw [z_up_n e]
      exact w2.2 j (by omega)
  have sign36 : ∀ (c : Nat) (σ : q_M), (F_X9_isSign (nI c) σ).2 236 = σ 236 := by
    intro c σ
    unfold F_X9_isSign q_L
    exact q_up_off (by decide)
  by_cases d1 : z_cx n tx x.1 = 108
  · have d2 : ¬ z_cx n tx x.1 = 100 := by omega
    simp only [if_pos d1] at a3 a4 ⊢
    rw [if_neg d2] at w4
    rw [z_b1' rfl]
    have h36 : μ 236 = σ4 236 := by
      have := sign36 108 σ4
      rw [show F_X9_isSign (nI 108) σ4 = (z_b (z_pm (z_cx n tx) [108] x).1, μ) from a2] at this
      exact this
    exact ⟨⟨(z_sgn ht hx.1 hp hn).1, trivial, hv, a1, fun z => absurd z (by decide), fun _ => trivial⟩, μ, rfl, a3, fun _ => kp μ 0 a5 a3 h36 w4, w3.tr a5⟩
  · simp only [if_neg d1] at a3 a4 ⊢
    rw [z_b0 (by decide)]
    have h36 : μ 236 = σ4 236 := by
      have := sign36 108 σ4
      rw [show F_X9_isSign (nI 108) σ4 = (z_b (z_pm (z_cx n tx) [108] x).1, μ) from a2] at this
      exact this
    have hx2 : z_rm μ a x := ⟨a3, fun j hj => by rw [h36]; exact w2.2 j hj⟩
    obtain ⟨b1, ν, b2, b3, b4, b5⟩ := z_isg hn htx (a := a) (m0 := m) (c := 100) (by decide) (by decide) (by decide) μ x (a5.tm w1) hx2 hp hxm
    have b1 : P_X9_isSign 100 μ := b1
    have b2 : F_X9_isSign 100 μ = (z_b (z_pm (z_cx n tx) [100] x).1, ν) := b2
    rw [ep 100 (by decide)] at b3 b4
    have h36' : ν 236 = σ4 236 := by
      have := sign36 100 μ
      rw [show F_X9_isSign (nI 100) μ = (z_b (z_pm (z_cx n tx) [100] x).1, ν) from b2] at this
      exact this.trans h36
    rw [b2, ep 100 (by decide)]
    by_cases d2 : z_cx n tx x.1 = 100
    · simp only [if_pos d2] at b3 b4 ⊢
      rw [if_pos d2] at w4
      rw [z_b1' rfl]
      refine ⟨⟨(z_sgn ht hx.1 hp hn).1, trivial, hv, a1, fun _ => ⟨b1, trivial⟩, fun z => absurd trivial z⟩, ν, ?_, b3, fun _ => kp ν 1 (a5.tr b5) b3 h36' w4, (w3.tr a5).tr b5⟩
      rfl
    · simp only [if_neg d2] at b3 b4 ⊢
      rw [z_b0 (by decide)]
      refine ⟨⟨(z_sgn ht hx.1 hp hn).1, trivial, hv, a1, fun _ => ⟨b1, trivial⟩, fun z => absurd trivial z⟩, ν, ?_, b3, fun z => (by cases z), (w3.tr a5).tr b5⟩
      rfl
