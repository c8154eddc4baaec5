/-! A command read in the model. -/
def z_mg (a : Nat) (τ μ : q_M) : Prop := (∀ b, b ≠ 229 → b ≠ 236 → μ b = τ b) ∧ (∀ j, j ≠ 17 → μ 229 j = τ 229 j) ∧ ∀ j, j < a ∨ a + 4 ≤ j → μ 236 j = τ 236 j
theorem z_mf.g {a : Nat} {τ μ : q_M} (h : z_mf a τ μ) : z_mg a τ μ := ⟨h.1, h.2.1, fun j hj => h.2.2 j (by omega)⟩
theorem z_mg.tr {a : Nat} {τ τ' τ'' : q_M} (h : z_mg a τ τ') (h' : z_mg a τ' τ'') : z_mg a τ τ'' := ⟨fun b e1 e2 => (h'.1 b e1 e2).trans (h.1 b e1 e2), fun j e1 => (h'.2.1 j e1).trans (h.2.1 j e1), fun j e1 => (h'.2.2 j e1).trans (h.2.2 j e1)⟩
theorem z_mg.tm {a : Nat} {τ μ : q_M} {n : Nat} {tx : Nat → Nat} (h : z_mg a τ μ) (ht : z_tm τ n tx) : z_tm μ n tx := ⟨by rw [h.2.1 16 (by decide)]; exact ht.1, fun i hi => by rw [h.1 235 (by decide) (by decide)]; exact ht.2 i hi⟩
theorem z_mg.cd {a : Nat} {τ : q_M} {v : Int32} : z_mg a τ (q_up τ 236 a v) := ⟨fun _ _ b2 => q_up_off b2, fun j _ => by rw [q_up_nk (by decide)], fun j hj => q_up_nj (by omega)⟩
/-- what is left behind -/
def z_out (n : Nat) (tx : Nat → Nat) (a : Nat) (τ : q_M) (r : Bool × z_St) (code : Nat) (F : Int32 × q_M) : Prop := ∃ μ, F = (z_b r.1, μ) ∧ μ 229 17 = nI r.2.1 ∧ (r.1 = true → z_rm μ a r.2 ∧ μ 236 a = nI code) ∧ z_mg a τ μ
theorem z_outI {n a q code : Nat} {tx : Nat → Nat} {l : List Nat} {P : q_M → Prop} {F : q_M → Int32 × q_M} (h : z_ok n tx a l P F 0) {τ σ : q_M} (ht : z_tm σ n tx) (hx : σ 229 17 = nI q) (hq : q ≤ n) (hc : σ 236 a = nI code) (hg : z_mg a τ σ) : P σ ∧ z_out n tx a τ (z_pm (z_cx n tx) l (z_x0 q)) code (F σ) := by
  obtain ⟨p, μ, e1, e2, e3, e4⟩ := h σ (z_x0 q) ht ⟨hx, fun j hj => absurd hj (Nat.not_lt_zero j)⟩ hq rfl
  exact ⟨p, μ, e1, e2, fun d => ⟨e3 d, by rw [e4.2.2 a (by omega)]; exact hc⟩, hg.tr e4.g⟩
theorem z_one {n : Nat} {tx : Nat → Nat} (hn : n ≤ 60) (htx : ∀ i, i < n → tx i < 200) {a c p code : Nat} (hc : c ≠ 68 ∧ c ≠ 78 ∧ c ≠ 75) (hc0 : 0 < c) (hc1 : c < 200) {τ σ : q_M} (ht : z_tm σ n tx) (hx : σ 229 17 = nI p) (hp : p ≤ n) (h36 : σ 236 a = nI code) (hg : z_mg a τ σ) : P_X9_isSign (nI c) σ ∧ ∃ μ, F_X9_isSign (nI c) σ = (z_b (decide (z_cx n tx p = c)), μ) ∧ μ 229 17 = nI (if z_cx n tx p = c then p + 1 else p) ∧ μ 236 a = nI code ∧ z_mg a τ μ ∧ z_tm μ n tx ∧ (if z_cx n tx p = c then p + 1 else p) ≤ n := by
  obtain ⟨p1, μ, e1, e2, e3, e4⟩ := z_isg hn htx (a := a) (m0 := 0) hc hc0 hc1 σ (z_x0 p) ht ⟨hx, fun j hj => absurd hj (Nat.not_lt_zero j)⟩ hp rfl
  have er : z_pm (z_cx n tx) [c] (z_x0 p) = (decide (z_cx n tx p = c), z_x0 (if z_cx n tx p = c then p + 1 else p)) := by
    rw [z_pch hc]
    by_cases d : z_cx n tx p = c
    · rw [if_pos d, if_pos d, decide_eq_true d]
      rfl
    · rw [if_neg d, if_neg d, decide_eq_false d]
  rw [er] at e1 e2
  refine ⟨p1, μ, e1, e2, by rw [e4.2.2 a (by omega)]; exact h36, hg.tr e4.g, e4.tm ht, ?_⟩
  by_cases d : z_cx n tx p = c
  · rw [if_pos d]
    by_cases z : p < n
    · omega
    · rw [z_cx0 p (by omega)] at d; omega
  · rw [if_neg d]; exact hp
section q82
variable {n : Nat} {tx : Nat → Nat} {a p : Nat} {τ σ : q_M}
theorem z_rS (hn : n ≤ 60) (htx : ∀ i, i < n → tx i < 200) (ha : a + 4 ≤ 124) (ht : z_tm σ n tx) (hx : σ 229 17 = nI p) (hp : p ≤ n) (h36 : σ 236 a = nI 115) (hg : z_mg a τ σ) : P_X9_readsS (nI a) σ ∧ (z_cx n tx p = 116 → z_out n tx a τ (z_pm (z_cx n tx) [97, 114, 116] (z_x0 (p + 1))) 115 (F_X9_readsS (nI a) σ)) ∧ (¬ z_cx n tx p = 116 → z_out n tx a τ (z_pm (z_cx n tx) [112, 101, 101, 100, 32, 68, 32, 68, 32, 78] (z_x0 p)) 118 (F_X9_readsS (nI a) σ)) := by
  have ea : (nI a).toNatClampNeg = a := nI_clamp (by omega)
  have hv : vp_in (nI a) (q_len 236) := vp_in_nI (N := 124) (by omega) (by decide)
  obtain ⟨s1, μ, s2, s3, s4, s5, s6, s7⟩ := z_one hn htx (c := 116) (by decide) (by decide) (by decide) ht hx hp h36 hg
  have s1 : P_X9_isSign 116 σ := s1
  have s2 : F_X9_isSign 116 σ = (z_b (decide (z_cx n tx p = 116)), μ) := s2
  have w9 : z_ok n tx a [97, 114, 116] (P_X9_isWord 9) (F_X9_isWord 9) 0 := z_iw hn htx (i := 0) (by decide)
  have w10 : z_ok n tx a [112, 101, 101, 100] (P_X9_isWord 10) (F_X9_isWord 10) 0 := z_iw hn htx (i := 1) (by decide)
  have n1 : z_ok n tx a [32, 68] (P_X9_isSpaced 1 (nI a + 1)) (F_X9_isSpaced 1 (nI a + 1)) 0 := z_isp hn htx (W := 1) (.inl ⟨rfl, rfl⟩) (by decide) ha (by rw [z_l1, z_add])
  have n2 : z_ok n tx a [32, 68] (P_X9_isSpaced 1 (nI a + 2)) (F_X9_isSpaced 1 (nI a + 2)) 1 := z_isp hn htx (W := 1) (.inl ⟨rfl, rfl⟩) (by decide) ha (by rw [z_l2, z_add])
  have n3 : z_ok n tx a [32, 78] (P_X9_isSpaced 3 (nI a + 3)) (F_X9_isSpaced 3 (nI a + 3)) 2 := z_isp hn htx (W := 3) (.inr ⟨rfl, rfl⟩) (by decide) ha (by rw [z_l3, z_add])
  have k : z_ok n tx a [112, 101, 101, 100, 32, 68, 32, 68, 32, 78] _ _ 0 := z_seq (l1 := [112, 101, 101, 100]) (by decide) w10 (z_seq (l1 := [32, 68]) (by decide) n1 (z_seq (l1 := [32, 68]) (by decide) n2 (z_lst n3)))
  unfold P_X9_readsS F_X9_readsS
  simp only [s2, q_L, forall_eq', ea]
  by_cases d : z_cx n tx p = 116
  · rw [if_pos d] at s3 s7
    rw [decide_eq_true d, z_b1' rfl, if_neg (by decide)]
    obtain ⟨o1, o2⟩ := z_outI w9 s6 s3 s7 s4 s5
    exact ⟨⟨s1, fun q => absurd q (by decide), fun _ => ⟨o1, trivial⟩⟩, fun _ => o2, fun q => absurd d q⟩
  · rw [if_neg d] at s3 s7
    rw [decide_eq_false d, z_b0 (by decide), if_pos rfl]
    obtain ⟨o1, o2⟩ := z_outI (τ := τ) (code := 118) k (σ := q_up μ 236 a 118) (z_mg.cd.tm s6) (by rw [q_up_nk (by decide)]; exact s3) s7 (q_up_eq _ _ _ _) (s5.tr z_mg.cd)
    simp only [q_L, forall_eq'] at o1 o2
    exact ⟨⟨s1, fun _ => ⟨hv, o1⟩, fun q => absurd rfl q⟩, fun q => absurd q d, fun _ => o2⟩
theorem z_rP (hn : n ≤ 60) (htx : ∀ i, i < n → tx i < 200) (ha : a + 4 ≤ 124) (ht : z_tm σ n tx) (hx : σ 229 17 = nI p) (hp : p ≤ n) (h36 : σ 236 a = nI 112) (hg : z_mg a τ σ) : P_X9_readsP (nI a) σ ∧ (z_cx n tx p = 97 → z_out n tx a τ (z_pm (z_cx n tx) [115, 115, 32, 68] (z_x0 (p + 1))) 112 (F_X9_readsP (nI a) σ)) ∧ (¬ z_cx n tx p = 97 → z_out n tx a τ (z_pm (z_cx n tx) [114, 111, 116, 101, 115, 116, 32, 68, 68, 75] (z_x0 p)) 111 (F_X9_readsP (nI a) σ)) := by
  have ea : (nI a).toNatClampNeg = a := nI_clamp (by omega)
  have hv : vp_in (nI a) (q_len 236) := vp_in_nI (N := 124) (by omega) (by decide)
  obtain ⟨s1, μ, s2, s3, s4, s5, s6, s7⟩ := z_one hn htx (c := 97) (by decide) (by decide) (by decide) ht hx hp h36 hg
  have s1 : P_X9_isSign 97 σ := s1
  have s2 : F_X9_isSign 97 σ = (z_b (decide (z_cx n tx p = 97)), μ) := s2
  have w11 : z_ok n tx a [115, 115] (P_X9_isWord 11) (F_X9_isWord 11) 0 := z_iw hn htx (i := 2) (by decide)
  have w12 : z_ok n tx a [114, 111, 116, 101, 115, 116] (P_X9_isWord 12) (F_X9_isWord 12) 0 := z_iw hn htx (i := 3) (by decide)
  have n1 : z_ok n tx a [32, 68] (P_X9_isSpaced 1 (nI a + 1)) (F_X9_isSpaced 1 (nI a + 1)) 0 := z_isp hn htx (W := 1) (.inl ⟨rfl, rfl⟩) (by decide) ha (by rw [z_l1, z_add])
  have n2 : z_ok n tx a [68] (P_X9_isNumber 1 (nI a + 2)) (F_X9_isNumber 1 (nI a + 2)) 1 := z_in' hn htx (W := 1) (.inl ⟨rfl, rfl⟩) (by decide) ha (by rw [z_l2, z_add])
  have n3 : z_ok n tx a [75] (P_X9_isKind (nI a + 3)) (F_X9_isKind (nI a + 3)) 2 := z_ikd hn htx (by decide) ha (by rw [z_l3, z_add])
  have k1 : z_ok n tx a [115, 115, 32, 68] _ _ 0 := z_seq (l1 := [115, 115]) (by decide) w11 (z_lst n1)
  have k : z_ok n tx a [114, 111, 116, 101, 115, 116, 32, 68, 68, 75] _ _ 0 := z_seq (l1 := [114, 111, 116, 101, 115, 116]) (by decide) w12 (z_seq (l1 := [32, 68]) (by decide) n1 (z_seq (l1 := [68]) (by decide) n2 (z_lst n3)))
  unfold P_X9_readsP F_X9_readsP
  simp only [s2, q_L, forall_eq', ea]
  by_cases d : z_cx n tx p = 97
  · rw [if_pos d] at s3 s7
    rw [decide_eq_true d, z_b1' rfl, if_neg (by decide)]
    obtain ⟨o1, o2⟩ := z_outI k1 s6 s3 s7 s4 s5
    simp only [q_L, forall_eq'] at o1 o2
    exact ⟨⟨s1, fun q => absurd q (by decide), fun _ => o1⟩, fun _ => o2, fun q => absurd d q⟩
  · rw [if_neg d] at s3 s7
    rw [decide_eq_false d, z_b0 (by decide), if_pos rfl]
    obtain ⟨o1, o2⟩ := z_outI (τ := τ) (code := 111) k (σ := q_up μ 236 a 111) (z_mg.cd.tm s6) (by rw [q_up_nk (by decide)]; exact s3) s7 (q_up_eq _ _ _ _) (s5.tr z_mg.cd)
    simp only [q_L, forall_eq'] at o1 o2
    exact ⟨⟨s1, fun _ => ⟨hv, o1⟩, fun q => absurd rfl q⟩, fun q => absurd q d, fun _ => o2⟩
theorem z_rD (hn : n ≤ 60) (htx : ∀ i, i < n → tx i < 200) (ha : a + 4 ≤ 124) (ht : z_tm σ n tx) (hx : σ 229 17 = nI p) (hp : p ≤ n) (h36 : σ 236 a = nI 100) (hg : z_mg a τ σ) : P_X9_readsD (nI a) σ ∧ (¬ z_cx n tx p = 114 → z_out n tx a τ (false, z_x0 p) 100 (F_X9_readsD (nI a) σ)) ∧ (z_cx n tx p = 114 → z_cx n tx (p + 1) = 111 → z_out n tx a τ (z_pm (z_cx n tx) [112, 32, 68, 32, 78] (z_x0 (p + 2))) 100 (F_X9_readsD (nI a) σ)) ∧ (z_cx n tx p = 114 → ¬ z_cx n tx (p + 1) = 111 → z_out n tx a τ (z_pm (z_cx n tx) [97, 119, 32, 78] (z_x0 (p + 1))) 119 (F_X9_readsD (nI a) σ)) := by
  have ea : (nI a).toNatClampNeg = a := nI_clamp (by omega)
  have hv : vp_in (nI a) (q_len 236) := vp_in_nI (N := 124) (by omega) (by decide)
  obtain ⟨s1, μ, s2, s3, s4, s5, s6, s7⟩ := z_one hn htx (c := 114) (by decide) (by decide) (by decide) ht hx hp h36 hg
  have s1 : P_X9_isSign 114 σ := s1
  have s2 : F_X9_isSign 114 σ = (z_b (decide (z_cx n tx p = 114)), μ) := s2
  have w13 : z_ok n tx a [112] (P_X9_isWord 13) (F_X9_isWord 13) 0 := z_iw hn htx (i := 4) (by decide)
  have w14 : z_ok n tx a [97, 119] (P_X9_isWord 14) (F_X9_isWord 14) 0 := z_iw hn htx (i := 5) (by decide)
  have n1 : z_ok n tx a [32, 68] (P_X9_isSpaced 1 (nI a + 1)) (F_X9_isSpaced 1 (nI a + 1)) 0 := z_isp hn htx (W := 1) (.inl ⟨rfl, rfl⟩) (by decide) ha (by rw [z_l1, z_add])
  have m1 : z_ok n tx a [32, 78] (P_X9_isSpaced 3 (nI a + 1)) (F_X9_isSpaced 3 (nI a + 1)) 0 := z_isp hn htx (W := 3) (.inr ⟨rfl, rfl⟩) (by decide) ha (by rw [z_l1, z_add])
  have n2 : z_ok n tx a [32, 78] (P_X9_isSpaced 3 (nI a + 2)) (F_X9_isSpaced 3 (nI a + 2)) 1 := z_isp hn htx (W := 3) (.inr ⟨rfl, rfl⟩) (by decide) ha (by rw [z_l2, z_add])
  have k1 : z_ok n tx a [112, 32, 68, 32, 78] _ _ 0 := z_seq (l1 := [112]) (by decide) w13 (z_seq (l1 := [32, 68]) (by decide) n1 (z_lst n2))
  have k2 : z_ok n tx a [97, 119, 32, 78] _ _ 0 := z_seq (l1 := [97, 119]) (by decide) w14 (z_lst m1)
  unfold P_X9_readsD F_X9_readsD
  simp only [s2, q_L, forall_eq', ea]
  by_cases d : z_cx n tx p = 114
  · rw [if_pos d] at s3 s7
    rw [decide_eq_true d, z_b1' rfl, if_neg (by decide)]
    obtain ⟨u1, ν, u2, u3, u4, u5, u6, u7⟩ := z_one hn htx (c := 111) (by decide) (by decide) (by decide) s6 s3 s7 s4 s5
    have u1 : P_X9_isSign 111 μ := u1
    have u2 : F_X9_isSign 111 μ = (z_b (decide (z_cx n tx (p + 1) = 111)), ν) := u2
    simp only [u2]
    by_cases f : z_cx n tx (p + 1) = 111
    · rw [if_pos f] at u3 u7
      rw [decide_eq_true f, z_b1' rfl, if_neg (by decide)]
      obtain ⟨o1, o2⟩ := z_outI k1 u6 u3 u7 u4 u5
      simp only [q_L, forall_eq'] at o1 o2
      exact ⟨⟨s1, fun q => absurd q (by decide), fun _ => ⟨u1, fun q => absurd q (by decide), fun _ => o1⟩⟩, fun q => absurd d q, fun _ _ => o2, fun _ q => absurd f q⟩
    · rw [if_neg f] at u3 u7
      rw [decide_eq_false f, z_b0 (by decide), if_pos rfl]
      obtain ⟨o1, o2⟩ := z_outI (τ := τ) (code := 119) k2 (σ := q_up ν 236 a 119) (z_mg.cd.tm u6) (by rw [q_up_nk (by decide)]; exact u3) u7 (q_up_eq _ _ _ _) (u5.tr z_mg.cd)
      simp only [q_L, forall_eq'] at o1 o2
      exact ⟨⟨s1, fun q => absurd q (by decide), fun _ => ⟨u1, fun _ => ⟨hv, o1⟩, fun q => absurd rfl q⟩⟩, fun q => absurd d q, fun _ q => absurd q f, fun _ _ => o2⟩
  · rw [if_neg d] at s3
    rw [decide_eq_false d, z_b0 (by decide), if_pos rfl]
    exact ⟨⟨s1, fun _ => trivial, fun q => absurd rfl q⟩, fun _ => ⟨μ, rfl, s3, fun q => (by cases q), s5⟩, fun q => absurd q d, fun q => absurd q d⟩
end q82
/-- the codes of the commands -/
def z_cd (i : Nat) : Nat := [115, 114, 112, 100, 113, 111, 118, 119].getD i 0
def z_mh (c : Nat) (τ μ : q_M) : Prop := (∀ b, b ≠ 229 → b ≠ 236 → μ b = τ b) ∧ (∀ j, j ≠ 17 → j ≠ 18 → μ 229 j = τ 229 j) ∧ ∀ j, j < 4 * c ∨ 4 * c + 4 ≤ j → μ 236 j = τ 236 j
theorem z_rcM {n c p : Nat} {tx : Nat → Nat} {τ : q_M} (hn : n ≤ 60) (htx : ∀ i, i < n → tx i < 200) (ht : z_tm τ n tx) (hx : τ 229 17 = nI p) (hc : τ 229 18 = nI c) (hp : p ≤ n) (hc30 : c ≤ 30) : P_X9_readsCommand τ ∧ ∃ μ, F_X9_readsCommand τ = (z_b (z_cmd (z_cx n tx) p).1, μ) ∧ μ 229 17 = nI (z_cmd (z_cx n tx) p).2.2.1 ∧ ((z_cmd (z_cx n tx) p).1 = true → μ 229 18 = nI (c + 1) ∧ μ 236 (4 * c) = nI (z_cd (z_cmd (z_cx n tx) p).2.1) ∧ z_rm μ (4 * c) (z_cmd (z_cx n tx) p).2.2) ∧ z_mh c τ μ := by
  obtain ⟨sP, sF⟩ := z_sgn ht hx hp hn
  have e4 : (4 : Int32) * τ 229 18 = nI (4 * c) := by rw [hc, z_l4, z_mul]
  have ec : (nI (4 * c)).toNatClampNeg = 4 * c := nI_clamp (by omega)
  have hv : vp_in (nI (4 * c)) (q_len 236) := vp_in_nI (N := 124) (by omega) (by decide)
  have hs : ∀ v, 0 < v → v < 200 → (F_X9_sign τ = nI v) = (z_cx n tx p = v) := fun v h0 h1 => z_sgc ht hx hp hn htx h0 h1
  have h115 : (F_X9_sign τ = 115) = (z_cx n tx p = 115) := hs 115 (by decide) (by decide)
  have h112 : (F_X9_sign τ = 112) = (z_cx n tx p = 112) := hs 112 (by decide) (by decide)
  have h100 : (F_X9_sign τ = 100) = (z_cx n tx p = 100) := hs 100 (by decide) (by decide)
  have h114 : (F_X9_sign τ = 114) = (z_cx n tx p = 114) := hs 114 (by decide) (by decide)
  have h113 : (F_X9_sign τ = 113) = (z_cx n tx p = 113) := hs 113 (by decide) (by decide)
  by_cases c0 : z_cx n tx p = 115 ∨ z_cx n tx p = 112 ∨ z_cx n tx p = 100 ∨ z_cx n tx p = 114 ∨ z_cx n tx p = 113
  · have hpn : p < n := by
      by_cases z : p < n
      · exact z
      · rw [z_cx0 p (by omega)] at c0; omega
    have ecx : z_cx n tx p = tx p := if_pos hpn
    have esg : F_X9_sign τ = nI (z_cx n tx p) := by rw [sF, if_pos hpn, ecx]
    have e1 : F_X9_isFirst (F_X9_sign τ) τ = 1 := by
      unfold F_X9_isFirst
      simp only [h115, h112, h100, h114, h113]
      rcases c0 with q | q | q | q | q <;> rw [q] <;> decide
    have e17 : (q_up τ 236 (4 * c) (F_X9_sign τ)) 229 17 + 1 = nI (p + 1) := by rw [q_up_nk (by decide), hx, z_l1, z_add]
    have e18 : (q_up (q_up τ 236 (4 * c) (F_X9_sign τ)) 229 17 (nI (p + 1))) 229 18 + 1 = nI (c + 1) := by rw [q_up_nj (by decide), q_up_nk (by decide), hc, z_l1, z_add]
    have s8t : z_tm (q_up (q_up (q_up τ 236 (4 * c) (F_X9_sign τ)) 229 17 (nI (p + 1))) 229 18 (nI (c + 1))) n tx := ⟨by rw [q_up_nj (by decide), q_up_nj (by decide), q_up_nk (by decide)]; exact ht.1, fun i hi => by rw [q_up_nk (by decide), q_up_nk (by decide), q_up_nk (by decide)]; exact ht.2 i hi⟩
    have s8x : (q_up (q_up (q_up τ 236 (4 * c) (F_X9_sign τ)) 229 17 (nI (p + 1))) 229 18 (nI (c + 1))) 229 17 = nI (p + 1) := by rw [q_up_nj (by decide), q_up_eq]
    have s8c : (q_up (q_up (q_up τ 236 (4 * c) (F_X9_sign τ)) 229 17 (nI (p + 1))) 229 18 (nI (c + 1))) 236 (4 * c) = nI (z_cx n tx p) := by rw [q_up_nk (by decide), q_up_nk (by decide), q_up_eq, esg]
    have s8m : (q_up (q_up (q_up τ 236 (4 * c) (F_X9_sign τ)) 229 17 (nI (p + 1))) 229 18 (nI (c + 1))) 229 18 = nI (c + 1) := q_up_eq _ _ _ _
    have s8h : z_mh c τ (q_up (q_up (q_up τ 236 (4 * c) (F_X9_sign τ)) 229 17 (nI (p + 1))) 229 18 (nI (c + 1))) := ⟨fun b b1 b2 => by rw [q_up_off b1, q_up_off b1, q_up_off b2], fun j j1 j2 => by rw [q_up_nj j2, q_up_nj j1, q_up_nk (by decide)], fun j hj => by rw [q_up_nk (by decide), q_up_nk (by decide), q_up_nj (by omega)]⟩
    unfold P_X9_readsCommand F_X9_readsCommand
    simp only [e4, ec, e1, z_10, if_false, q_L, forall_eq', e17, e18]
    generalize q_up (q_up (q_up τ 236 (4 * c) (F_X9_sign τ)) 229 17 (nI (p + 1))) 229 18 (nI (c + 1)) = σ8 at s8t s8x s8c s8m s8h ⊢
    have fin : ∀ (i : Nat) (r : Bool × z_St), z_cmd (z_cx n tx) p = z_res i r → P_X9_readsRest (F_X9_sign τ) (nI (4 * c)) σ8 → z_out n tx (4 * c) σ8 r (z_cd i) (F_X9_readsRest (F_X9_sign τ) (nI (4 * c)) σ8) → (P_X9_sign τ ∧ (False → True) ∧ (¬ False → vp_in (nI (4 * c)) (q_len 236) ∧ P_X9_readsRest (F_X9_sign τ) (nI (4 * c)) σ8 ∧ True)) ∧ ∃ μ, ((F_X9_readsRest (F_X9_sign τ) (nI (4 * c)) σ8).1, (F_X9_readsRest (F_X9_sign τ) (nI (4 * c)) σ8).2) = (z_b (z_cmd (z_cx n tx) p).1, μ) ∧ μ 229 17 = nI (z_cmd (z_cx n tx) p).2.2.1 ∧ ((z_cmd (z_cx n tx) p).1 = true → μ 229 18 = nI (c + 1) ∧ μ 236 (4 * c) = nI (z_cd (z_cmd (z_cx n tx) p).2.1) ∧ z_rm μ (4 * c) (z_cmd (z_cx n tx) p).2.2) ∧ z_mh c τ μ := by
      rintro i r er hP ⟨μ, o1, o2, o3, o4⟩
      refine ⟨⟨sP, fun q => q.elim, fun _ => ⟨hv, hP, trivial⟩⟩, μ, ?_⟩
      have hh : z_mh c τ μ := ⟨fun b b1 b2 => by rw [o4.1 b b1 b2, s8h.1 b b1 b2], fun j j1 j2 => by rw [o4.2.1 j j1, s8h.2.1 j j1 j2], fun j hj => by rw [o4.2.2 j hj, s8h.2.2 j hj]⟩
      rw [er, o1]
      unfold z_res
      by_cases d : r.1 = true
      · rw [if_pos d, d]
        exact ⟨rfl, o2, fun _ => ⟨by rw [o4.2.1 18 (by decide)]; exact s8m, (o3 d).2, (o3 d).1⟩, hh⟩
      · rw [if_neg d]
        refine ⟨?_, o2, fun q => (by cases q), hh⟩
        rw [z_b0 d]
        rfl
    have hp1 : p + 1 ≤ n := hpn
    have hg0 : z_mg (4 * c) σ8 σ8 := ⟨fun _ _ _ => rfl, fun _ _ => rfl, fun _ _ => rfl⟩
    have ha : 4 * c + 4 ≤ 124 := by omega
    by_cases q1 : z_cx n tx p = 115
    · rw [q1] at s8c
      obtain ⟨r1, r2, r3⟩ := z_rS hn htx ha s8t s8x hp1 s8c hg0
      have eR : F_X9_readsRest (F_X9_sign τ) (nI (4 * c)) σ8 = F_X9_readsS (nI (4 * c)) σ8 := by
        unfold F_X9_readsRest q_L
        simp only [h115, h112, h100, h114]
        rw [if_neg (by omega), if_neg (by omega), if_neg (by omega), if_pos q1]
      have hP : P_X9_readsRest (F_X9_sign τ) (nI (4 * c)) σ8 := by
        unfold P_X9_readsRest
        simp only [h115, h112, h100, h114, h113]
        exact ⟨fun z => by omega, fun _ => ⟨fun z => by omega, fun _ => ⟨fun z => by omega, fun _ => ⟨fun _ => ⟨r1, trivial⟩, fun z => absurd q1 z⟩⟩⟩⟩
      by_cases q2 : z_cx n tx (p + 1) = 116
      · exact fin 0 _ (z_cmd_st z_cx0 q1 q2) hP (by rw [eR]; exact r2 q2)
      · exact fin 6 _ (z_cmd_sp z_cx0 q1 q2) hP (by rw [eR]; exact r3 q2)
    · by_cases q1b : z_cx n tx p = 112
      · rw [q1b] at s8c
        obtain ⟨r1, r2, r3⟩ := z_rP hn htx ha s8t s8x hp1 s8c hg0
        have eR : F_X9_readsRest (F_X9_sign τ) (nI (4 * c)) σ8 = F_X9_readsP (nI (4 * c)) σ8 := by
          unfold F_X9_readsRest q_L
          simp only [h115, h112, h100, h114]
          rw [if_neg (by omega), if_pos q1b]
        have hP : P_X9_readsRest (F_X9_sign τ) (nI (4 * c)) σ8 := by
          unfold P_X9_readsRest
          simp only [h115, h112, h100, h114, h113]
          exact ⟨fun z => by omega, fun _ => ⟨fun _ => ⟨r1, trivial⟩, fun z => absurd q1b z⟩⟩
        by_cases q2 : z_cx n tx (p + 1) = 97
        · exact fin 2 _ (z_cmd_pa z_cx0 q1b q2) hP (by rw [eR]; exact r2 q2)
        · exact fin 5 _ (z_cmd_po z_cx0 q1b q2) hP (by rw [eR]; exact r3 q2)
      · by_cases q1c : z_cx n tx p = 100
        · rw [q1c] at s8c
          obtain ⟨r1, r2, r3, r4⟩ := z_rD hn htx ha s8t s8x hp1 s8c hg0
          have eR : F_X9_readsRest (F_X9_sign τ) (nI (4 * c)) σ8 = F_X9_readsD (nI (4 * c)) σ8 := by
            unfold F_X9_readsRest q_L
            simp only [h115, h112, h100, h114]
            rw [if_pos q1c]
          have hP : P_X9_readsRest (F_X9_sign τ) (nI (4 * c)) σ8 := by
            unfold P_X9_readsRest
            simp only [h115, h112, h100, h114, h113]
            exact ⟨fun _ => ⟨r1, trivial⟩, fun z => absurd q1c z⟩
          by_cases q2 : z_cx n tx (p + 1) = 114
          · by_cases q3 : z_cx n tx (p + 2) = 111
            · exact fin 3 _ (z_cmd_do z_cx0 q1c q2 q3) hP (by rw [eR]; exact r3 q2 q3)
            · exact fin 7 _ (z_cmd_da z_cx0 q1c q2 q3) hP (by rw [eR]; exact r4 q2 q3)
          · exact fin 3 (false, z_x0 (p + 1)) (z_cmd_d0 q1c q2) hP (by rw [eR]; exact r2 q2)
        · by_cases q1d : z_cx n tx p = 114
          · rw [q1d] at s8c
            have w15 : z_ok n tx (4 * c) [117, 110] (P_X9_isWord 15) (F_X9_isWord 15) 0 := z_iw hn htx (i := 6) (by decide)
            have m1 : z_ok n tx (4 * c) [32, 78] (P_X9_isSpaced 3 (nI (4 * c) + 1)) (F_X9_isSpaced 3 (nI (4 * c) + 1)) 0 := z_isp hn htx (W := 3) (.inr ⟨rfl, rfl⟩) (by decide) ha (by rw [z_l1, z_add])
            have k : z_ok n tx (4 * c) [117, 110, 32, 78] _ _ 0 := z_seq (l1 := [117, 110]) (by decide) w15 (z_lst m1)
            obtain ⟨o1, o2⟩ := z_outI k s8t s8x hp1 s8c hg0
            have eR : F_X9_readsRest (F_X9_sign τ) (nI (4 * c)) σ8 = q_L (F_X9_isWord 15 σ8).2 (fun μ : q_M => if (F_X9_isWord 15 σ8).1 = 0 then (0, μ) else q_L (F_X9_isSpaced 3 (nI (4 * c) + 1) μ).2 (fun ν : q_M => if (F_X9_isSpaced 3 (nI (4 * c) + 1) μ).1 = 0 then (0, ν) else (1, ν))) := by
              unfold F_X9_readsRest q_L
              simp only [h115, h112, h100, h114]
              rw [if_neg (by omega), if_neg (by omega), if_pos q1d]
            have hP : P_X9_readsRest (F_X9_sign τ) (nI (4 * c)) σ8 := by
              unfold P_X9_readsRest
              simp only [h115, h112, h100, h114, h113]
              exact ⟨fun z => by omega, fun _ => ⟨fun z => by omega, fun _ => ⟨fun _ => o1, fun z => absurd q1d z⟩⟩⟩
            exact fin 1 _ (z_cmd_ru z_cx0 q1d) hP (by rw [eR]; exact o2)
          · have q1e : z_cx n tx p = 113 := by omega
            rw [q1e] at s8c
            have w16 : z_ok n tx (4 * c) [117, 105, 116] (P_X9_isWord 16) (F_X9_isWord 16) 0 := z_iw hn htx (i := 7) (by decide)
            have m1 : z_ok n tx (4 * c) [32, 68] (P_X9_isSpaced 1 (nI (4 * c) + 1)) (F_X9_isSpaced 1 (nI (4 * c) + 1)) 0 := z_isp hn htx (W := 1) (.inl ⟨rfl, rfl⟩) (by decide) ha (by rw [z_l1, z_add])
            have k : z_ok n tx (4 * c) [117, 105, 116, 32, 68] _ _ 0 := z_seq (l1 := [117, 105, 116]) (by decide) w16 (z_lst m1)
            obtain ⟨o1, o2⟩ := z_outI k s8t s8x hp1 s8c hg0
            have eR : F_X9_readsRest (F_X9_sign τ) (nI (4 * c)) σ8 = q_L (F_X9_isWord 16 σ8).2 (fun μ : q_M => if (F_X9_isWord 16 σ8).1 = 0 then (0, μ) else q_L (F_X9_isSpaced 1 (nI (4 * c) + 1) μ).2 (fun ν : q_M => if (F_X9_isSpaced 1 (nI (4 * c) + 1) μ).1 = 0 then (0, ν) else (1, ν))) := by
              unfold F_X9_readsRest q_L
              simp only [h115, h112, h100, h114, h113]
              rw [if_neg (by omega), if_neg (by omega), if_neg (by omega), if_neg (by omega), if_pos q1e]
            have hP : P_X9_readsRest (F_X9_sign τ) (nI (4 * c)) σ8 := by
              unfold P_X9_readsRest
              simp only [h115, h112, h100, h114, h113]
              exact ⟨fun z => by omega, fun _ => ⟨fun z => by omega, fun _ => ⟨fun z => by omega, fun _ => ⟨fun z => by omega, fun _ => ⟨fun _ => o1, fun z => absurd q1e z⟩⟩⟩⟩⟩
            exact fin 4 _ (z_cmd_qu z_cx0 q1e) hP (by rw [eR]; exact o2)
  · have e0 : F_X9_isFirst (F_X9_sign τ) τ = 0 := by
      unfold F_X9_isFirst
      simp only [h115, h112, h100, h114, h113]
      rw [if_neg (by omega), if_neg (by omega), if_neg (by omega), if_neg (by omega), if_neg (by omega)]
    have er := z_cmd_no (s := z_cx n tx) (p := p) (by omega) (by omega) (by omega) (by omega) (by omega)
    unfold P_X9_readsCommand F_X9_readsCommand q_L
    simp only [e4, e0, if_true]
    rw [er]
    exact ⟨fun x1 _ => ⟨sP, fun x3 h3 => by subst h3; exact ⟨fun _ => trivial, fun q => absurd e0 q⟩⟩, τ, rfl, hx, fun q => (by cases q), ⟨fun _ _ _ => rfl, fun _ _ _ => rfl, fun _ _ => rfl⟩⟩
