/-! writeBanner, bannerAt, type. -/
theorem z_J.gen {k k' : Nat} {σ μ : q_M} {b : Nat → Nat} {t : Nat → Nat → Nat} {nw sz : Nat} {hb : Nat → Nat → Nat} {ht : Nat → Nat → Nat → Nat} {sb : Nat → Nat} {st : Nat → Nat → Nat} (h : z_J k σ b t nw sz hb ht sb st) (hk : k ≤ k') (e : ∀ a, a < 222 ∨ a = 230 ∨ a = 232 ∨ a = 233 → μ a = σ a) (e9 : ∀ j, j = 4 ∨ j = 6 ∨ j = 7 ∨ j = 8 ∨ j = 9 ∨ j = 11 → μ 229 j = σ 229 j) (hB : z_iB μ) (hT : z_iT μ) : z_J k' μ b t nw sz hb ht sb st := by
  obtain ⟨h1, h2, h3, h4, h5, h6, h7, h8, h9, h10, h11, h12, h13⟩ := h
  have e2 := e 220 (by omega)
  refine ⟨h1.off (fun a _ _ => e a (by omega)), h2.mv (fun a _ _ => e a (by omega)), h3.mv (fun a _ _ => e a (by omega)), h4.off (e 230 (by omega)), h5.k hk, h6.k hk, h7.mv (fun a _ _ _ => e a (by omega)), h8.mv (e9 4 (by omega)) (e 233 (by omega)), ?_, ?_, ?_, hB, hT⟩
  · exact h9.mv hk (fun a _ _ => e a (by omega)) (by rw [e2]) (e9 11 (by omega)) (e 232 (by omega))
  · exact h10.mv (by rw [e2]) (by rw [e2]) (e9 8 (by omega)) (e9 9 (by omega))
  · exact h11.mv (by rw [e2]) (by rw [e2]) (e9 6 (by omega)) (e9 7 (by omega))
theorem sq_writeBanner {k : Nat} {σ : q_M} (hk : k < 512) (hI : z_Inv k σ) (g : Int32) : sim_writeBanner g σ ∧ z_Inv (k + 1) (to_writeBanner g σ) := by
  obtain ⟨b, t, nw, sz, hb, ht, sb, st, hJ⟩ := hI
  have hR := hJ.1
  have hM := hJ.2.2.2.1
  have hV := hJ.2.2.2.2.1
  have n6 := hV.n6
  unfold sim_writeBanner q_SimI to_writeBanner
  by_cases hg : ∃ w, w < b 3 ∧ g = nI w
  · obtain ⟨w, hw, rfl⟩ := hg
    have hW := hV.te w hw
    obtain ⟨p1, μ, eF, tC, oC⟩ := z_wbC hR hV (by omega) hw
    have eW : W_writeBanner (nI w) σ = (0, q_up μ 237 0 (nI (z_bT (t w)).1)) := by
      unfold W_writeBanner
      rw [eF]
    rw [eW]
    dsimp only
    have o1 : ∀ a, a ≠ 237 → (q_up μ 237 0 (nI (z_bT (t w)).1)) a = μ a := fun a ha => q_up_off ha
    have o2 : (q_up μ 237 0 (nI (z_bT (t w)).1)) 237 0 = nI (z_bT (t w)).1 := q_up_eq _ _ _ _
    generalize q_up μ 237 0 (nI (z_bT (t w)).1) = ω at o1 o2
    have oω : ∀ a, a ≠ 226 → a ≠ 228 → a ≠ 237 → ω a = σ a := fun a x1 x2 x3 => by rw [o1 a x3, oC a x1 x2]
    obtain ⟨m1, m2, m3, m4⟩ := z_wbM (hM.off (oω 230 (by decide) (by decide) (by decide))) hV (by omega) hw
    generalize F_X9_writeBanner (nI w) ω = y at m2 m3 m4
    have oy : ∀ a, a ≠ 229 → a ≠ 234 → y.2 a = ω a := fun a x1 x2 => by rw [m4.1 a x1 x2, q_up_off x1]
    have oy9 : ∀ j, j ≠ 13 → j ≠ 5 → y.2 229 j = ω 229 j := fun j x1 x2 => by rw [m4.2 j x1, q_up_nj x2]
    refine ⟨⟨⟨p1, fun E q => ?_⟩, m1, ?_, fun _ => ?_⟩, ?_⟩
    · rw [eF] at q
      injection q
    · rw [m4.2 5 (by decide), q_up_eq]
    · rw [oy 237 (by decide) (by decide), o2, m2]
    · refine ⟨b, t, nw, sz, hb, ht, sb, st, hJ.gen (by omega) (fun a ha => ?_) (fun j hj => ?_) ?_ ?_⟩
      · rw [oy a (by omega) (by omega), oω a (by omega) (by omega) (by omega)]
      · rw [oy9 j (by omega) (by omega), oω 229 (by decide) (by decide) (by decide)]
      · have nA := z_bAn hW
        have nS := z_bSn hW (by omega) hV.ck (z_bA (t w))
        have nE := z_bEn hW (by omega) hV.l1 (z_bS (t w) (z_bA (t w)))
        have hn : (z_bT (t w)).1 ≤ 40 := by
          unfold z_bT
          omega
        have ha : z_asc (z_bT (t w)) := z_bEa (z_bSa (z_bAa (t w)))
        refine ⟨(z_bT (t w)).1, hn, ?_, m3.1, fun i hi => ⟨?_, (z_bT (t w)).2 i, ha i hi, ?_⟩⟩
        · rw [oy 226 (by decide) (by decide), o1 226 (by decide), tC.1]
        · rw [oy 228 (by decide) (by decide), o1 228 (by decide), tC.2 i hi, m3.2 i hi]
        · rw [oy 228 (by decide) (by decide), o1 228 (by decide), tC.2 i hi]
      · exact hJ.2.2.2.2.2.2.2.2.2.2.2.2.mv (by rw [oy 225 (by decide) (by decide), oω 225 (by decide) (by decide) (by decide)]) (by rw [oy 227 (by decide) (by decide), oω 227 (by decide) (by decide) (by decide)]) (by rw [oy9 16 (by decide) (by decide), oω 229 (by decide) (by decide) (by decide)]) (by rw [oy 235 (by decide) (by decide), oω 235 (by decide) (by decide) (by decide)])
  · have eF : F_X8_writeBanner g σ = (.inr "java/lang/IndexOutOfBoundsException", σ) := by
      unfold F_X8_writeBanner
      rw [z_tw0 hR hg]
    have eW : W_writeBanner g σ = (1, σ) := by
      unfold W_writeBanner
      rw [eF]
      show (q_code nx_writeBanner "java/lang/IndexOutOfBoundsException", σ) = (1, σ)
      rw [show q_code nx_writeBanner "java/lang/IndexOutOfBoundsException" = 1 by decide +kernel]
    have e0 := z_noT hM n6 hg
    have eM : F_X9_writeBanner g σ = (0, q_up σ 229 5 1) := by unfold F_X9_writeBanner; rw [if_pos e0]
    have hPM : P_X9_writeBanner g σ := by
      unfold P_X9_writeBanner
      exact ⟨fun _ => trivial, fun q => absurd e0 q⟩
    have hP : P_X8_writeBanner g σ := by
      intro r hr
      rw [z_tw0 hR hg] at hr
      subst hr
      trivial
    rw [eW]
    dsimp only
    rw [eM]
    refine ⟨⟨⟨hP, fun E q => ?_⟩, hPM, (by dsimp only; exact q_up_eq _ _ _ _), fun q => absurd q (by decide)⟩, ?_⟩
    · rw [eF] at q
      injection q with q
      rw [← q]
      simp
    · exact ⟨b, t, nw, sz, hb, ht, sb, st, hJ.sm (by omega) (fun a _ a1 _ _ _ _ => q_up_off a1) (fun j j5 _ _ _ => q_up_nj j5)⟩
theorem z_isB {i n : Nat} {τ : q_M} (hi : i < n) (hn : n ≤ 40) : F_X9_isIn (nI i) 0 (nI n - 1) τ = 1 := by
  unfold F_X9_isIn
  rw [z_l1, z_sub (by omega), if_neg (nI_pos (by omega)), if_neg (show ¬ nI (n - 1) < nI i by rw [z_lt (by omega) (by omega)]; omega)]
theorem z_noB {g : Int32} {n : Nat} {τ : q_M} (hg : ¬ ∃ i, i < n ∧ g = nI i) (hn : n ≤ 40) : F_X9_isIn g 0 (nI n - 1) τ = 0 := by
  unfold F_X9_isIn
  rcases z_int g with h | ⟨m, hm, rfl⟩
  · rw [if_pos h]
  · have hb : n ≤ m := by
      by_cases e : m < n
      · exact absurd ⟨m, e, rfl⟩ hg
      · omega
    rw [z_l1, if_neg (nI_pos hm), if_pos]
    rw [Int32.lt_iff_toInt_lt, pk_sub_toInt (by omega) (by omega), nI_toInt hm]
    omega
theorem z_c128 : ∀ c, c < 128 → ((nI c).toUInt32 % 65536).toInt32 = nI c ∧ narrow .char (.int (nI c)) = .int (nI c) := by
  intro c hc
  have h : ∀ c, c < 128 → ((nI c).toUInt32 % 65536).toInt32 = nI c ∧ (nI c).toUInt32.toUInt16.toUInt32.toInt32 = nI c := by decide +kernel
  obtain ⟨h1, h2⟩ := h c hc
  refine ⟨h1, ?_⟩
  show Value.int ((nI c).toUInt32.toUInt16.toUInt32.toInt32) = .int (nI c)
  rw [h2]
theorem sq_bannerAt {k : Nat} {σ : q_M} (hk : k < 512) (hI : z_Inv k σ) (g : Int32) : sim_bannerAt g σ ∧ z_Inv (k + 1) (to_bannerAt g σ) := by
  obtain ⟨b, t, nw, sz, hb, ht, sb, st, hJ⟩ := hI
  obtain ⟨n, hn, b1, b2, b3⟩ := hJ.2.2.2.2.2.2.2.2.2.2.2.1
  have hP : P_X8_bannerAt g σ := by
    refine ⟨fun _ => trivial, fun h1 => ⟨fun h2 => ⟨h1, h2, ?_, trivial⟩, fun _ => trivial⟩⟩
    rcases z_int g with h | ⟨i, hi, rfl⟩
    · exact absurd h h1
    · rw [b1, z_lt hi (by omega)] at h2
      obtain ⟨_, c, hc, ec⟩ := b3 i h2
      rw [nI_clamp hi, ec]
      exact (z_c128 c hc).2
  have ha : (∃ v, F_X8_bannerAt g σ = .inl v ∧ W_bannerAt g σ = (0, q_up σ 237 0 v) ∧ P_X9_bannerAt g (q_up σ 237 0 v) ∧ F_X9_bannerAt g (q_up σ 237 0 v) = (v, q_up (q_up σ 237 0 v) 229 5 0)) ∨ (∃ E c x, F_X8_bannerAt g σ = .inr E ∧ W_bannerAt g σ = (q_code nx_bannerAt E, σ) ∧ E ∈ nx_bannerAt ∧ q_code nx_bannerAt E = nI c ∧ 1 ≤ c ∧ c ≤ 3 ∧ P_X9_bannerAt g σ ∧ F_X9_bannerAt g σ = (x, q_up σ 229 5 (nI c))) := by
    by_cases hg : ∃ i, i < n ∧ g = nI i
    · obtain ⟨i, hi, rfl⟩ := hg
      obtain ⟨e1, c, hc, ec⟩ := b3 i hi
      obtain ⟨d1, d2⟩ := z_c128 c hc
      have hi2 : (nI i).toNatClampNeg = i := nI_clamp (by omega)
      have eF : F_X8_bannerAt (nI i) σ = .inl (nI c) := by
        unfold F_X8_bannerAt
        rw [if_neg (nI_pos (by omega)), b1, if_pos (nI_lt hi (by omega)), hi2, ec]
      have o9 : (q_up σ 237 0 (nI c)) 229 = σ 229 := q_up_off (by decide)
      have e34 : (q_up (q_up σ 237 0 (nI c)) 229 5 0) 234 i = nI c := by rw [q_up_nk (by decide), q_up_nk (by decide), ← e1, ec]
      have ei : F_X9_isIn (nI i) 0 ((q_up σ 237 0 (nI c)) 229 13 - 1) (q_up σ 237 0 (nI c)) = 1 := by
        rw [o9, b2]
        exact z_isB hi hn
      refine .inl ⟨nI c, eF, by unfold W_bannerAt; rw [eF], ?_, ?_⟩
      · unfold P_X9_bannerAt
        rw [ei, hi2, e34, d1]
        exact ⟨fun _ => trivial, fun _ => ⟨vp_in_nI (N := 40) (by omega) (by decide), d2, trivial⟩⟩
      · unfold F_X9_bannerAt
        rw [ei, if_neg (by decide), hi2, e34, d1]
    · have eF : F_X8_bannerAt g σ = .inr "java/lang/IndexOutOfBoundsException" := by
        unfold F_X8_bannerAt
        rcases z_int g with h | ⟨m, hm, rfl⟩
        · rw [if_pos h]
        · rw [if_neg (nI_pos hm), b1, if_neg (by
            rw [z_lt hm (by omega)]
            exact fun q => hg ⟨m, q, rfl⟩)]
      have ei : F_X9_isIn g 0 (σ 229 13 - 1) σ = 0 := by
        rw [b2]
        exact z_noB hg hn
      refine .inr ⟨"java/lang/IndexOutOfBoundsException", 1, 0, eF, by unfold W_bannerAt; rw [eF], by simp, by decide +kernel, by decide, by decide, ?_, ?_⟩
      · unfold P_X9_bannerAt
        exact ⟨fun _ => trivial, fun q => absurd ei q⟩
      · unfold F_X9_bannerAt
        rw [if_pos ei]
        rfl
  obtain ⟨c1, c2, c3, c4, c5⟩ := z_askX hJ (W_bannerAt g σ) ha
  exact ⟨⟨⟨hP, c1⟩, c2, c3, c4⟩, c5⟩
theorem sq_type {k : Nat} {σ : q_M} (hk : k < 512) (hI : z_Inv k σ) (g : Int32) : sim_type g σ ∧ z_Inv (k + 1) (to_type g σ) := by
  obtain ⟨b, t, nw, sz, hb, ht, sb, st, hJ⟩ := hI
  obtain ⟨n, tx, hn, c1, c2, c3⟩ := hJ.2.2.2.2.2.2.2.2.2.2.2.2
  unfold sim_type q_SimI to_type
  have bad : g < 32 ∨ 126 < g → (P_X8_type g σ ∧ (∀ E, (F_X8_type g σ).1 = .inr E → E ∈ nx_type)) ∧ W_type g σ = (1, σ) ∧ P_X9_type g σ ∧ F_X9_type g σ = (0, q_up σ 229 5 1) := by
    intro h
    have eF : F_X8_type g σ = (.inr "java/lang/IllegalArgumentException", σ) := by
      unfold F_X8_type
      rcases h with h | h
      · rw [if_pos h]
      · by_cases h0 : g < 32
        · rw [if_pos h0]
        · rw [if_neg h0, if_pos h]
    have ei : F_X9_isIn g 32 126 σ = 0 := by
      unfold F_X9_isIn
      rcases h with h | h
      · rw [if_pos h]
      · by_cases h0 : g < 32
        · rw [if_pos h0]
        · rw [if_neg h0, if_pos h]
    refine ⟨⟨?_, fun E q => ?_⟩, ?_, ?_, ?_⟩
    · refine ⟨fun _ => trivial, fun h1 => ⟨fun _ => trivial, fun h2 => ?_⟩⟩
      rcases h with h | h
      · exact absurd h h1
      · exact absurd h h2
    · rw [eF] at q
      injection q with q
      rw [← q]
      simp
    · unfold W_type
      rw [eF]
      show (q_code nx_type "java/lang/IllegalArgumentException", σ) = (1, σ)
      rw [show q_code nx_type "java/lang/IllegalArgumentException" = 1 by decide +kernel]
    · unfold P_X9_type
      exact ⟨fun _ => trivial, fun q => absurd ei q⟩
    · unfold F_X9_type
      rw [if_pos ei]
  have fin : (P_X8_type g σ ∧ (∀ E, (F_X8_type g σ).1 = .inr E → E ∈ nx_type)) ∧ W_type g σ = (1, σ) ∧ P_X9_type g σ ∧ F_X9_type g σ = (0, q_up σ 229 5 1) → (((P_X8_type g σ ∧ (∀ E, (F_X8_type g σ).1 = .inr E → E ∈ nx_type)) ∧ P_X9_type g (W_type g σ).2 ∧ (F_X9_type g (W_type g σ).2).2 229 5 = (W_type g σ).1 ∧ ((W_type g σ).1 = 0 → (F_X9_type g (W_type g σ).2).2 237 0 = (F_X9_type g (W_type g σ).2).1)) ∧ z_Inv (k + 1) (F_X9_type g (W_type g σ).2).2) := by
    rintro ⟨a1, a2, a3, a4⟩
    rw [a2]
    dsimp only
    rw [a4]
    exact ⟨⟨a1, a3, (by dsimp only; exact q_up_eq _ _ _ _), fun q => absurd q (by decide)⟩, ⟨b, t, nw, sz, hb, ht, sb, st, hJ.sm (by omega) (fun a _ a1 _ _ _ _ => q_up_off a1) (fun j j5 _ _ _ => q_up_nj j5)⟩⟩
  by_cases g1 : g < 32
  · exact fin (bad (.inl g1))
  · by_cases g2 : 126 < g
    · exact fin (bad (.inr g2))
    · obtain ⟨v, s1, s2, rfl⟩ := z_rg (a := 32) (b := 126) (by decide) (by decide) g1 g2
      have ei : ∀ τ, F_X9_isIn (nI v) 32 126 τ = 1 := fun τ => by unfold F_X9_isIn; rw [if_neg g1, if_neg g2]
      by_cases h60 : n < 60
      · have l1 : σ 225 3 < 60 := by rw [c1]; exact nI_lt (b := 60) h60 (by decide)
        have ec : (σ 225 3).toNatClampNeg = n := by rw [c1, nI_clamp (by omega)]
        have eA : q_apC 225 (nI v) σ = q_up (q_up σ 225 3 (nI (n + 1))) 227 n (nI v) := by
          unfold q_apC
          rw [ec, c1, z_l1, z_add]
        have eF : F_X8_type (nI v) σ = (.inl (nI (n + 1)), q_up (q_up σ 225 3 (nI (n + 1))) 227 n (nI v)) := by
          unfold F_X8_type q_L
          rw [if_neg g1, if_neg g2, if_pos l1, eA]
          dsimp only
          rw [q_up_nk (by decide), q_up_eq]
        have eW : W_type (nI v) σ = (0, q_up (q_up (q_up σ 225 3 (nI (n + 1))) 227 n (nI v)) 237 0 (nI (n + 1))) := by
          unfold W_type
          rw [eF]
        have hP : P_X8_type (nI v) σ := ⟨fun _ => trivial, fun _ => ⟨fun _ => trivial, fun _ => ⟨fun _ => ⟨nI_pos (by omega), nI_lt (b := 256) (by omega) (by decide), ⟨n, by omega, c1⟩, trivial⟩, fun _ => trivial⟩⟩⟩
        rw [eW]
        dsimp only
        have o1 : ∀ a, a ≠ 225 → a ≠ 227 → a ≠ 237 → (q_up (q_up (q_up σ 225 3 (nI (n + 1))) 227 n (nI v)) 237 0 (nI (n + 1))) a = σ a := fun a x1 x2 x3 => by rw [q_up_off x3, q_up_off x2, q_up_off x1]
        have o2 : (q_up (q_up (q_up σ 225 3 (nI (n + 1))) 227 n (nI v)) 237 0 (nI (n + 1))) 237 0 = nI (n + 1) := q_up_eq _ _ _ _
        have o3 : (q_up (q_up (q_up σ 225 3 (nI (n + 1))) 227 n (nI v)) 237 0 (nI (n + 1))) 225 3 = nI (n + 1) := by rw [q_up_nk (by decide), q_up_nk (by decide), q_up_eq]
        have o4 : ∀ i, i ≤ n → (q_up (q_up (q_up σ 225 3 (nI (n + 1))) 227 n (nI v)) 237 0 (nI (n + 1))) 227 i = nI (z_up tx n v i) := by
          intro i hi
          rw [q_up_nk (by decide)]
          by_cases e : i = n
          · subst e; rw [q_up_eq, z_up_s]
          · rw [q_up_nj e, z_up_n e, q_up_nk (by decide)]
            exact (c3 i (by omega)).1
        generalize q_up (q_up (q_up σ 225 3 (nI (n + 1))) 227 n (nI v)) 237 0 (nI (n + 1)) = ω at o1 o2 o3 o4
        have w9 : ω 229 = σ 229 := o1 229 (by decide) (by decide) (by decide)
        have w35 : ω 235 = σ 235 := o1 235 (by decide) (by decide) (by decide)
        have e60 : ¬ ω 229 16 = 60 := by
          rw [w9, c2]
          exact fun q => by
            have := (nI_eq (b := 60) (by omega) (by decide)).mp q
            omega
        have ec2 : (ω 229 16).toNatClampNeg = n := by rw [w9, c2, nI_clamp (by omega)]
        have e16 : (q_up (q_up ω 229 5 0) 235 n (nI v)) 229 16 + 1 = nI (n + 1) := by
          rw [q_up_nk (by decide), q_up_nj (by decide), w9, c2, z_l1, z_add]
        have eM : F_X9_type (nI v) ω = (nI (n + 1), q_up (q_up (q_up ω 229 5 0) 235 n (nI v)) 229 16 (nI (n + 1))) := by
          unfold F_X9_type q_L
          dsimp only
          have ec3 : (q_up ω 229 5 0 229 16).toNatClampNeg = n := by rw [q_up_nj (by decide), ec2]
          rw [ei ω, if_neg (by decide), if_neg e60, z_uu, ec3, e16, q_up_eq]
        have hPM : P_X9_type (nI v) ω := by
          unfold P_X9_type
          rw [ei ω]
          refine ⟨fun q => absurd q (by decide), fun _ σ2 h2 => ?_⟩
          subst h2
          refine ⟨fun _ => trivial, fun _ => ⟨?_, trivial⟩⟩
          rw [q_up_nj (by decide), w9, c2]
          exact vp_in_nI (N := 60) (by omega) (by decide)
        rw [eM]
        dsimp only
        refine ⟨⟨⟨hP, fun E q => ?_⟩, hPM, ?_, fun _ => ?_⟩, ?_⟩
        · rw [eF] at q
          injection q
        · rw [q_up_nj (by decide), q_up_nk (by decide), q_up_eq]
        · rw [q_up_nk (by decide), q_up_nk (by decide), q_up_nk (by decide), o2]
        · have oy : ∀ a, a ≠ 229 → a ≠ 235 → (q_up (q_up (q_up ω 229 5 0) 235 n (nI v)) 229 16 (nI (n + 1))) a = ω a := fun a x1 x2 => by rw [q_up_off x1, q_up_off x2, q_up_off x1]
          have oy9 : ∀ j, j ≠ 5 → j ≠ 16 → (q_up (q_up (q_up ω 229 5 0) 235 n (nI v)) 229 16 (nI (n + 1))) 229 j = σ 229 j := fun j x1 x2 => by rw [q_up_nj x2, q_up_nk (by decide), q_up_nj x1, w9]
          refine ⟨b, t, nw, sz, hb, ht, sb, st, hJ.gen (by omega) (fun a ha => ?_) (fun j hj => oy9 j (by omega) (by omega)) ?_ ?_⟩
          · rw [oy a (by omega) (by omega), o1 a (by omega) (by omega) (by omega)]
          · exact hJ.2.2.2.2.2.2.2.2.2.2.2.1.mv (by rw [oy 226 (by decide) (by decide), o1 226 (by decide) (by decide) (by decide)]) (by rw [oy 228 (by decide) (by decide), o1 228 (by decide) (by decide) (by decide)]) (oy9 13 (by decide) (by decide)) (by rw [oy 234 (by decide) (by decide), o1 234 (by decide) (by decide) (by decide)])
          · refine ⟨n + 1, z_up tx n v, by omega, ?_, q_up_eq _ _ _ _, fun i hi => ⟨?_, ?_, ?_⟩⟩
            · rw [oy 225 (by decide) (by decide), o3]
            · rw [oy 227 (by decide) (by decide)]
              exact o4 i (by omega)
            · rw [q_up_nk (by decide)]
              by_cases e : i = n
              · subst e; rw [q_up_eq, z_up_s]
              · rw [q_up_nj e, z_up_n e, q_up_nk (by decide), w35]
                exact (c3 i (by omega)).2.1
            · by_cases e : i = n
              · subst e; rw [z_up_s]; exact ⟨s1, s2⟩
              · rw [z_up_n e]
                exact (c3 i (by omega)).2.2
      · have hn60 : n = 60 := by omega
        have l1 : ¬ σ 225 3 < 60 := by rw [c1, hn60]; decide
        have eF : F_X8_type (nI v) σ = (.inr "java/lang/IllegalStateException", σ) := by
          unfold F_X8_type
          rw [if_neg g1, if_neg g2, if_neg l1]
        have eW : W_type (nI v) σ = (2, σ) := by
          unfold W_type
          rw [eF]
          show (q_code nx_type "java/lang/IllegalStateException", σ) = (2, σ)
          rw [show q_code nx_type "java/lang/IllegalStateException" = 2 by decide +kernel]
        have e60 : σ 229 16 = 60 := by rw [c2, hn60]; rfl
        have eM : F_X9_type (nI v) σ = (0, q_up σ 229 5 2) := by
          unfold F_X9_type q_L
          dsimp only
          rw [ei σ, if_neg (by decide), if_pos e60, z_uu]
        have hPM : P_X9_type (nI v) σ := by
          unfold P_X9_type
          rw [ei σ]
          exact ⟨fun q => absurd q (by decide), fun _ σ2 h2 => ⟨fun _ => trivial, fun q => absurd e60 q⟩⟩
        rw [eW]
        dsimp only
        rw [eM]
        refine ⟨⟨⟨⟨fun _ => trivial, fun _ => ⟨fun _ => trivial, fun _ => ⟨fun q => absurd q l1, fun _ => trivial⟩⟩⟩, fun E q => ?_⟩, hPM, (by dsimp only; exact q_up_eq _ _ _ _), fun q => absurd q (by decide)⟩, ?_⟩
        · rw [eF] at q
          injection q with q
          rw [← q]
          simp
        · exact ⟨b, t, nw, sz, hb, ht, sb, st, hJ.sm (by omega) (fun a _ a1 _ _ _ _ => q_up_off a1) (fun j j5 _ _ _ => q_up_nj j5)⟩
