/-! Predictions; the mean. -/
theorem z_sm_c {f : Nat → Nat} {c : Nat} : ∀ (k w : Nat), (∀ i, w ≤ i → i < w + k → f i = c) → z_sm f w k = k * c := by
  intro k
  induction k with
  | zero => intro w h; rw [Nat.zero_mul]; rfl
  | succ k ih =>
    intro w h
    show f w + z_sm f (w + 1) k = (k + 1) * c
    rw [h w (Nat.le_refl w) (by omega), ih (w + 1) (fun i h1 h2 => h i (by omega) (by omega)), Nat.add_mul]
    omega
theorem z_reC {v n : Nat} (hv : v ≤ 99) (hn : n ≤ 999) (g l : Int32) (σ : q_M) : ∀ (nn j a : Nat), n + 1 ≤ nn + j → j ≤ n → PL_X8_reach_15 g l (nI n) nn (nI v) (nI a) (nI j) σ ∧ FL_X8_reach_15 g l (nI n) nn (nI v) (nI a) (nI j) σ = .inl (nI (a + z_sm (z_pc v) j (n - j))) := by
  intro nn
  induction nn with
  | zero => intro j a h1 h2; omega
  | succ nn ih =>
    intro j a h1 h2
    have ej : nI j + 1 = nI (j + 1) := by rw [z_l1, z_add]
    have e4 : (nI j < nI n) = (j < n) := by rw [z_lt (by omega) (by omega)]
    unfold PL_X8_reach_15 FL_X8_reach_15
    by_cases h4 : j < n
    · obtain ⟨q1, q2⟩ := ih (j + 1) (a + z_pc v j) (by omega) (by omega)
      simp only [e4, ej, q_L, z_pace hv (show j < 2 ^ 30 by omega), z_add, forall_eq']
      rw [if_pos h4]
      refine ⟨⟨fun _ => q1, fun z => absurd h4 z⟩, ?_⟩
      rw [q2, show n - j = (n - (j + 1)) + 1 by omega]
      show _ = Sum.inl (nI (a + (z_pc v j + z_sm (z_pc v) (j + 1) (n - (j + 1)))))
      rw [Nat.add_assoc]
    · simp only [e4]
      rw [if_neg h4, show n - j = 0 by omega]
      exact ⟨⟨fun z => absurd z h4, fun _ => trivial⟩, rfl⟩
theorem z_reM {w l n : Nat} {τ : q_M} {b : Nat → Nat} {t : Nat → Nat → Nat} (h : z_M τ b t) (hw : w < 6) (hl : l < 4) (hv : t w l ≤ 99) (hn : n ≤ 999) : ∀ (nn j a : Nat), n + 1 ≤ nn + j → j ≤ n → PL_X9_reach_60 (nI w) (nI l) (nI n) nn (nI a) (nI j) τ ∧ FL_X9_reach_60 (nI w) (nI l) (nI n) nn (nI a) (nI j) τ = (nI (a + z_sm (z_pc (t w l)) j (n - j)), τ) := by
  intro nn
  induction nn with
  | zero => intro j a h1 h2; omega
  | succ nn ih =>
    intro j a h1 h2
    have ej : nI j + 1 = nI (j + 1) := by rw [z_l1, z_add]
    have e4 : (nI j < nI n) = (j < n) := by rw [z_lt (by omega) (by omega)]
    unfold PL_X9_reach_60 FL_X9_reach_60
    by_cases h4 : j < n
    · obtain ⟨q1, q2⟩ := ih (j + 1) (a + z_pc (t w l) j) (by omega) (by omega)
      simp only [e4, ej, q_L, z_ofg h hw hl, z_step hv (show j < 2 ^ 30 by omega), z_add, forall_eq']
      rw [if_pos h4]
      refine ⟨⟨fun _ => ⟨z_ofgP hw hl, q1⟩, fun z => absurd h4 z⟩, ?_⟩
      rw [q2, show n - j = (n - (j + 1)) + 1 by omega]
      show _ = (nI (a + (z_pc (t w l) j + z_sm (z_pc (t w l)) (j + 1) (n - (j + 1)))), τ)
      rw [Nat.add_assoc]
    · simp only [e4]
      rw [if_neg h4, show n - j = 0 by omega]
      exact ⟨⟨fun z => absurd z h4, fun _ => trivial⟩, rfl⟩
theorem z_pcq (v q r : Nat) (hr : r < 10) : z_pc v (10 * q + r) = z_pc v (10 * q) := by
  unfold z_pc
  rw [show (10 * q + r) / 10 = 10 * q / 10 by omega]
theorem z_rsL {v n q : Nat} (hv : v ≤ 99) (hn : n ≤ 999) (hq : q = n / 10) (g l : Int32) (σ : q_M) : ∀ (nn i : Nat), q + 1 ≤ nn + i → i ≤ q → PL_X8_reachByStretches_23 g l (nI n) nn (nI v) (nI (10 * q)) (nI (z_sm (z_pc v) 0 (10 * i))) (nI (10 * i)) σ ∧ FL_X8_reachByStretches_23 g l (nI n) nn (nI v) (nI (10 * q)) (nI (z_sm (z_pc v) 0 (10 * i))) (nI (10 * i)) σ = .inl (nI (z_sm (z_pc v) 0 n)) := by
  intro nn
  induction nn with
  | zero => intro i h1 h2; omega
  | succ nn ih =>
    intro i h1 h2
    have e4 : (nI (10 * i) < nI (10 * q)) = (10 * i < 10 * q) := by rw [z_lt (by omega) (by omega)]
    have ej : nI (10 * i) + 10 = nI (10 * (i + 1)) := by rw [z_l10, z_add, Nat.mul_add]
    unfold PL_X8_reachByStretches_23 FL_X8_reachByStretches_23
    by_cases h4 : 10 * i < 10 * q
    · have es : nI (z_sm (z_pc v) 0 (10 * i)) + 10 * F_X8_pace (nI v) (nI (10 * i)) σ = nI (z_sm (z_pc v) 0 (10 * (i + 1))) := by
        rw [z_pace hv (show 10 * i < 2 ^ 30 by omega), z_l10, z_mul, z_add, show 10 * (i + 1) = 10 * i + 10 by omega, z_sm_sp, Nat.zero_add]
        rw [z_sm_c (c := z_pc v (10 * i)) 10 (10 * i) (fun j h1 h2 => by
          have e : j = 10 * i + (j - 10 * i) := by omega
          rw [e]
          exact z_pcq v i _ (by omega))]
      obtain ⟨q1, q2⟩ := ih (i + 1) (by omega) (by omega)
      simp only [e4, ej, q_L, es, forall_eq']
      rw [if_pos h4]
      exact ⟨⟨fun _ => q1, fun z => absurd h4 z⟩, q2⟩
    · have hi : i = q := by omega
      subst hi
      simp only [e4]
      rw [if_neg h4]
      refine ⟨⟨fun z => absurd z h4, fun _ => trivial⟩, ?_⟩
      rw [z_pace hv (show 10 * i < 2 ^ 30 by omega), z_sub (show 10 * i ≤ n by omega), z_mul, z_add]
      have e : z_sm (z_pc v) 0 n = z_sm (z_pc v) 0 (10 * i) + (n - 10 * i) * z_pc v (10 * i) := by
        have e1 : z_sm (z_pc v) 0 n = z_sm (z_pc v) 0 (10 * i) + z_sm (z_pc v) (0 + 10 * i) (n - 10 * i) := by
          rw [← z_sm_sp]
          congr 1
          omega
        rw [e1, z_sm_c (c := z_pc v (10 * i)) (n - 10 * i) (0 + 10 * i) (fun j h1 h2 => by
          have e : j = 10 * i + (j - 10 * i) := by omega
          rw [e]
          exact z_pcq v i _ (by omega))]
      rw [e]
theorem z_sfr {k : Nat} {σ : q_M} {b : Nat → Nat} {t : Nat → Nat → Nat} (hR : z_R σ 0 b t) (hV : z_V k b t) (g l v : Int32) :
    (∃ w a n, w < b 3 ∧ a < 4 ∧ n ≤ 999 ∧ g = nI w ∧ l = nI a ∧ v = nI n ∧ F_X8_speedForReach g l v σ = .inl (nI (t w a)) ∧ ∀ τ, z_M τ b t → P_X9_reach g l v τ ∧ F_X9_reach g l v τ = (nI (z_sm (z_pc (t w a)) 0 n), q_up τ 229 5 0)) ∨
    (F_X8_speedForReach g l v σ = .inr "java/lang/IndexOutOfBoundsException" ∧ ∀ τ, z_M τ b t → P_X9_reach g l v τ ∧ F_X9_reach g l v τ = (0, q_up τ 229 5 (nI 1))) ∨
    (F_X8_speedForReach g l v σ = .inr "java/lang/IllegalArgumentException" ∧ ∀ τ, z_M τ b t → P_X9_reach g l v τ ∧ F_X9_reach g l v τ = (0, q_up τ 229 5 (nI 2))) := by
  have n6 := hV.n6
  by_cases hg : ∃ w, w < b 3 ∧ g = nI w
  · obtain ⟨w, hw, rfl⟩ := hg
    have h6 : w < 6 := by omega
    have hT := hR.te w h6 hw
    rcases z_leg l with ⟨a, ha, rfl, ea, eb⟩ | ⟨ea, eb⟩
    · have hsp := (hV.te w hw).sp a ha
      have bad : v < 0 ∨ 999 < v → F_X8_speedForReach (nI w) (nI a) v σ = .inr "java/lang/IllegalArgumentException" ∧ ∀ τ, z_M τ b t → P_X9_reach (nI w) (nI a) v τ ∧ F_X9_reach (nI w) (nI a) v τ = (0, q_up τ 229 5 (nI 2)) := by
        intro hv
        refine ⟨?_, fun τ hM => ?_⟩
        · unfold F_X8_speedForReach F_X8_teamWithLeg
          simp only [z_tw1 hR hV hw, ea, z_10, if_false]
          rcases hv with hv | hv
          · rw [if_pos hv]
          · by_cases h0 : v < 0
            · rw [if_pos h0]
            · rw [if_neg h0, if_pos hv]
        · have e : F_X9_isIn v 0 999 (q_up τ 229 5 0) = 0 := by
            unfold F_X9_isIn
            rcases hv with hv | hv
            · rw [if_pos hv]
            · by_cases h0 : v < 0
              · rw [if_pos h0]
              · rw [if_neg h0, if_pos hv]
          simp only [P_X9_reach, F_X9_reach, z_isT hM hw n6, eb, z_10, if_false, q_L, z_uu, forall_eq', e, if_true]
          exact ⟨⟨fun q => q.elim, fun _ => ⟨fun q => q.elim, fun _ => ⟨fun _ => trivial, fun q => absurd trivial q⟩⟩⟩, rfl⟩
      by_cases v1 : v < 0
      · exact .inr (.inr (bad (.inl v1)))
      · by_cases v2 : 999 < v
        · exact .inr (.inr (bad (.inr v2)))
        · obtain ⟨n, _, u2, rfl⟩ := z_rg (a := 0) (b := 999) (by decide) (by decide) v1 v2
          refine .inl ⟨w, a, n, hw, ha, u2, rfl, rfl, rfl, ?_, fun τ hM => ?_⟩
          · unfold F_X8_speedForReach F_X8_teamWithLeg F_X6_speedOn
            simp only [z_tw1 hR hV hw, ea, z_10, if_false]
            rw [if_neg v1, if_neg v2, z_at (z_len (by omega)) ha, hT.sp a ha]
          · have e : ∀ τ, F_X9_isIn (nI n) 0 999 τ = 1 := fun τ => by unfold F_X9_isIn; rw [if_neg v1, if_neg v2]
            have hM1 : z_M (q_up τ 229 5 0) b t := hM.u9
            obtain ⟨m1, m2⟩ := z_reM hM1 h6 ha hsp.2 u2 1010 0 0 (by omega) (by omega)
            rw [Nat.zero_add, Nat.sub_zero] at m2
            simp only [P_X9_reach, F_X9_reach, z_isT hM hw n6, eb, z_10, if_false, q_L, z_uu, forall_eq', e]
            exact ⟨⟨fun q => q.elim, fun _ => ⟨fun q => q.elim, fun _ => ⟨fun q => q.elim, fun _ => m1⟩⟩⟩, m2⟩
    · refine .inr (.inl ⟨?_, fun τ hM => ?_⟩)
      · unfold F_X8_speedForReach F_X8_teamWithLeg
        simp only [z_tw1 hR hV hw, ea, if_true]
      · simp only [P_X9_reach, F_X9_reach, z_isT hM hw n6, eb, z_10, if_false, if_true, q_L]
        exact ⟨⟨fun q => q.elim, fun _ => ⟨fun _ => trivial, fun q => absurd trivial q⟩⟩, rfl⟩
  · refine .inr (.inl ⟨?_, fun τ hM => ?_⟩)
    · unfold F_X8_speedForReach F_X8_teamWithLeg
      rw [z_tw0 hR hg]
    · simp only [P_X9_reach, F_X9_reach, z_noT hM n6 hg, if_true, q_L]
      exact ⟨⟨fun _ => trivial, fun q => absurd trivial q⟩, rfl⟩
theorem z_sfP {g l v : Int32} {σ : q_M} : P_X8_speedForReach g l v σ := by
  intro r hr
  cases r with
  | inr E => trivial
  | inl u => exact ⟨fun _ => trivial, fun _ => ⟨fun _ => trivial, fun _ => ⟨⟨z_atX (by have := z_twB (z_twI hr); omega), trivial⟩, trivial⟩⟩⟩
theorem sq_reach {k : Nat} {σ : q_M} (hk : k < 512) (hI : z_Inv k σ) (g : Int32) (l : Int32) (v : Int32) : sim_reach g l v σ ∧ z_Inv (k + 1) (to_reach g l v σ) := by
  obtain ⟨b, t, nw, sz, hb, ht, sb, st, hJ⟩ := hI
  have hR := hJ.1
  have hV := hJ.2.2.2.2.1
  have n6 := hV.n6
  have l0 := hV.l0
  have l1 := hV.l1
  have hck := hV.ck
  have ha : z_ans nx_reach (F_X8_reach g l v σ) (P_X9_reach g l v) (F_X9_reach g l v) b t (fun v => True) := by
    rcases z_sfr hR hV g l v with ⟨w, a, n, a1, a2, hn, rfl, rfl, rfl, eS, a3⟩ | ⟨eS, a3⟩ | ⟨eS, a3⟩
    · refine .inl ⟨nI (z_sm (z_pc (t w a)) 0 n), ?_, trivial, fun τ hM => ⟨(a3 τ hM).1, (a3 τ hM).2⟩⟩
      · have hsp := ((hV.te w a1).sp a a2).2
        obtain ⟨q1, q2⟩ := z_reC hsp hn (nI w) (nI a) σ 1010 0 0 (by omega) (by omega)
        rw [Nat.zero_add, Nat.sub_zero] at q2
        unfold F_X8_reach
        rw [eS]
        exact q2
    · exact .inr ⟨"java/lang/IndexOutOfBoundsException", 1, 0, by unfold F_X8_reach; rw [eS], trivial, by simp, by decide +kernel, by decide, by decide, fun τ hM => ⟨(a3 τ hM).1, (a3 τ hM).2⟩⟩
    · exact .inr ⟨"java/lang/IllegalArgumentException", 2, 0, by unfold F_X8_reach; rw [eS], trivial, by simp, by decide +kernel, by decide, by decide, fun τ hM => ⟨(a3 τ hM).1, (a3 τ hM).2⟩⟩
  have hP : P_X8_reach g l v σ := by
    refine ⟨z_sfP, fun r hr => ?_⟩
    cases r with
    | inr E => trivial
    | inl u =>
      rcases z_sfr hR hV g l v with ⟨w, a, n, a1, a2, hn, rfl, rfl, rfl, eS, a3⟩ | ⟨eS, a3⟩ | ⟨eS, a3⟩
      · rw [eS] at hr
        injection hr with hr
        subst hr
        have hsp := ((hV.te w a1).sp a a2).2
        exact (z_reC hsp hn (nI w) (nI a) σ 1010 0 0 (by omega) (by omega)).1
      · rw [eS] at hr; injection hr
      · rw [eS] at hr; injection hr
  obtain ⟨c1, c2, c3, c4, cQ, c5⟩ := z_ask hJ ha (W_reach g l v σ) (fun v e q => by unfold W_reach; rw [e]) (fun E e => by unfold W_reach; rw [e])
  unfold sim_reach q_SimI to_reach
  exact ⟨⟨⟨hP, c1⟩, c2, c3, c4⟩, c5⟩
theorem sq_reachByStretches {k : Nat} {σ : q_M} (hk : k < 512) (hI : z_Inv k σ) (g : Int32) (l : Int32) (v : Int32) : sim_reachByStretches g l v σ ∧ z_Inv (k + 1) (to_reachByStretches g l v σ) := by
  obtain ⟨b, t, nw, sz, hb, ht, sb, st, hJ⟩ := hI
  have hR := hJ.1
  have hV := hJ.2.2.2.2.1
  have n6 := hV.n6
  have l0 := hV.l0
  have l1 := hV.l1
  have hck := hV.ck
  have ha : z_ans nx_reachByStretches (F_X8_reachByStretches g l v σ) (P_X9_reachByStretches g l v) (F_X9_reachByStretches g l v) b t (fun v => True) := by
    have eX : ∀ n, n ≤ 999 → nI n - (nI n - nI n / 10 * 10) = nI (10 * (n / 10)) := fun n hn => by
      rw [z_l10, z_mod (by omega) (by decide) (by decide), z_sub (Nat.mod_le _ _)]
      congr 1
      omega
    rcases z_sfr hR hV g l v with ⟨w, a, n, a1, a2, hn, rfl, rfl, rfl, eS, a3⟩ | ⟨eS, a3⟩ | ⟨eS, a3⟩
    · refine .inl ⟨nI (z_sm (z_pc (t w a)) 0 n), ?_, trivial, fun τ hM => ⟨⟨(a3 τ hM).1, trivial⟩, by unfold F_X9_reachByStretches q_L; rw [(a3 τ hM).2]⟩⟩
      · have hsp := ((hV.te w a1).sp a a2).2
        obtain ⟨q1, q2⟩ := z_rsL hsp hn rfl (nI w) (nI a) σ 110 0 (by omega) (by omega)
        unfold F_X8_reachByStretches
        rw [eS]
        dsimp only [q_L]
        rw [eX n hn]
        exact q2
    · exact .inr ⟨"java/lang/IndexOutOfBoundsException", 1, 0, by unfold F_X8_reachByStretches; rw [eS], trivial, by simp, by decide +kernel, by decide, by decide, fun τ hM => ⟨⟨(a3 τ hM).1, trivial⟩, by unfold F_X9_reachByStretches q_L; rw [(a3 τ hM).2]⟩⟩
    · exact .inr ⟨"java/lang/IllegalArgumentException", 2, 0, by unfold F_X8_reachByStretches; rw [eS], trivial, by simp, by decide +kernel, by decide, by decide, fun τ hM => ⟨⟨(a3 τ hM).1, trivial⟩, by unfold F_X9_reachByStretches q_L; rw [(a3 τ hM).2]⟩⟩
  have hP : P_X8_reachByStretches g l v σ := by
    have eX : ∀ n, n ≤ 999 → nI n - (nI n - nI n / 10 * 10) = nI (10 * (n / 10)) := fun n hn => by
      rw [z_l10, z_mod (by omega) (by decide) (by decide), z_sub (Nat.mod_le _ _)]
      congr 1
      omega
    refine ⟨z_sfP, fun r hr => ?_⟩
    cases r with
    | inr E => trivial
    | inl u =>
      rcases z_sfr hR hV g l v with ⟨w, a, n, a1, a2, hn, rfl, rfl, rfl, eS, a3⟩ | ⟨eS, a3⟩ | ⟨eS, a3⟩
      · rw [eS] at hr
        injection hr with hr
        subst hr
        have hsp := ((hV.te w a1).sp a a2).2
        intro x3 h3
        subst h3
        rw [eX n hn]
        exact (z_rsL hsp hn rfl (nI w) (nI a) σ 110 0 (by omega) (by omega)).1
      · rw [eS] at hr; injection hr
      · rw [eS] at hr; injection hr
  obtain ⟨c1, c2, c3, c4, cQ, c5⟩ := z_ask hJ ha (W_reachByStretches g l v σ) (fun v e q => by unfold W_reachByStretches; rw [e]) (fun E e => by unfold W_reachByStretches; rw [e])
  unfold sim_reachByStretches q_SimI to_reachByStretches
  exact ⟨⟨⟨hP, c1⟩, c2, c3, c4⟩, c5⟩
theorem z_szL {p w sd sec a E : Nat} {σ : q_M} {b : Nat → Nat} {t : Nat → Nat → Nat} (hp : p + 2 < 220) (hw : w < 6) (ha : a < 4) (h6 : σ p 6 = nI a) (h7 : σ p 7 = nI sec) (h8 : σ p 8 = nI sd) (hs : σ (p + 1) a = nI (t w a)) (hv : t w a ≤ 99) (hsec : sec < 2 ^ 29) (hE : E ≤ 16000) (q : Int32) :
    ∀ (nn po c : Nat), E ≤ po + 10 * nn → po ≤ 20000 → c + nn ≤ 5000 → ∃ r, c ≤ r ∧ r ≤ 5000 ∧ (po < E → c < r) ∧ (E ≤ po → r = c) ∧ PL_X6_secondsUntilZone_27 p q (nn + 1) (nI E) (nI po) (nI c) σ ∧ FL_X6_secondsUntilZone_27 p q (nn + 1) (nI E) (nI po) (nI c) σ = nI (sd + r) ∧
      ∀ τ, z_M τ b t → t w 10 = sd → F_X9_endOf (nI a) τ - 100 = nI E → PL_X9_secondsToZone_99 (nI w) (nn + 1) (nI a) (nI po) (nI (sec + c)) (nI c) τ ∧ FL_X9_secondsToZone_99 (nI w) (nn + 1) (nI a) (nI po) (nI (sec + c)) (nI c) τ = (if r = 0 then 0 else nI (sd + r), τ) := by
  intro nn
  induction nn with
  | zero =>
    intro po c h1 h2 h3
    have e4 : ¬ nI po < nI E := by rw [z_lt (by omega) (by omega)]; omega
    refine ⟨c, Nat.le_refl _, by omega, fun z => by omega, fun _ => rfl, ?_, ?_, fun τ hM hsd hE2 => ?_⟩
    · unfold PL_X6_secondsUntilZone_27
      exact ⟨fun z => absurd z e4, fun _ => trivial⟩
    · unfold FL_X6_secondsUntilZone_27
      rw [if_neg e4, h8, z_add]
    · unfold PL_X9_secondsToZone_99 FL_X9_secondsToZone_99
      rw [hE2, if_neg e4]
      have ec : (nI c = 0) = (c = 0) := by rw [z_l0, z_eq (by omega) (by decide)]
      simp only [ec, hM.o10 hw, hsd, z_add]
      refine ⟨⟨fun z => absurd z e4, fun _ => ⟨fun _ => trivial, fun _ => ⟨z_p10 hw, trivial⟩⟩⟩, ?_⟩
      by_cases z : c = 0
      · rw [if_pos z, if_pos z]
      · rw [if_neg z, if_neg z, Nat.add_comm]
  | succ nn ih =>
    intro po c h1 h2 h3
    by_cases hlt : po < E
    · have e4 : nI po < nI E := nI_lt hlt (by omega)
      have e5 : nI c < 1000000 := nI_lt (b := 1000000) (by omega) (by decide)
      have ec : nI c + 1 = nI (c + 1) := by rw [z_l1, z_add]
      have hpc := z_pc_le (v := t w a) (n := sec + c) hv
      have ep : nI po + F_X8_pace (F_X8_at (p + 1) (σ p 6) σ) (σ p 7 + nI c) σ = nI (po + z_pc (t w a) (sec + c)) := by
        rw [h6, h7, z_at (z_len (by omega)) ha, hs, z_add, z_pace hv (by omega), z_add]
      obtain ⟨r, r1, r2, r3, r4, r5, r6, r7⟩ := ih (po + z_pc (t w a) (sec + c)) (c + 1) (by omega) (by omega) (by omega)
      refine ⟨r, by omega, r2, fun _ => by omega, fun z => by omega, ?_, ?_, fun τ hM hsd hE2 => ?_⟩
      · unfold PL_X6_secondsUntilZone_27
        simp only [ep, ec, forall_eq']
        exact ⟨fun _ => ⟨fun _ => ⟨by rw [h6]; exact z_atP (z_len (by omega)) ha, r5⟩, fun z => absurd e5 z⟩, fun z => absurd e4 z⟩
      · unfold FL_X6_secondsUntilZone_27
        rw [if_pos e4, if_pos e5]
        simp only [ep, ec, q_L]
        exact r6
      · obtain ⟨m1, m2⟩ := r7 τ hM hsd hE2
        have eq : nI po + F_X9_step (F_X9_of (nI w) (0 + nI a) τ) (nI (sec + c)) τ = nI (po + z_pc (t w a) (sec + c)) := by
          rw [z_ofg hM hw ha, z_step hv (by omega), z_add]
        have es : nI (sec + c) + 1 = nI (sec + (c + 1)) := by rw [z_l1, z_add, Nat.add_assoc]
        unfold PL_X9_secondsToZone_99 FL_X9_secondsToZone_99
        rw [hE2, if_pos e4]
        simp only [eq, es, ec, q_L, forall_eq']
        exact ⟨⟨fun _ => ⟨z_ofgP hw ha, m1⟩, fun z => absurd e4 z⟩, m2⟩
    · have e4 : ¬ nI po < nI E := by rw [z_lt (by omega) (by omega)]; omega
      refine ⟨c, Nat.le_refl _, by omega, fun z => by omega, fun _ => rfl, ?_, ?_, fun τ hM hsd hE2 => ?_⟩
      · unfold PL_X6_secondsUntilZone_27
        exact ⟨fun z => absurd z e4, fun _ => trivial⟩
      · unfold FL_X6_secondsUntilZone_27
        rw [if_neg e4, h8, z_add]
      · unfold PL_X9_secondsToZone_99 FL_X9_secondsToZone_99
        rw [hE2, if_neg e4]
        have ec : (nI c = 0) = (c = 0) := by rw [z_l0, z_eq (by omega) (by decide)]
        simp only [ec, hM.o10 hw, hsd, z_add]
        refine ⟨⟨fun z => absurd z e4, fun _ => ⟨fun _ => trivial, fun _ => ⟨z_p10 hw, trivial⟩⟩⟩, ?_⟩
        by_cases z : c = 0
        · rw [if_pos z, if_pos z]
        · rw [if_neg z, if_neg z, Nat.add_comm]
theorem z_szP {w k : Nat} {σ : q_M} {b : Nat → Nat} {t : Nat → Nat → Nat} (hR : z_R σ 0 b t) (hw : w < b 3) (h6 : w < 6) (hV : z_V k b t) (hk : k ≤ 20000) : ∃ r, P_X6_secondsUntilZone (0 + 2 + 3 * w) (σ 0 3) σ ∧ F_X6_secondsUntilZone (0 + 2 + 3 * w) (σ 0 3) σ = nI r ∧ (t w 8 < 3 → ∀ τ, z_M τ b t → PL_X9_secondsToZone_99 (nI w) 2010 (nI (t w 8)) (nI (t w 7)) (nI (t w 9)) 0 τ ∧ FL_X9_secondsToZone_99 (nI w) 2010 (nI (t w 8)) (nI (t w 7)) (nI (t w 9)) 0 τ = (nI r, τ)) := by
  have hT := hR.te w h6 hw
  have hW := hV.te w hw
  have l0 := hV.l0
  have l1 := hV.l1
  have h8 := hW.lg
  have h7 := hW.ps
  have h9 := hW.sr
  have hck := hV.ck
  have hE := z_mE h8 l1
  have hE0 := z_zL (a := t w 8) l0
  have eE : F_X6_legEnd (0 + 2 + 3 * w) (nI (b 0)) σ - 100 = nI ((t w 8 + 1) * b 0 - 100) := by
    rw [z_legEnd hT, z_l100, z_sub hE0]
  generalize hB : (t w 8 + 1) * b 0 = B at h7 hE hE0 eE
  obtain ⟨r, r1, r2, r3, r4, r5, r6, r7⟩ := z_szL (p := 0 + 2 + 3 * w) (b := b) (by omega) h6 (show t w 8 < 4 by omega) hT.lg hT.sr hT.sd (hT.sp (t w 8) (by omega)) (hW.sp (t w 8) (by omega)).2 (by omega) (show B - 100 ≤ 16000 by omega) (nI (b 0)) 2009 (t w 7) 0 (by omega) (by omega) (by omega)
  have ePx : (nI (t w 7) < nI (B - 100)) = (t w 7 < B - 100) := by rw [z_lt (by omega) (by omega)]
  have hP : P_X6_secondsUntilZone (0 + 2 + 3 * w) (σ 0 3) σ := by
    unfold P_X6_secondsUntilZone
    rw [hR.ll, eE, hT.ps]
    intro x1 h1
    subst h1
    exact ⟨fun _ => r5, fun _ => trivial⟩
  refine ⟨if r = 0 then 0 else t w 10 + r, hP, ?_, fun h3 τ hM => ?_⟩
  · unfold F_X6_secondsUntilZone q_L
    rw [hR.ll, eE, hT.ps]
    dsimp only
    by_cases c : t w 7 < B - 100
    · have c1 : nI (t w 7) < nI (B - 100) := by rw [ePx]; exact c
      have c2 : ¬ r = 0 := by have := r3 c; omega
      rw [if_pos c1, if_neg c2]
      exact r6
    · have c1 : ¬ nI (t w 7) < nI (B - 100) := by rw [ePx]; exact c
      rw [if_neg c1, if_pos (r4 (by omega))]
      rfl
  · have eM : F_X9_endOf (nI (t w 8)) τ - 100 = nI (B - 100) := by rw [z_end hM, hB, z_l100, z_sub hE0]
    obtain ⟨m1, m2⟩ := r7 τ hM rfl eM
    refine ⟨m1, m2.trans ?_⟩
    split <;> rfl
theorem sq_secondsToZone {k : Nat} {σ : q_M} (hk : k < 512) (hI : z_Inv k σ) (g : Int32) : sim_secondsToZone g σ ∧ z_Inv (k + 1) (to_secondsToZone g σ) := by
  obtain ⟨b, t, nw, sz, hb, ht, sb, st, hJ⟩ := hI
  have hR := hJ.1
  have hV := hJ.2.2.2.2.1
  have n6 := hV.n6
  have l0 := hV.l0
  have l1 := hV.l1
  have hck := hV.ck
  have ha : z_ans nx_secondsToZone (F_X8_secondsToZone g σ) (P_X9_secondsToZone g) (F_X9_secondsToZone g) b t (fun v => True) := by
    by_cases hg : ∃ w, w < b 3 ∧ g = nI w
    · obtain ⟨w, hw, rfl⟩ := hg
      have h6 : w < 6 := by omega
      have hT := hR.te w h6 hw
      have hW := hV.te w hw
      have hst := hW.st
      obtain ⟨r, s1, s2, s3⟩ := z_szP hR hw h6 hV (by omega)
      by_cases h1 : t w 6 = 1
      · have es : σ (0 + 2 + 3 * w) 3 = 2 := by rw [hT.st, h1]; rfl
        have h8 := hW.lg
        by_cases h3 : t w 8 < 3
        · have el : σ (0 + 2 + 3 * w) 6 < 3 := by rw [hT.lg]; exact nI_lt (b := 3) h3 (by decide)
          refine .inl ⟨nI r, ?_, trivial, fun τ hM => ?_⟩
          · unfold F_X8_secondsToZone
            simp only [z_tw1 hR hV hw, es, if_true]
            rw [if_pos el, s2]
          · have hM1 : z_M (q_up τ 229 5 0) b t := hM.u9
            have e6 : F_X9_of (nI w) 6 (q_up τ 229 5 0) = 1 := by rw [hM1.o6 h6, h1]; rfl
            have e8 : ¬ nI (t w 8) = 3 := fun z => by have := (nI_eq (b := 3) (by omega) (by decide)).mp z; omega
            obtain ⟨m1, m2⟩ := s3 h3 (q_up τ 229 5 0) hM1
            simp only [P_X9_secondsToZone, F_X9_secondsToZone, z_isT hM hw n6, z_10, if_false, q_L, z_uu, forall_eq', e6, if_true, hM1.o8 h6, hM1.o7 h6, hM1.o9 h6]
            rw [if_neg e8]
            exact ⟨⟨fun q => q.elim, fun _ => ⟨z_p6 h6, fun _ => ⟨z_p8 h6, fun z => absurd z e8, fun _ => ⟨z_p8 h6, z_p7 h6, z_p9 h6, m1⟩⟩, fun q => absurd trivial q⟩⟩, m2⟩
        · have el : ¬ σ (0 + 2 + 3 * w) 6 < 3 := by rw [hT.lg]; exact fun z => h3 ((nI_ltI (b := 3) (by omega) (by decide)).mp z)
          refine .inr ⟨"java/lang/UnsupportedOperationException", 3, 0, ?_, trivial, by simp, by decide +kernel, by decide, by decide, fun τ hM => ?_⟩
          · unfold F_X8_secondsToZone
            simp only [z_tw1 hR hV hw, es, if_true]
            rw [if_neg el]
          · have hM1 : z_M (q_up τ 229 5 0) b t := hM.u9
            have e6 : F_X9_of (nI w) 6 (q_up τ 229 5 0) = 1 := by rw [hM1.o6 h6, h1]; rfl
            have e8 : nI (t w 8) = 3 := by rw [show t w 8 = 3 by omega]; rfl
            simp only [P_X9_secondsToZone, F_X9_secondsToZone, z_isT hM hw n6, z_10, if_false, q_L, z_uu, forall_eq', e6, if_true, hM1.o8 h6]
            rw [if_pos e8]
            exact ⟨⟨fun q => q.elim, fun _ => ⟨z_p6 h6, fun _ => ⟨z_p8 h6, fun _ => trivial, fun z => absurd e8 z⟩, fun q => absurd trivial q⟩⟩, rfl⟩
      · have es : ¬ σ (0 + 2 + 3 * w) 3 = 2 := by rw [hT.st, z_l2, z_eq (by omega) (by omega)]; omega
        refine .inr ⟨"java/lang/IllegalStateException", 2, 0, ?_, trivial, by simp, by decide +kernel, by decide, by decide, fun τ hM => ?_⟩
        · unfold F_X8_secondsToZone
          simp only [z_tw1 hR hV hw]
          rw [if_neg es]
        · have hM1 : z_M (q_up τ 229 5 0) b t := hM.u9
          have e6 : ¬ F_X9_of (nI w) 6 (q_up τ 229 5 0) = 1 := by rw [hM1.o6 h6, z_l1, z_eq (by omega) (by omega)]; exact h1
          simp only [P_X9_secondsToZone, F_X9_secondsToZone, z_isT hM hw n6, z_10, if_false, q_L, z_uu, forall_eq']
          rw [if_neg e6]
          exact ⟨⟨fun q => q.elim, fun _ => ⟨z_p6 h6, fun z => absurd z e6, fun _ => trivial⟩⟩, rfl⟩
    · refine .inr ⟨"java/lang/IndexOutOfBoundsException", 1, 0, by unfold F_X8_secondsToZone; rw [z_tw0 hR hg], trivial, by simp, by decide +kernel, by decide, by decide, fun τ hM => ?_⟩
      simp only [P_X9_secondsToZone, F_X9_secondsToZone, z_noT hM n6 hg, if_true, q_L]
      exact ⟨⟨fun _ => trivial, fun q => absurd trivial q⟩, rfl⟩
  have hP : P_X8_secondsToZone g σ := by
    intro r hr
    cases r with
    | inr E => trivial
    | inl u =>
      by_cases hg : ∃ w, w < b 3 ∧ g = nI w
      · obtain ⟨w, hw, rfl⟩ := hg
        rw [z_tw1 hR hV hw] at hr
        injection hr with hr
        subst hr
        obtain ⟨r, s1, s2, s3⟩ := z_szP hR hw (by omega) hV (by omega)
        exact ⟨fun _ => ⟨fun _ => ⟨s1, trivial⟩, fun _ => trivial⟩, fun _ => trivial⟩
      · rw [z_tw0 hR hg] at hr
        injection hr
  obtain ⟨c1, c2, c3, c4, cQ, c5⟩ := z_ask hJ ha (W_secondsToZone g σ) (fun v e q => by unfold W_secondsToZone; rw [e]) (fun E e => by unfold W_secondsToZone; rw [e])
  unfold sim_secondsToZone q_SimI to_secondsToZone
  exact ⟨⟨⟨hP, c1⟩, c2, c3, c4⟩, c5⟩
/-! the mean -/
theorem z_self {x y : Int32} (h : ¬ y = 0) : FP.dcmp (FP.ddiv (FP.i2d x) (FP.i2d y)) (FP.ddiv (FP.i2d x) (FP.i2d y)) = some .eq := by
  have h0 : FP.Core.dIsNaN (FP.Core.i2d x) = false := by
    cases hn : FP.Core.dIsNaN (FP.Core.i2d x) with
    | false => rfl
    | true =>
      have h1 := (FP.Core.isNaN_bits _).mp hn
      have h2 := FP.Core.i2d_mag x
      omega
  have h1 : FP.Core.dIsNaN (FP.Core.ddiv (FP.Core.i2d x) (FP.Core.i2d y)) = false := FP.Core.ddiv_out h0 (FP.Core.i2d_fin y) (fun z => FP.Core.i2d_ne_zero h ((FP.Core.zero_bits2 _).mp z))
  exact FP.Core.dcmp_self ((FP.Core.notNaN_iff _).mp h1)
def z_tt (t : Nat → Nat → Nat) (i : Nat) : Nat := if t i 6 = 2 then t i 18 else 0
theorem z_sumC {k r : Nat} {σ : q_M} {b : Nat → Nat} {t : Nat → Nat → Nat} (hR : z_R σ r b t) (hV : z_V k b t) : ∀ (nn j a : Nat), 7 ≤ nn + j → j ≤ 6 → PL_X4_sumOfTimes_13 r nn (nI a) (nI j) σ ∧ FL_X4_sumOfTimes_13 r nn (nI a) (nI j) σ = nI (a + z_sm (fun i => if i < b 3 then z_tt t i else 0) j (6 - j)) := by
  intro nn
  induction nn with
  | zero => intro j a h1 h2; omega
  | succ nn ih =>
    intro j a h1 h2
    have n6 := hV.n6
    have ej : nI j + 1 = nI (j + 1) := by rw [z_l1, z_add]
    unfold PL_X4_sumOfTimes_13 FL_X4_sumOfTimes_13
    by_cases h6 : j < 6
    · have e6 : nI j < 6 := nI_lt (b := 6) h6 (by decide)
      have hc : (nI j).toNatClampNeg = j := nI_clamp (by omega)
      have hsm : z_sm (fun i => if i < b 3 then z_tt t i else 0) j (6 - j) = (if j < b 3 then z_tt t j else 0) + z_sm (fun i => if i < b 3 then z_tt t i else 0) (j + 1) (6 - (j + 1)) := by
        rw [show 6 - j = (6 - (j + 1)) + 1 by omega]
        rfl
      rw [if_pos e6, hc, z_place, ej, hsm]
      by_cases hj : j < b 3
      · have hT := hR.te j h6 hj
        have hst := (hV.te j hj).st
        rw [if_pos hj]
        unfold z_tt
        by_cases c : t j 6 = 2
        · have es : σ (r + 2 + 3 * j) 3 = 3 := by rw [hT.st, c]; rfl
          obtain ⟨q1, q2⟩ := ih (j + 1) (a + t j 18) (by omega) (by omega)
          rw [if_pos es, if_pos c, hT.tm]
          simp only [q_L, z_add, forall_eq']
          refine ⟨⟨fun _ => ⟨z_in h6 (by decide), fun _ => q1, fun z => absurd es z⟩, fun z => absurd e6 z⟩, ?_⟩
          rw [q2, Nat.add_assoc]
          rfl
        · have es : ¬ σ (r + 2 + 3 * j) 3 = 3 := by rw [hT.st, z_l3, z_eq (by omega) (by omega)]; omega
          obtain ⟨q1, q2⟩ := ih (j + 1) a (by omega) (by omega)
          rw [if_neg es, if_neg c]
          refine ⟨⟨fun _ => ⟨z_in h6 (by decide), fun z => absurd z es, fun _ => q1⟩, fun z => absurd e6 z⟩, ?_⟩
          rw [q2, Nat.zero_add]
          rfl
      · have hA := hR.ab j h6 (by omega)
        have es : ¬ σ (r + 2 + 3 * j) 3 = 3 := by rw [hA.st]; decide
        obtain ⟨q1, q2⟩ := ih (j + 1) a (by omega) (by omega)
        rw [if_neg es, if_neg hj]
        refine ⟨⟨fun _ => ⟨z_in h6 (by decide), fun z => absurd z es, fun _ => q1⟩, fun z => absurd e6 z⟩, ?_⟩
        rw [q2, Nat.zero_add]
    · have e6 : ¬ nI j < 6 := fun z => h6 ((nI_ltI (b := 6) (by omega) (by decide)).mp z)
      rw [if_neg e6, show 6 - j = 0 by omega]
      exact ⟨⟨fun z => absurd z e6, fun _ => trivial⟩, rfl⟩
theorem z_mtL {k : Nat} {τ : q_M} {b : Nat → Nat} {t : Nat → Nat → Nat} (h : z_M τ b t) (hV : z_V k b t) (v1 : Int32) : ∀ (nn j a : Nat), 7 ≤ nn + j → j ≤ b 3 → PL_X9_meanTime_10 nn v1 (nI a) (nI j) τ ∧ FL_X9_meanTime_10 nn v1 (nI a) (nI j) τ = if v1 = 0 then (FP.dconst0, q_up τ 229 5 1) else (FP.ddiv (FP.i2d (nI (a + z_sm (z_tt t) j (b 3 - j)))) (FP.i2d v1), q_up τ 229 5 0) := by
  intro nn
  induction nn with
  | zero => intro j a h1 h2; have := hV.n6; omega
  | succ nn ih =>
    intro j a h1 h2
    have n6 := hV.n6
    have ej : nI j + 1 = nI (j + 1) := by rw [z_l1, z_add]
    have e3 : (nI j < τ 230 3) = (j < b 3) := by rw [h.bs 3 (by decide), z_lt (by omega) (by omega)]
    unfold PL_X9_meanTime_10 FL_X9_meanTime_10
    by_cases hj : j < b 3
    · have h6 : j < 6 := by omega
      have hst := (hV.te j hj).st
      have ex : (if F_X9_of (nI j) 6 τ = 2 then F_X9_of (nI j) 18 τ else 0) = nI (z_tt t j) := by
        rw [h.o6 h6, h.o18 h6, z_l2]
        unfold z_tt
        simp (disch := omega) only [z_eq]
        split <;> rfl
      obtain ⟨q1, q2⟩ := ih (j + 1) (a + z_tt t j) (by omega) (by omega)
      simp only [e3, ej, ex, q_L, forall_eq', z_add]
      rw [if_pos hj]
      refine ⟨⟨fun _ => ⟨z_p6 h6, ⟨fun _ => ⟨z_p18 h6, trivial⟩, fun _ => trivial⟩, q1⟩, fun z => absurd hj z⟩, ?_⟩
      rw [q2, show b 3 - j = (b 3 - (j + 1)) + 1 by omega]
      show _ = if v1 = 0 then (FP.dconst0, q_up τ 229 5 1) else (FP.ddiv (FP.i2d (nI (a + (z_tt t j + z_sm (z_tt t) (j + 1) (b 3 - (j + 1)))))) (FP.i2d v1), q_up τ 229 5 0)
      rw [Nat.add_assoc]
    · simp only [e3]
      rw [if_neg hj, show b 3 - j = 0 by omega]
      exact ⟨⟨fun z => absurd z hj, fun _ => trivial⟩, rfl⟩
theorem sq_meanTime {k : Nat} {σ : q_M} (hk : k < 512) (hI : z_Inv k σ) : sim_meanTime σ ∧ z_Inv (k + 1) (to_meanTime σ) := by
  obtain ⟨b, t, nw, sz, hb, ht, sb, st, hJ⟩ := hI
  have hR := hJ.1
  have hV := hJ.2.2.2.2.1
  have hM := hJ.2.2.2.1
  have n6 := hV.n6
  have hf := z_finished n6 hV.stt hR
  obtain ⟨s1, s2⟩ := z_sumC hR hV 10 0 0 (by omega) (by omega)
  have es : z_sm (fun i => if i < b 3 then z_tt t i else 0) 0 6 = z_sm (z_tt t) 0 (b 3) := by
    rw [z_sm_n n6 (fun i h1 _ => by rw [if_neg (by omega)])]
    exact z_sm_cg _ _ (fun i _ hi => by rw [if_pos (by omega)])
  rw [Nat.zero_add, Nat.sub_zero, es] at s2
  have s2 : F_X4_sumOfTimes 0 σ = nI (z_sm (z_tt t) 0 (b 3)) := s2
  have hP : P_X8_meanTime σ := ⟨hf.1, fun x1 h1 => ⟨fun _ => trivial, fun _ => ⟨s1, trivial⟩⟩⟩
  have key : ∀ τ, z_M τ b t → P_X9_meanTime τ ∧ F_X9_meanTime τ = if nI (z_sm (z_is t 2) 0 (b 3)) = 0 then (FP.dconst0, q_up τ 229 5 1) else (FP.ddiv (FP.i2d (nI (z_sm (z_tt t) 0 (b 3)))) (FP.i2d (nI (z_sm (z_is t 2) 0 (b 3)))), q_up τ 229 5 0) := by
    intro τ hτ
    have hi := z_inSt (q := 2) n6 (by decide) hV.stt hτ
    have hi2 : F_X9_inStatus 2 τ = nI (z_sm (z_is t 2) 0 (b 3)) := hi.2
    obtain ⟨m1, m2⟩ := z_mtL hτ hV (nI (z_sm (z_is t 2) 0 (b 3))) 10 0 0 (by omega) (by omega)
    rw [Nat.zero_add, Nat.sub_zero] at m2
    unfold P_X9_meanTime F_X9_meanTime
    simp only [q_L, hi2, forall_eq']
    exact ⟨⟨hi.1, m1⟩, m2⟩
  unfold sim_meanTime to_meanTime
  by_cases c : nI (z_sm (z_is t 2) 0 (b 3)) = 0
  · have eF : F_X8_meanTime σ = .inr "java/lang/ArithmeticException" := by
      unfold F_X8_meanTime q_L
      dsimp only
      rw [hf.2, if_pos c]
    have eW : W_meanTime σ = (1, σ) := by
      unfold W_meanTime
      rw [eF]
      show (q_code nx_meanTime "java/lang/ArithmeticException", σ) = (1, σ)
      rw [show q_code nx_meanTime "java/lang/ArithmeticException" = 1 by decide +kernel]
    obtain ⟨m1, m2⟩ := key σ hM
    rw [if_pos c] at m2
    rw [eW]
    dsimp only
    rw [m2]
    refine ⟨⟨⟨hP, fun E q => ?_⟩, m1, (by dsimp only; exact q_up_eq _ _ _ _), fun q => absurd q (by decide)⟩, ?_⟩
    · rw [eF] at q
      injection q with q
      rw [← q]
      simp
    · exact ⟨b, t, nw, sz, hb, ht, sb, st, hJ.sm (by omega) (fun a _ a1 _ _ _ _ => q_up_off a1) (fun j j5 _ _ _ => q_up_nj j5)⟩
  · have eF : F_X8_meanTime σ = .inl (FP.ddiv (FP.i2d (nI (z_sm (z_tt t) 0 (b 3)))) (FP.i2d (nI (z_sm (z_is t 2) 0 (b 3))))) := by
      unfold F_X8_meanTime q_L
      dsimp only
      rw [hf.2, if_neg c, s2]
    have eW : W_meanTime σ = (0, q_up2 σ (FP.ddiv (FP.i2d (nI (z_sm (z_tt t) 0 (b 3)))) (FP.i2d (nI (z_sm (z_is t 2) 0 (b 3)))))) := by
      unfold W_meanTime
      rw [eF]
    rw [eW]
    dsimp only
    have hns := z_self (x := nI (z_sm (z_tt t) 0 (b 3))) c
    generalize FP.ddiv (FP.i2d (nI (z_sm (z_tt t) 0 (b 3)))) (FP.i2d (nI (z_sm (z_is t 2) 0 (b 3)))) = d at eF eW hns key
    have ho : ∀ a, a ≠ 238 → (q_up2 σ d) a = σ a := fun a ha => by unfold q_up2; rw [q_up_off ha, q_up_off ha]
    obtain ⟨m1, m2⟩ := key (q_up2 σ d) (hM.off (ho 230 (by decide)))
    rw [if_neg c] at m2
    rw [m2]
    dsimp only
    refine ⟨⟨⟨hP, fun E q => ?_⟩, m1, q_up_eq _ _ _ _, fun _ => ⟨?_, hns⟩⟩, ?_⟩
    · rw [eF] at q
      injection q
    · rw [q_up_off (by decide)]
      exact q_dv_up σ d
    · exact ⟨b, t, nw, sz, hb, ht, sb, st, hJ.sm (by omega) (fun a _ a1 _ _ _ a5 => by rw [q_up_off a1, ho a a5]) (fun j j5 _ _ _ => by rw [q_up_nj j5, ho 229 (by decide)])⟩
