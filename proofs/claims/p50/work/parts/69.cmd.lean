/-! What the commands protest and pass do. -/
theorem z_l11 : (11 : Int32) = nI 11 := rfl
theorem z_l12 : (12 : Int32) = nI 12 := rfl
theorem z_W_pen_0 {k : Nat} {b x : Nat → Nat} (hW : z_W0 k b x) {s : Nat} (h2 : s ≤ 10) (h5 : s % 5 = 0) : z_W0 (k + 1) b (z_up x 5 (x 5 + s)) := by
  obtain ⟨⟨a0, a1, a2, a3⟩, ⟨c4, c5, c6, c7, c8, c9, c10, c11, c12, c13⟩, ⟨l0, l1, l2, l3⟩, c18, cf, cr, cu⟩ := z_W_to hW
  refine z_W_of ?_ ?_ ?_ ?_ ?_ ?_ ?_ ?_ ?_ ?_ ?_ ?_ ?_ ?_ ?_ ?_ ?_ ?_ ?_ ?_ ?_ ?_ <;> (try simp [z_up]) <;> omega
theorem z_W_pen {k : Nat} {b x : Nat → Nat} (hW : z_W k b x) {s : Nat} (h2 : s ≤ 10) (h5 : s % 5 = 0) : z_W (k + 1) b (z_up x 5 (x 5 + s)) := by
  refine ⟨z_W_pen_0 hW.1 h2 h5, ?_⟩
  obtain ⟨x1, x2, x3, x4, x5, x6⟩ := hW.2
  unfold z_E
  exact ⟨x1, x2, x3, by show (x 5 + s) % 5 = 0; omega, x5, x6⟩
theorem z_W_uph_0 {k : Nat} {b x : Nat → Nat} (hW : z_W0 k b x) {l : Nat} (hl : l < 2) : z_W0 (k + 1) b (z_up (z_up x (11 + l) 0) 5 (x 5 + 10)) := by
  obtain ⟨⟨a0, a1, a2, a3⟩, ⟨c4, c5, c6, c7, c8, c9, c10, c11, c12, c13⟩, ⟨l0, l1, l2, l3⟩, c18, cf, cr, cu⟩ := z_W_to hW
  rcases (show l = 0 ∨ l = 1 by omega) with rfl | rfl <;> refine z_W_of ?_ ?_ ?_ ?_ ?_ ?_ ?_ ?_ ?_ ?_ ?_ ?_ ?_ ?_ ?_ ?_ ?_ ?_ ?_ ?_ ?_ ?_ <;> (try simp [z_up]) <;> omega
theorem z_W_uph {k : Nat} {b x : Nat → Nat} (hW : z_W k b x) {l : Nat} (hl : l < 2) : z_W (k + 1) b (z_up (z_up x (11 + l) 0) 5 (x 5 + 10)) := by
  refine ⟨z_W_uph_0 hW.1 hl, ?_⟩
  obtain ⟨x1, x2, x3, x4, x5, x6⟩ := hW.2
  unfold z_E
  rcases (show l = 0 ∨ l = 1 by omega) with rfl | rfl <;> exact ⟨x1, x2, x3, by show (x 5 + 10) % 5 = 0; omega, x5, x6⟩
theorem z_cmt {c : q_M} {p w l : Nat} {x : Nat → Nat} (h : z_T c p w x) (hl : l < 2) (h1 : x 11 ≤ 1) (h2 : x 12 ≤ 1) : P_X6_committed p (nI l) c ∧ F_X6_committed p (nI l) c = nI (x (11 + l)) := by
  have d1 : c p 12 = 0 ∨ c p 12 = 1 := by
    rw [h.lf]
    rcases (show x 11 = 0 ∨ x 11 = 1 by omega) with e | e <;> rw [e]
    · exact .inl rfl
    · exact .inr rfl
  have d2 : c p 13 = 0 ∨ c p 13 = 1 := by
    rw [h.df]
    rcases (show x 12 = 0 ∨ x 12 = 1 by omega) with e | e <;> rw [e]
    · exact .inl rfl
    · exact .inr rfl
  refine ⟨⟨fun _ => ⟨d1, trivial⟩, fun _ => ⟨d2, trivial⟩⟩, ?_⟩
  unfold F_X6_committed
  rcases (show l = 0 ∨ l = 1 by omega) with rfl | rfl
  · rw [if_pos (show nI 0 = 0 from rfl)]; exact h.lf
  · rw [if_neg (by decide)]; exact h.df
theorem z_rmv {c : q_M} {p w l : Nat} {x : Nat → Nat} (h : z_T c p w x) (hl : l < 2) : z_T (F_X6_removeFoul p (nI l) c) p w (z_up x (11 + l) 0) ∧ ∀ a, a ≠ p → F_X6_removeFoul p (nI l) c a = c a := by
  unfold F_X6_removeFoul
  rcases (show l = 0 ∨ l = 1 by omega) with rfl | rfl
  · rw [if_pos (show nI 0 = 0 from rfl)]
    exact ⟨h.lf_ (y := 0), fun a ha => q_up_off ha⟩
  · rw [if_neg (by decide)]
    exact ⟨h.df_ (y := 0), fun a ha => q_up_off ha⟩
theorem z_protest {k : Nat} {b : Nat → Nat} {t : Nat → Nat → Nat} (hV : z_V k b t) (g h v : Int32) : z_same 3 k b t z_c3 (fun _ => True) (fun σ => (F_X4_faultOfProtesting 0 g h v σ, σ)) (fun σ => P_X8_team0 g σ ∧ P_X8_team0 h σ ∧ P_X4_judge 0 (F_X8_team0 g σ) (F_X8_team0 h σ) v σ) (fun σ => F_X4_judge 0 (F_X8_team0 g σ) (F_X8_team0 h σ) v σ) (P_X9_protests g h v) (F_X9_protests g h v) := by
  have n6 := hV.n6
  have hb := hV.bg
  by_cases hg : ∃ w, w < b 3 ∧ g = nI w
  · obtain ⟨w, hw, rfl⟩ := hg
    have h6 : w < 6 := by omega
    have hW := hV.te w hw
    have hst := hW.st
    by_cases hh : ∃ w, w < b 3 ∧ h = nI w
    · obtain ⟨u, hu, rfl⟩ := hh
      have u6 : u < 6 := by omega
      have hWu := hV.te u hu
      have hstu := hWu.st
      by_cases ew : nI w = nI u
      · refine z_fail 2 (by decide) (by decide) hV (fun σ hR => ⟨trivial, ?_⟩) (fun τ hM => ?_)
        · simp only [F_X4_faultOfProtesting, z_some hR hw n6 hst, z_some hR hu n6 hstu]
          rw [if_pos ew]
          rfl
        · simp only [P_X9_protests, F_X9_protests, z_isT hM hw n6, z_isT hM hu n6, z_10, if_false, q_L, z_uu, forall_eq']
          rw [if_pos ew]
          exact ⟨⟨fun q => q.elim, fun _ => ⟨fun q => q.elim, fun _ => ⟨fun _ => trivial, fun q => absurd ew q⟩⟩⟩, rfl⟩
      · rcases z_kind v with ⟨l, hl, rfl, ea, eb⟩ | ⟨ea, eb⟩
        · by_cases h1 : b 1 = 1
          · have e11 : (11 : Int32) + nI l = nI (11 + l) := by rw [z_l11, z_add]
            have hx : t u (11 + l) ≤ 1 := by
              rcases (show l = 0 ∨ l = 1 by omega) with rfl | rfl
              · exact hWu.lf
              · exact hWu.df
            by_cases hc : t u (11 + l) = 1
            · have hV' : z_V (k + 1) b (z_ut t u (z_up (z_up (t u) (11 + l) 0) 5 (t u 5 + 10))) := (hV.k (by omega)).ut hu (z_W_uph hWu hl) (by rw [z_up_n (by decide), z_up_n (by omega)])
              refine z_done 1 b (z_ut t u (z_up (z_up (t u) (11 + l) 0) 5 (t u 5 + 10))) hV' (by decide) (fun σ hR => ⟨trivial, ?_⟩) (fun σ hR => ?_) (fun τ hM => ?_)
              · have e : ¬ σ 0 1 = 0 := by rw [hR.bg, h1]; decide
                simp only [F_X4_faultOfProtesting, z_some hR hw n6 hst, z_some hR hu n6 hstu, ea, z_10, if_false]
                rw [if_neg ew, if_neg e]
                rfl
              · obtain ⟨e0, e1⟩ := z_tm0 hR hV hw
                obtain ⟨f0, f1⟩ := z_tm0 hR hV hu
                have hT := hR.te u u6 hu
                obtain ⟨cp, ce⟩ := z_cmt hT hl hWu.lf hWu.df
                obtain ⟨r1, r2⟩ := z_rmv hT hl
                have e9 : (F_X6_removeFoul (0 + 2 + 3 * u) (nI l) σ) (0 + 2 + 3 * u) 9 + 10 = nI (t u 5 + 10) := by
                  rw [r1.pn, z_up_n (by omega), z_l10, z_add]
                simp only [e0, f0, P_X4_judge, F_X4_judge, ce, hc, q_L, e9]
                rw [if_neg (show ¬ nI 1 = 0 by decide)]
                have hR2 := hR.team hu (r1.pn_ (y := t u 5 + 10)) (fun a e1 _ _ => by rw [q_up_off e1, r2 a e1])
                exact ⟨⟨e1, f1, cp, trivial⟩, rfl, hR2, fun a ha => by (try dsimp only); rw [q_up_off (show a ≠ 0 + 2 + 3 * u by omega), r2 a (by omega)]⟩
              · have hM1 : z_M (q_up τ 229 5 0) b t := hM.u9
                have eu := z_unp hM1 hb
                rw [h1] at eu
                have eu2 : F_X9_isUnprepared (q_up τ 229 5 0) = 1 := eu
                have ec : F_X9_of (nI u) (nI (11 + l)) (q_up τ 229 5 0) = 1 := by rw [hM1.of u6 (by omega), hc]; rfl
                have hM2 : z_M (F_X9_sets (nI u) (nI (11 + l)) 0 (q_up τ 229 5 0)) b _ := hM1.set (y := 0) u6 (show 11 + l < 19 by omega)
                have e9 : F_X9_of (nI u) 5 (F_X9_sets (nI u) (nI (11 + l)) 0 (q_up τ 229 5 0)) + 10 = nI (t u 5 + 10) := by
                  rw [hM2.o5 u6, z_ut_s, z_up_n (by omega), z_l10, z_add]
                have hM3 := hM2.s5 (y := t u 5 + 10) u6
                rw [z_ut_ut, z_ut_s] at hM3
                simp only [P_X9_protests, F_X9_protests, z_isT hM hw n6, z_isT hM hu n6, z_10, if_false, q_L, z_uu, forall_eq', eb, eu2, e11, ec, if_true, e9]
                rw [if_neg ew]
                refine ⟨⟨fun q => q.elim, fun _ => ⟨fun q => q.elim, fun _ => ⟨fun q => absurd q ew, fun _ => ⟨fun q => q.elim, fun _ => ⟨fun q => q.elim, fun _ => ⟨z_ofP u6 (by omega), trivial, fun q => q.elim, fun _ => ⟨z_setsP u6 (by omega), z_p5 u6, z_q5 u6, trivial⟩⟩⟩⟩⟩⟩⟩, rfl, ?_, hM3, ?_⟩
                · (try dsimp only); rw [z_g5 u6, z_gk u6 (show 11 + l < 19 by omega), q_up_eq]
                · exact ((z_fs.u5 τ 0).tr (z_fs.st u6 (by omega))).tr (z_fs.st (k := 5) u6 (by decide))
            · have hc0 : t u (11 + l) = 0 := by omega
              have hV' : z_V (k + 1) b (z_ut t w (z_up (t w) 5 (t w 5 + 5))) := (hV.k (by omega)).ut hw (z_W_pen hW (by decide) (by decide)) rfl
              refine z_done 0 b (z_ut t w (z_up (t w) 5 (t w 5 + 5))) hV' (by decide) (fun σ hR => ⟨trivial, ?_⟩) (fun σ hR => ?_) (fun τ hM => ?_)
              · have e : ¬ σ 0 1 = 0 := by rw [hR.bg, h1]; decide
                simp only [F_X4_faultOfProtesting, z_some hR hw n6 hst, z_some hR hu n6 hstu, ea, z_10, if_false]
                rw [if_neg ew, if_neg e]
                rfl
              · obtain ⟨e0, e1⟩ := z_tm0 hR hV hw
                obtain ⟨f0, f1⟩ := z_tm0 hR hV hu
                have hT := hR.te w h6 hw
                obtain ⟨cp, ce⟩ := z_cmt (hR.te u u6 hu) hl hWu.lf hWu.df
                have e9 : σ (0 + 2 + 3 * w) 9 + 5 = nI (t w 5 + 5) := by rw [hT.pn, z_l5, z_add]
                simp only [e0, f0, P_X4_judge, F_X4_judge, ce, hc0, q_L, e9]
                rw [if_pos (show nI 0 = 0 from rfl)]
                have hR2 := hR.team hw (hT.pn_ (y := t w 5 + 5)) (fun a e1 _ _ => q_up_off e1)
                exact ⟨⟨e1, f1, cp, trivial⟩, rfl, hR2, fun a ha => q_up_off (by omega)⟩
              · have hM1 : z_M (q_up τ 229 5 0) b t := hM.u9
                have eu := z_unp hM1 hb
                rw [h1] at eu
                have eu2 : F_X9_isUnprepared (q_up τ 229 5 0) = 1 := eu
                have ec : F_X9_of (nI u) (nI (11 + l)) (q_up τ 229 5 0) = 0 := by rw [hM1.of u6 (by omega), hc0]; rfl
                have e9 : F_X9_of (nI w) 5 (q_up τ 229 5 0) + 5 = nI (t w 5 + 5) := by
                  rw [hM1.o5 h6, z_l5, z_add]
                have hM3 := hM1.s5 (y := t w 5 + 5) h6
                simp only [P_X9_protests, F_X9_protests, z_isT hM hw n6, z_isT hM hu n6, z_10, z_01, if_false, q_L, z_uu, forall_eq', eb, eu2, e11, ec, if_true, e9]
                rw [if_neg ew]
                refine ⟨⟨fun q => q.elim, fun _ => ⟨fun q => q.elim, fun _ => ⟨fun q => absurd q ew, fun _ => ⟨fun q => q.elim, fun _ => ⟨fun q => q.elim, fun _ => ⟨z_ofP u6 (by omega), trivial, fun _ => ⟨z_p5 h6, z_q5 h6, trivial⟩, fun q => absurd trivial q⟩⟩⟩⟩⟩⟩, rfl, ?_, hM3, ?_⟩
                · (try dsimp only); rw [z_g5 h6, q_up_eq]
                · exact (z_fs.u5 τ 0).tr (z_fs.st (k := 5) h6 (by decide))
          · have h1 : b 1 = 0 := by omega
            refine z_fail 3 (by decide) (by decide) hV (fun σ hR => ⟨trivial, ?_⟩) (fun τ hM => ?_)
            · have e : σ 0 1 = 0 := by rw [hR.bg, h1]; rfl
              simp only [F_X4_faultOfProtesting, z_some hR hw n6 hst, z_some hR hu n6 hstu, ea, z_10, if_false]
              rw [if_neg ew, if_pos e]
              rfl
            · have hM1 : z_M (q_up τ 229 5 0) b t := hM.u9
              have eu := z_unp hM1 hb
              rw [h1] at eu
              have eu2 : F_X9_isUnprepared (q_up τ 229 5 0) = 0 := eu
              simp only [P_X9_protests, F_X9_protests, z_isT hM hw n6, z_isT hM hu n6, z_10, if_false, q_L, z_uu, forall_eq', eb, eu2, if_true]
              rw [if_neg ew]
              exact ⟨⟨fun q => q.elim, fun _ => ⟨fun q => q.elim, fun _ => ⟨fun q => absurd q ew, fun _ => ⟨fun q => q.elim, fun _ => ⟨fun _ => trivial, fun q => absurd trivial q⟩⟩⟩⟩⟩, rfl⟩
        · refine z_fail 2 (by decide) (by decide) hV (fun σ hR => ⟨trivial, ?_⟩) (fun τ hM => ?_)
          · simp only [F_X4_faultOfProtesting, z_some hR hw n6 hst, z_some hR hu n6 hstu, ea, if_true]
            rw [if_neg ew]
            rfl
          · simp only [P_X9_protests, F_X9_protests, z_isT hM hw n6, z_isT hM hu n6, z_10, if_false, q_L, z_uu, forall_eq', eb, if_true]
            rw [if_neg ew]
            exact ⟨⟨fun q => q.elim, fun _ => ⟨fun q => q.elim, fun _ => ⟨fun q => absurd q ew, fun _ => ⟨fun _ => trivial, fun q => absurd trivial q⟩⟩⟩⟩, rfl⟩
    · refine z_fail 1 (by decide) (by decide) hV (fun σ hR => ⟨trivial, ?_⟩) (fun τ hM => ?_)
      · simp only [F_X4_faultOfProtesting, z_some hR hw n6 hst, z_none hR hh]
        rfl
      · simp only [P_X9_protests, F_X9_protests, z_isT hM hw n6, z_noT hM n6 hh, z_10, if_false, if_true]
        exact ⟨⟨fun q => q.elim, fun _ => ⟨fun _ => trivial, fun q => absurd trivial q⟩⟩, rfl⟩
  · refine z_fail 1 (by decide) (by decide) hV (fun σ hR => ⟨trivial, ?_⟩) (fun τ hM => ?_)
    · simp only [F_X4_faultOfProtesting, z_none hR hg]
      rfl
    · have e := z_noT hM n6 hg
      unfold P_X9_protests F_X9_protests
      rw [if_pos e]
      exact ⟨⟨fun _ => trivial, fun q => absurd e q⟩, rfl⟩
/-! pass -/
def z_rs (L : Nat) (x : Nat → Nat) : Nat := if 0 < x 10 then 1 else if x 8 < 3 then (if x 7 + 100 < (x 8 + 1) * L then 3 else 0) else 2
theorem z_rs3 (L : Nat) (x : Nat → Nat) : z_rs L x ≤ 3 := by
  unfold z_rs
  split
  · omega
  · split
    · split <;> omega
    · omega
def z_hd (L T : Nat) (x : Nat → Nat) : Nat → Nat := z_up (z_up (z_up (z_up (if (x 8 + 1) * L + 100 < x 7 then z_up x 11 1 else x) (14 + x 8) (T - x 13 + 1)) 13 T) 8 (x 8 + 1)) 9 0
theorem z_rsC {k : Nat} {c : q_M} {p w : Nat} {b x : Nat → Nat} (h : z_T c p w x) (hW : z_W k b x) (h0 : 400 ≤ b 0) (h1 : b 0 ≤ 4000) (hk : k ≤ 20000) : F_X6_reasonToRefuse p (nI (b 0)) c = nI (z_rs (b 0) x) := by
  have h8 := hW.lg
  have h7 := hW.ps
  have h10 := hW.sd
  have hE := z_mE h8 h1
  have hE0 := z_zL (a := x 8) h0
  unfold F_X6_reasonToRefuse z_rs
  rw [z_legEnd h, h.lg, h.ps, h.sd]
  generalize (x 8 + 1) * b 0 = B at h7 hE hE0 ⊢
  rw [z_l100, z_sub hE0, z_l3, z_l0]
  simp (disch := omega) only [z_lt]
  split
  · rfl
  · split
    · by_cases a1 : x 7 < B - 100
      · rw [if_pos a1, if_pos (by omega)]
      · rw [if_neg a1, if_neg (by omega)]
    · rfl
theorem z_rsM {k : Nat} {m : q_M} {w : Nat} {b : Nat → Nat} {t : Nat → Nat → Nat} (h : z_M m b t) (hw : w < 6) (hW : z_W k b (t w)) (h0 : 400 ≤ b 0) (h1 : b 0 ≤ 4000) (hk : k ≤ 20000) : P_X9_isRefused (nI w) m ∧ F_X9_isRefused (nI w) m = if z_rs (b 0) (t w) = 0 then (0, m) else (1, q_up (q_up m 229 8 (nI (z_rs (b 0) (t w)))) 229 9 (nI w)) := by
  have h8 := hW.lg
  have h7 := hW.ps
  have h10 := hW.sd
  have hE := z_mE h8 h1
  have hE0 := z_zL (a := t w 8) h0
  have h3 := z_rs3 (b 0) (t w)
  have er : F_X9_reason (nI w) m = nI (z_rs (b 0) (t w)) := by
    simp only [F_X9_reason, q_L, h.o8 hw, h.o7 hw, h.o10 hw, z_end h]
    unfold z_rs
    generalize (t w 8 + 1) * b 0 = B at h7 hE hE0 ⊢
    rw [z_l100, z_sub hE0, z_l3, z_l0]
    simp (disch := omega) only [z_lt, z_eq]
    split
    · rfl
    · by_cases a : t w 8 < 3
      · rw [if_neg (by omega), if_pos a]
        by_cases a1 : t w 7 < B - 100
        · rw [if_pos a1, if_pos (by omega)]
        · rw [if_neg a1, if_neg (by omega)]
      · rw [if_pos (by omega), if_neg a]
        rfl
  constructor
  · unfold P_X9_isRefused P_X9_reason
    exact ⟨⟨z_p8 hw, fun _ _ => ⟨z_p10 hw, fun _ => trivial, fun _ => ⟨fun _ => trivial, fun _ => ⟨z_p7 hw, trivial⟩⟩⟩⟩, trivial⟩
  · have e0 : (nI (z_rs (b 0) (t w)) = 0) = (z_rs (b 0) (t w) = 0) := by rw [z_l0, z_eq (by omega) (by omega)]
    simp only [F_X9_isRefused, q_L, er, e0]
theorem z_W_pass_0 {k : Nat} {b x : Nat → Nat} (hW : z_W0 k b x) (h0 : 400 ≤ b 0) (h6 : x 6 = 1) (hr : z_rs (b 0) x = 0) : z_W0 (k + 1) b (z_hd (b 0) (b 2) x) := by
  obtain ⟨⟨a0, a1, a2, a3⟩, ⟨c4, c5, c6, c7, c8, c9, c10, c11, c12, c13⟩, ⟨l0, l1, l2, l3⟩, c18, cf, cr, cu⟩ := z_W_to hW
  have h8 : x 8 < 3 := by
    unfold z_rs at hr
    by_cases a : 0 < x 10
    · rw [if_pos a] at hr; omega
    · rw [if_neg a] at hr
      by_cases a8 : x 8 < 3
      · exact a8
      · rw [if_neg a8] at hr; omega
  unfold z_hd
  rcases (show x 8 = 0 ∨ x 8 = 1 ∨ x 8 = 2 by omega) with e | e | e <;> rw [e] at c7 <;> rw [e] <;> split <;> refine z_W_of ?_ ?_ ?_ ?_ ?_ ?_ ?_ ?_ ?_ ?_ ?_ ?_ ?_ ?_ ?_ ?_ ?_ ?_ ?_ ?_ ?_ ?_ <;> (try simp [z_up]) <;> omega
theorem z_W_pass {k : Nat} {b x : Nat → Nat} (hW : z_W k b x) (h0 : 400 ≤ b 0) (h6 : x 6 = 1) (hr : z_rs (b 0) x = 0) : z_W (k + 1) b (z_hd (b 0) (b 2) x) := by
  refine ⟨z_W_pass_0 hW.1 h0 h6 hr, ?_⟩
  obtain ⟨x1, x2, x3, x4, x5, x6⟩ := hW.2
  have x3 := x3 (by omega)
  have h13 := hW.lp
  have hl : x 8 < 3 ∧ (x 8 + 1) * b 0 ≤ x 7 + 100 := by
    unfold z_rs at hr
    by_cases a : 0 < x 10
    · rw [if_pos a] at hr; omega
    · rw [if_neg a] at hr
      by_cases a8 : x 8 < 3
      · rw [if_pos a8] at hr
        refine ⟨a8, ?_⟩
        by_cases a9 : x 7 + 100 < (x 8 + 1) * b 0
        · rw [if_pos a9] at hr; omega
        · omega
      · rw [if_neg a8] at hr; omega
  have hz : x (14 + x 8) = 0 := by
    have h9 := (hW.sl (x 8) (by omega)).2
    have : ¬ 1 ≤ x (14 + x 8) := fun q => by
      rcases h9.mp q with q | q <;> omega
    omega
  have e6 : z_hd (b 0) (b 2) x 6 = 1 := by
    unfold z_hd
    rw [z_up_n (by decide), z_up_n (by decide), z_up_n (by decide), z_up_n (by omega)]
    split <;> exact h6
  have ej : ∀ j, j = 5 ∨ j = 7 ∨ j = 18 → z_hd (b 0) (b 2) x j = x j := fun j hj => by
    unfold z_hd
    rw [z_up_n (by omega), z_up_n (by omega), z_up_n (by omega), z_up_n (by omega)]
    split
    · exact z_up_n (by omega)
    · rfl
  have e8 : z_hd (b 0) (b 2) x 8 = x 8 + 1 := by
    unfold z_hd
    rw [z_up_n (by decide), z_up_s]
  have e13 : z_hd (b 0) (b 2) x 13 = b 2 := by
    unfold z_hd
    rw [z_up_n (by decide), z_up_n (by decide), z_up_s]
  have es : ∀ j, j < 4 → z_hd (b 0) (b 2) x (14 + j) = if j = x 8 then b 2 - x 13 + 1 else x (14 + j) := fun j hj => by
    unfold z_hd
    rw [z_up_n (by omega), z_up_n (by omega), z_up_n (by omega)]
    by_cases c : j = x 8
    · subst c; rw [if_pos rfl, z_up_s]
    · rw [if_neg c, z_up_n (by omega)]
      split
      · exact z_up_n (by omega)
      · rfl
  have e0 := es 0 (by decide)
  have e1 := es 1 (by decide)
  have e2 := es 2 (by decide)
  have e3 := es 3 (by decide)
  simp only [Nat.add_zero, show 14 + 1 = 15 from rfl, show 14 + 2 = 16 from rfl, show 14 + 3 = 17 from rfl] at e0 e1 e2 e3
  unfold z_E
  rw [e8, e13, e6, ej 7 (.inr (.inl rfl)), ej 5 (.inl rfl), e0, e1, e2, e3]
  refine ⟨hl.2, fun q => by omega, fun _ => ?_, x4, fun q => by omega, fun q => by omega⟩
  have hl8 := hl.1
  clear e0 e1 e2 e3 es ej e6 e8 e13 x1 x2 x5 x6 hr hl
  rcases (show x 8 = 0 ∨ x 8 = 1 ∨ x 8 = 2 by omega) with e | e | e
  · rw [e] at hz ⊢
    have hz : x 14 = 0 := hz
    simp
    omega
  · rw [e] at hz ⊢
    have hz : x 15 = 0 := hz
    simp
    omega
  · rw [e] at hz ⊢
    have hz : x 16 = 0 := hz
    simp
    omega
theorem z_endLeg {c : q_M} {p w T : Nat} {x : Nat → Nat} (hp : p + 2 < 220) (h : z_T c p w x) (h6 : x 6 ≠ 2) (h8 : x 8 < 4) (h13 : x 13 ≤ T) : P_X6_endLeg p (nI T) c ∧ F_X6_endLeg p (nI T) c = (nI (T - x 13), q_up (q_up c (p + 2) (x 8) (nI (T - x 13))) p 10 (nI T)) := by
  have elp := h.lp h6
  constructor
  · unfold P_X6_endLeg
    intro x1 _
    rw [h.lg]
    exact ⟨z_putP (z_len (by omega)) h8, trivial⟩
  · simp only [F_X6_endLeg, q_L, elp, h.lg, z_sub h13, z_put (z_len (show p + 2 < 220 by omega)) h8]
theorem z_hdC {k : Nat} {c : q_M} {w : Nat} {b : Nat → Nat} {t : Nat → Nat → Nat} (hR : z_R c 0 b t) (hw : w < b 3) (hw6 : w < 6) (hW : z_W k b (t w)) (h0 : 400 ≤ b 0) (h1 : b 0 ≤ 4000) (h6 : t w 6 = 1) (h8 : t w 8 < 3) :
    P_X4_handOver 0 (0 + 2 + 3 * w) c ∧ (F_X4_handOver 0 (0 + 2 + 3 * w) c).1 = nI (b 2 - t w 13) ∧ z_R (F_X4_handOver 0 (0 + 2 + 3 * w) c).2 0 b (z_ut t w (z_hd (b 0) (b 2) (t w))) ∧ ∀ a, 20 ≤ a → (F_X4_handOver 0 (0 + 2 + 3 * w) c).2 a = c a := by
  have hT := hR.te w hw6 hw
  have h7 := hW.ps
  have h13 := hW.lp
  have hE := z_mE hW.lg h1
  have hcond : (F_X6_legEnd (0 + 2 + 3 * w) (c 0 3) c + 100 < c (0 + 2 + 3 * w) 5) = ((t w 8 + 1) * b 0 + 100 < t w 7) := by
    rw [hR.ll, z_legEnd hT, hT.ps, z_l100, z_add, z_lt (by omega) (by omega)]
  generalize hp : 0 + 2 + 3 * w = p at hT hcond ⊢
  have hp2 : p + 2 < 220 := by omega
  have key : ∀ (c' : q_M) (x : Nat → Nat), z_T c' p w x → x 6 = 1 → x 8 = t w 8 → x 13 = t w 13 → (∀ a, a ≠ p → c' a = c a) →
      P_X6_endLeg p (c 0 2) c' ∧ (F_X6_endLeg p (c 0 2) c').1 = nI (b 2 - t w 13) ∧ z_T (q_up (q_up (F_X6_endLeg p (c 0 2) c').2 p 6 ((F_X6_endLeg p (c 0 2) c').2 p 6 + 1)) p 7 0) p w (z_up (z_up (z_up (z_up x (14 + t w 8) (b 2 - t w 13 + 1)) 13 (b 2)) 8 (t w 8 + 1)) 9 0) ∧ ∀ a, a ≠ p → a ≠ p + 2 → (q_up (q_up (F_X6_endLeg p (c 0 2) c').2 p 6 ((F_X6_endLeg p (c 0 2) c').2 p 6 + 1)) p 7 0) a = c a := by
    intro c' x hx x6 x8 x13 hof
    rw [hR.ck]
    obtain ⟨p1, e1⟩ := z_endLeg (T := b 2) hp2 hx (by omega) (by omega) (by omega)
    rw [x8, x13] at e1
    rw [e1]
    have hT1 := (hx.sl_ (j := t w 8) (y := b 2 - t w 13) (by omega)).lp_ (y := b 2)
    have e6 : (q_up (q_up c' (p + 2) (t w 8) (nI (b 2 - t w 13))) p 10 (nI (b 2))) p 6 + 1 = nI (t w 8 + 1) := by
      rw [hT1.lg, z_up_n (by decide), z_up_n (by omega), x8, z_l1, z_add]
    have hT2 : z_T (q_up (q_up (q_up (q_up c' (p + 2) (t w 8) (nI (b 2 - t w 13))) p 10 (nI (b 2))) p 6 (nI (t w 8 + 1))) p 7 0) p w _ := (hT1.lg_ (y := t w 8 + 1)).sr_ (y := 0)
    refine ⟨p1, rfl, ?_, fun a e1 e2 => ?_⟩
    · show z_T (q_up (q_up (q_up (q_up c' (p + 2) (t w 8) (nI (b 2 - t w 13))) p 10 (nI (b 2))) p 6 ((q_up (q_up c' (p + 2) (t w 8) (nI (b 2 - t w 13))) p 10 (nI (b 2))) p 6 + 1)) p 7 0) p w _
      rw [e6]
      exact hT2
    · rw [q_up_off e1, q_up_off e1]
      dsimp only
      rw [q_up_off e1, q_up_off e2]
      exact hof a e1
  simp only [P_X4_handOver, F_X4_handOver, hcond, q_L, forall_eq']
  unfold z_hd
  by_cases hl : (t w 8 + 1) * b 0 + 100 < t w 7
  · simp only [if_pos hl]
    obtain ⟨k1, k2, k3, k4⟩ := key (q_up c p 12 1) (z_up (t w) 11 1) (hT.lf_ (y := 1)) h6 rfl rfl (fun a ha => q_up_off ha)
    subst hp
    have hR2 := hR.team hw k3 (fun a e1 _ e3 => k4 a e1 e3)
    exact ⟨⟨fun _ => ⟨k1, trivial⟩, fun q => absurd hl q⟩, k2, hR2, fun a ha => k4 a (by omega) (by omega)⟩
  · simp only [if_neg hl]
    obtain ⟨k1, k2, k3, k4⟩ := key c (t w) hT h6 rfl rfl (fun a ha => rfl)
    subst hp
    have hR2 := hR.team hw k3 (fun a e1 _ e3 => k4 a e1 e3)
    exact ⟨⟨fun q => absurd q hl, fun _ => ⟨k1, trivial⟩⟩, k2, hR2, fun a ha => k4 a (by omega) (by omega)⟩
