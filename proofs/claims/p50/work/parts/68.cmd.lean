/-! What the commands quit, speed, drop and protest do. -/
def z_c1 (c : Nat) : Int32 := if c = 0 then 10 else if c = 1 then 11 else 13
def z_c2 (c : Nat) : Int32 := if c = 0 then 10 else if c = 1 then 11 else if c = 2 then 13 else 14
def z_c3 (c : Nat) : Int32 := if c = 0 then 10 else if c = 1 then 11 else if c = 2 then 12 else 13
theorem z_g0 {m : q_M} {w : Nat} {v : Int32} (hw : w < 6) : F_X9_sets (nI w) 0 v m 229 = m 229 := z_offs (k := 0) hw (by decide) (by decide)
theorem z_g1 {m : q_M} {w : Nat} {v : Int32} (hw : w < 6) : F_X9_sets (nI w) 1 v m 229 = m 229 := z_offs (k := 1) hw (by decide) (by decide)
theorem z_g2 {m : q_M} {w : Nat} {v : Int32} (hw : w < 6) : F_X9_sets (nI w) 2 v m 229 = m 229 := z_offs (k := 2) hw (by decide) (by decide)
theorem z_g3 {m : q_M} {w : Nat} {v : Int32} (hw : w < 6) : F_X9_sets (nI w) 3 v m 229 = m 229 := z_offs (k := 3) hw (by decide) (by decide)
theorem z_g4 {m : q_M} {w : Nat} {v : Int32} (hw : w < 6) : F_X9_sets (nI w) 4 v m 229 = m 229 := z_offs (k := 4) hw (by decide) (by decide)
theorem z_g5 {m : q_M} {w : Nat} {v : Int32} (hw : w < 6) : F_X9_sets (nI w) 5 v m 229 = m 229 := z_offs (k := 5) hw (by decide) (by decide)
theorem z_g6 {m : q_M} {w : Nat} {v : Int32} (hw : w < 6) : F_X9_sets (nI w) 6 v m 229 = m 229 := z_offs (k := 6) hw (by decide) (by decide)
theorem z_g7 {m : q_M} {w : Nat} {v : Int32} (hw : w < 6) : F_X9_sets (nI w) 7 v m 229 = m 229 := z_offs (k := 7) hw (by decide) (by decide)
theorem z_g8 {m : q_M} {w : Nat} {v : Int32} (hw : w < 6) : F_X9_sets (nI w) 8 v m 229 = m 229 := z_offs (k := 8) hw (by decide) (by decide)
theorem z_g9 {m : q_M} {w : Nat} {v : Int32} (hw : w < 6) : F_X9_sets (nI w) 9 v m 229 = m 229 := z_offs (k := 9) hw (by decide) (by decide)
theorem z_g10 {m : q_M} {w : Nat} {v : Int32} (hw : w < 6) : F_X9_sets (nI w) 10 v m 229 = m 229 := z_offs (k := 10) hw (by decide) (by decide)
theorem z_g11 {m : q_M} {w : Nat} {v : Int32} (hw : w < 6) : F_X9_sets (nI w) 11 v m 229 = m 229 := z_offs (k := 11) hw (by decide) (by decide)
theorem z_g12 {m : q_M} {w : Nat} {v : Int32} (hw : w < 6) : F_X9_sets (nI w) 12 v m 229 = m 229 := z_offs (k := 12) hw (by decide) (by decide)
theorem z_g13 {m : q_M} {w : Nat} {v : Int32} (hw : w < 6) : F_X9_sets (nI w) 13 v m 229 = m 229 := z_offs (k := 13) hw (by decide) (by decide)
theorem z_g14 {m : q_M} {w : Nat} {v : Int32} (hw : w < 6) : F_X9_sets (nI w) 14 v m 229 = m 229 := z_offs (k := 14) hw (by decide) (by decide)
theorem z_g15 {m : q_M} {w : Nat} {v : Int32} (hw : w < 6) : F_X9_sets (nI w) 15 v m 229 = m 229 := z_offs (k := 15) hw (by decide) (by decide)
theorem z_g16 {m : q_M} {w : Nat} {v : Int32} (hw : w < 6) : F_X9_sets (nI w) 16 v m 229 = m 229 := z_offs (k := 16) hw (by decide) (by decide)
theorem z_g17 {m : q_M} {w : Nat} {v : Int32} (hw : w < 6) : F_X9_sets (nI w) 17 v m 229 = m 229 := z_offs (k := 17) hw (by decide) (by decide)
theorem z_g18 {m : q_M} {w : Nat} {v : Int32} (hw : w < 6) : F_X9_sets (nI w) 18 v m 229 = m 229 := z_offs (k := 18) hw (by decide) (by decide)
theorem z_gk {m : q_M} {w k : Nat} {v : Int32} (hw : w < 6) (hk : k < 19) : F_X9_sets (nI w) (nI k) v m 229 = m 229 := z_offs hw hk (by decide)
theorem z_V.ut {k : Nat} {b : Nat → Nat} {t : Nat → Nat → Nat} (h : z_V k b t) {w : Nat} {x : Nat → Nat} (hw : w < b 3) (hx : z_W k b x) (h4 : x 4 = t w 4) : z_V k b (z_ut t w x) := by
  refine ⟨h.l0, h.l1, h.bg, h.ck, h.n6, fun i hi => ?_, fun i hi h3 j hj => ?_, z_ls h.ls rfl (fun i hi => by
    by_cases e : i = w
    · subst e; rw [z_ut_s]; exact h4
    · rw [z_ut_n e])⟩
  · by_cases e : i = w
    · subst e; rw [z_ut_s]; exact hx
    · rw [z_ut_n e]; exact h.te i hi
  · rw [z_ut_n (by omega)]
    exact h.ab i hi h3 j hj
theorem z_tm0 {k : Nat} {σ : q_M} {w : Nat} {b : Nat → Nat} {t : Nat → Nat → Nat} (hR : z_R σ 0 b t) (hV : z_V k b t) (hw : w < b 3) : F_X8_team0 (nI w) σ = 0 + 2 + 3 * w ∧ P_X8_team0 (nI w) σ := by
  have e := z_some hR hw hV.n6 (hV.stt w hw)
  unfold F_X8_team0 P_X8_team0
  rw [e]
  exact ⟨rfl, by simp⟩
/-! quit -/
theorem z_W_quit_0 {k : Nat} {b x : Nat → Nat} (hW : z_W0 k b x) (h6 : x 6 = 1) : z_W0 (k + 1) b (z_up x 6 3) := by
  obtain ⟨⟨a0, a1, a2, a3⟩, ⟨c4, c5, c6, c7, c8, c9, c10, c11, c12, c13⟩, ⟨l0, l1, l2, l3⟩, c18, cf, cr, cu⟩ := z_W_to hW
  refine z_W_of ?_ ?_ ?_ ?_ ?_ ?_ ?_ ?_ ?_ ?_ ?_ ?_ ?_ ?_ ?_ ?_ ?_ ?_ ?_ ?_ ?_ ?_ <;> (try simp [z_up]) <;> omega
theorem z_W_quit {k : Nat} {b x : Nat → Nat} (hW : z_W k b x) (h6 : x 6 = 1) : z_W (k + 1) b (z_up x 6 3) := by
  refine ⟨z_W_quit_0 hW.1 h6, ?_⟩
  obtain ⟨x1, x2, x3, x4, x5, x6⟩ := hW.2
  unfold z_E
  exact ⟨x1, (fun q => absurd (show (3 : Nat) = 2 from q) (by decide)), fun _ => x3 (by omega), x4, (fun q => absurd (show (3 : Nat) = 2 from q) (by decide)), fun q => absurd (show (3 : Nat) = 0 from q) (by decide)⟩
theorem z_quit {k : Nat} {b : Nat → Nat} {t : Nat → Nat → Nat} (hV : z_V k b t) (g : Int32) : z_same 2 k b t z_c1 (fun _ => True) (fun σ => (F_X4_faultOfWithdrawing 0 g σ, σ)) (fun σ => P_X8_team0 g σ ∧ P_X4_countRunning 0 (q_up σ (F_X8_team0 g σ) 3 4)) (fun σ => (F_X4_countRunning 0 (q_up σ (F_X8_team0 g σ) 3 4), q_up σ (F_X8_team0 g σ) 3 4)) (P_X9_leaves g) (F_X9_leaves g) := by
  have n6 := hV.n6
  by_cases hg : ∃ w, w < b 3 ∧ g = nI w
  · obtain ⟨w, hw, rfl⟩ := hg
    have h6 : w < 6 := by omega
    have hW := hV.te w hw
    have hst := hW.st
    by_cases h1 : t w 6 = 1
    · have hV' : z_V (k + 1) b (z_ut t w (z_up (t w) 6 3)) := (hV.k (by omega)).ut hw (z_W_quit hW h1) rfl
      refine z_done (z_sm (z_is (z_ut t w (z_up (t w) 6 3)) 1) 0 (b 3)) b (z_ut t w (z_up (t w) 6 3)) hV' (by have h1 := z_sm_le (f := z_is (z_ut t w (z_up (t w) 6 3)) 1) 1 (b 3) 0 (fun i _ _ => by unfold z_is; split <;> omega); omega) (fun σ hR => ⟨trivial, ?_⟩) (fun σ hR => ?_) (fun τ hM => ?_)
      · have e := (hR.te w h6 hw).st
        simp only [F_X4_faultOfWithdrawing, z_some hR hw n6 hst, e, h1]
        rfl
      · obtain ⟨e0, e1⟩ := z_tm0 hR hV hw
        simp only [e0]
        have hT := hR.te w h6 hw
        have hT2 : z_T (q_up σ (0 + 2 + 3 * w) 3 4) (0 + 2 + 3 * w) w (z_up (t w) 6 3) := hT.st_ (y := 3) (fun _ => hT.lp (by omega))
        have hR2 := hR.team hw hT2 (fun a e1 _ _ => q_up_off e1)
        have hr := z_running n6 hV'.stt hR2
        exact ⟨⟨e1, hr.1⟩, hr.2, hR2, fun a ha => q_up_off (by omega)⟩
      · have hM1 : z_M (q_up τ 229 5 0) b t := hM.u9
        have hM2 : z_M (F_X9_sets (nI w) 6 3 (q_up τ 229 5 0)) b _ := hM1.s6 (y := 3) h6
        have hi := z_inSt (q := 1) n6 (by decide) hV'.stt hM2
        have e6 : F_X9_of (nI w) 6 (q_up τ 229 5 0) = 1 := by rw [hM1.o6 h6, h1]; rfl
        simp only [P_X9_leaves, F_X9_leaves, z_isT hM hw n6, z_10, if_false, q_L, z_uu, forall_eq', e6, if_true]
        refine ⟨⟨fun q => q.elim, fun _ => ⟨z_p6 h6, fun _ => ⟨z_q6 h6, hi.1, trivial⟩, fun q => absurd trivial q⟩⟩, hi.2, ?_, hM2, ?_⟩
        · (try dsimp only); rw [z_g6 h6, q_up_eq]
        · exact (z_fs.u5 τ 0).tr (z_fs.st (k := 6) h6 (by decide))
    · refine z_fail 2 (by decide) (by decide) hV (fun σ hR => ⟨trivial, ?_⟩) (fun τ hM => ?_)
      · have e : ¬ σ (0 + 2 + 3 * w) 3 = 2 := by
          rw [(hR.te w h6 hw).st, z_l2, z_eq (by omega) (by omega)]
          omega
        simp only [F_X4_faultOfWithdrawing, z_some hR hw n6 hst]
        rw [if_neg e]
        rfl
      · have hM1 : z_M (q_up τ 229 5 0) b t := hM.u9
        have e6 : ¬ F_X9_of (nI w) 6 (q_up τ 229 5 0) = 1 := by rw [hM1.o6 h6, z_l1, z_eq (by omega) (by omega)]; exact h1
        simp only [P_X9_leaves, F_X9_leaves, z_isT hM hw n6, z_10, if_false, q_L, z_uu, forall_eq']
        rw [if_neg e6]
        exact ⟨⟨fun q => q.elim, fun _ => ⟨z_p6 h6, fun q => absurd q e6, fun _ => trivial⟩⟩, rfl⟩
  · refine z_fail 1 (by decide) (by decide) hV (fun σ hR => ⟨trivial, ?_⟩) (fun τ hM => ?_)
    · simp only [F_X4_faultOfWithdrawing, z_none hR hg]
      rfl
    · have e := z_noT hM n6 hg
      unfold P_X9_leaves F_X9_leaves
      rw [if_pos e]
      exact ⟨⟨fun _ => trivial, fun q => absurd e q⟩, rfl⟩
/-! speed -/
theorem z_W_speed_0 {k : Nat} {b x : Nat → Nat} (hW : z_W0 k b x) {l v : Nat} (hl : l < 4) (h1 : 20 ≤ v) (h2 : v ≤ 99) : z_W0 (k + 1) b (z_up x l v) := by
  obtain ⟨⟨a0, a1, a2, a3⟩, ⟨c4, c5, c6, c7, c8, c9, c10, c11, c12, c13⟩, ⟨l0, l1, l2, l3⟩, c18, cf, cr, cu⟩ := z_W_to hW
  rcases (show l = 0 ∨ l = 1 ∨ l = 2 ∨ l = 3 by omega) with rfl | rfl | rfl | rfl <;> refine z_W_of ?_ ?_ ?_ ?_ ?_ ?_ ?_ ?_ ?_ ?_ ?_ ?_ ?_ ?_ ?_ ?_ ?_ ?_ ?_ ?_ ?_ ?_ <;> (try simp [z_up]) <;> omega
theorem z_W_speed {k : Nat} {b x : Nat → Nat} (hW : z_W k b x) {l v : Nat} (hl : l < 4) (h1 : 20 ≤ v) (h2 : v ≤ 99) : z_W (k + 1) b (z_up x l v) := by
  refine ⟨z_W_speed_0 hW.1 hl h1 h2, ?_⟩
  exact hW.2.cg (fun j h5 _ _ _ _ _ => z_up_n (by omega))
theorem z_speed {k : Nat} {b : Nat → Nat} {t : Nat → Nat → Nat} (hV : z_V k b t) (g l v : Int32) : z_same 3 k b t z_c3 (fun _ => True) (fun σ => (F_X4_faultOfSpeed 0 g l v σ, σ)) (fun σ => P_X8_team0 g σ ∧ P_X6_changeSpeed (F_X8_team0 g σ) l v σ) (fun σ => F_X6_changeSpeed (F_X8_team0 g σ) l v σ) (P_X9_speeds g l v) (F_X9_speeds g l v) := by
  have n6 := hV.n6
  have hb := hV.bg
  by_cases hg : ∃ w, w < b 3 ∧ g = nI w
  · obtain ⟨w, hw, rfl⟩ := hg
    have h6 : w < 6 := by omega
    have hW := hV.te w hw
    have hst := hW.st
    rcases z_leg l with ⟨a, ha, rfl, ea, eb⟩ | ⟨ea, eb⟩
    · by_cases v1 : v < 20
      · refine z_fail 2 (by decide) (by decide) hV (fun σ hR => ⟨trivial, ?_⟩) (fun τ hM => ?_)
        · simp only [F_X4_faultOfSpeed, z_some hR hw n6 hst, ea, z_10, if_false]
          rw [if_pos v1]
          rfl
        · have e : F_X9_isIn v 20 99 (q_up τ 229 5 0) = 0 := by unfold F_X9_isIn; rw [if_pos v1]
          simp only [P_X9_speeds, F_X9_speeds, z_isT hM hw n6, eb, z_10, if_false, q_L, z_uu, forall_eq', e, if_true]
          exact ⟨⟨fun q => q.elim, fun _ => ⟨fun q => q.elim, fun _ => ⟨fun _ => trivial, fun q => absurd trivial q⟩⟩⟩, rfl⟩
      · by_cases v2 : 99 < v
        · refine z_fail 2 (by decide) (by decide) hV (fun σ hR => ⟨trivial, ?_⟩) (fun τ hM => ?_)
          · simp only [F_X4_faultOfSpeed, z_some hR hw n6 hst, ea, z_10, if_false]
            rw [if_neg v1, if_pos v2]
            rfl
          · have e : F_X9_isIn v 20 99 (q_up τ 229 5 0) = 0 := by unfold F_X9_isIn; rw [if_neg v1, if_pos v2]
            simp only [P_X9_speeds, F_X9_speeds, z_isT hM hw n6, eb, z_10, if_false, q_L, z_uu, forall_eq', e, if_true]
            exact ⟨⟨fun q => q.elim, fun _ => ⟨fun q => q.elim, fun _ => ⟨fun _ => trivial, fun q => absurd trivial q⟩⟩⟩, rfl⟩
        · obtain ⟨u, u1, u2, rfl⟩ := z_rg (a := 20) (b := 99) (by decide) (by decide) v1 v2
          have e : ∀ τ, F_X9_isIn (nI u) 20 99 τ = 1 := fun τ => by unfold F_X9_isIn; rw [if_neg v1, if_neg v2]
          by_cases h1 : b 1 = 1
          · refine z_fail 3 (by decide) (by decide) hV (fun σ hR => ⟨trivial, ?_⟩) (fun τ hM => ?_)
            · have e : ¬ σ 0 1 = 0 := by rw [hR.bg, h1]; decide
              simp only [F_X4_faultOfSpeed, z_some hR hw n6 hst, ea, z_10, if_false]
              rw [if_neg v1, if_neg v2, if_neg e]
              rfl
            · have hM1 : z_M (q_up τ 229 5 0) b t := hM.u9
              have eu := z_unp hM1 hb
              rw [h1] at eu
              have eu2 : ¬ F_X9_isUnprepared (q_up τ 229 5 0) = 0 := by rw [eu]; decide
              simp only [P_X9_speeds, F_X9_speeds, z_isT hM hw n6, eb, z_10, if_false, q_L, z_uu, forall_eq', e]
              rw [if_neg eu2]
              exact ⟨⟨fun q => q.elim, fun _ => ⟨fun q => q.elim, fun _ => ⟨fun q => q.elim, fun _ => ⟨fun q => absurd q eu2, fun _ => trivial⟩⟩⟩⟩, rfl⟩
          · have h1 : b 1 = 0 := by omega
            have hV' : z_V (k + 1) b (z_ut t w (z_up (t w) a u)) := (hV.k (by omega)).ut hw (z_W_speed hW ha u1 u2) (z_up_n (by omega))
            refine z_done (t w a) b (z_ut t w (z_up (t w) a u)) hV' (by have := hW.sp a ha; omega) (fun σ hR => ⟨trivial, ?_⟩) (fun σ hR => ?_) (fun τ hM => ?_)
            · have e : σ 0 1 = 0 := by rw [hR.bg, h1]; rfl
              simp only [F_X4_faultOfSpeed, z_some hR hw n6 hst, ea, z_10, if_false]
              rw [if_neg v1, if_neg v2, if_pos e]
              rfl
            · obtain ⟨e0, e1⟩ := z_tm0 hR hV hw
              have hT := hR.te w h6 hw
              simp only [e0, P_X6_changeSpeed, F_X6_changeSpeed, q_L, z_at (z_len (show 0 + 2 + 3 * w + 1 < 220 by omega)) ha, z_put (z_len (show 0 + 2 + 3 * w + 1 < 220 by omega)) ha]
              have hR2 := hR.team hw (hT.sp_ (y := u) ha) (fun a _ e1 _ => q_up_off e1)
              exact ⟨⟨e1, z_atP (z_len (by omega)) ha, fun _ _ => ⟨z_putP (z_len (by omega)) ha, trivial⟩⟩, hT.sp a ha, hR2, fun a ha => q_up_off (by omega)⟩
            · have hM1 : z_M (q_up τ 229 5 0) b t := hM.u9
              have eu := z_unp hM1 hb
              rw [h1] at eu
              have eu2 : F_X9_isUnprepared (q_up τ 229 5 0) = 0 := by rw [eu]; rfl
              have e0 : (0 : Int32) + nI a = nI a := by rw [z_l0, z_add, Nat.zero_add]
              simp only [P_X9_speeds, F_X9_speeds, z_isT hM hw n6, eb, z_10, if_false, q_L, z_uu, forall_eq', e, eu2, if_true, e0]
              refine ⟨⟨fun q => q.elim, fun _ => ⟨fun q => q.elim, fun _ => ⟨fun q => q.elim, fun _ => ⟨fun _ => ⟨z_ofP h6 (by omega), z_setsP h6 (by omega), trivial⟩, fun q => absurd trivial q⟩⟩⟩⟩, hM1.of h6 (by omega), ?_, hM1.set h6 (by omega), ?_⟩
              · (try dsimp only); rw [z_gk h6 (show a < 19 by omega), q_up_eq]
              · exact (z_fs.u5 τ 0).tr (z_fs.st h6 (by omega))
    · refine z_fail 1 (by decide) (by decide) hV (fun σ hR => ⟨trivial, ?_⟩) (fun τ hM => ?_)
      · simp only [F_X4_faultOfSpeed, z_some hR hw n6 hst, ea, if_true]
        rfl
      · simp only [P_X9_speeds, F_X9_speeds, z_isT hM hw n6, eb, z_10, if_false, if_true]
        exact ⟨⟨fun q => q.elim, fun _ => ⟨fun _ => trivial, fun q => absurd trivial q⟩⟩, rfl⟩
  · refine z_fail 1 (by decide) (by decide) hV (fun σ hR => ⟨trivial, ?_⟩) (fun τ hM => ?_)
    · simp only [F_X4_faultOfSpeed, z_none hR hg]
      rfl
    · have e := z_noT hM n6 hg
      unfold P_X9_speeds F_X9_speeds
      rw [if_pos e]
      exact ⟨⟨fun _ => trivial, fun q => absurd e q⟩, rfl⟩
/-! drop -/
abbrev z_zone (L : Nat) (x : Nat → Nat) : Prop := x 8 < 3 ∧ (x 8 + 1) * L ≤ x 7 + 100 ∧ x 7 ≤ (x 8 + 1) * L + 100
theorem z_zL {a L : Nat} (h : 400 ≤ L) : 100 ≤ (a + 1) * L := by
  have := Nat.mul_le_mul (show 1 ≤ a + 1 by omega) h
  omega
theorem z_zoneC {k : Nat} {c : q_M} {p w : Nat} {b x : Nat → Nat} (h : z_T c p w x) (hW : z_W k b x) (h0 : 400 ≤ b 0) (h1 : b 0 ≤ 4000) : F_X6_inZone p (nI (b 0)) c = nI (if z_zone (b 0) x then 1 else 0) := by
  have h8 := hW.lg
  have h7 := hW.ps
  have hE := z_mE h8 h1
  have hE0 := z_zL (a := x 8) h0
  unfold F_X6_inZone z_zone
  rw [z_legEnd h, h.lg, h.ps]
  generalize (x 8 + 1) * b 0 = B at h7 hE hE0 ⊢
  rw [z_l100, z_sub hE0, z_add, z_l3]
  simp (disch := omega) only [z_lt]
  by_cases a : x 8 < 3
  · rw [if_pos a]
    by_cases a1 : x 7 < B - 100
    · rw [if_pos a1, if_neg (fun q => by omega)]; rfl
    · rw [if_neg a1]
      by_cases a2 : B + 100 < x 7
      · rw [if_pos a2, if_neg (fun q => by omega)]; rfl
      · rw [if_neg a2, if_pos ⟨a, by omega, by omega⟩]; rfl
  · rw [if_neg a, if_neg (fun q => a q.1)]; rfl
theorem z_zoneM {k : Nat} {m : q_M} {w : Nat} {b : Nat → Nat} {t : Nat → Nat → Nat} (h : z_M m b t) (hw : w < 6) (hW : z_W k b (t w)) (h0 : 400 ≤ b 0) (h1 : b 0 ≤ 4000) : P_X9_inZone (nI w) m ∧ F_X9_inZone (nI w) m = nI (if z_zone (b 0) (t w) then 1 else 0) := by
  have h8 := hW.lg
  have h7 := hW.ps
  have hE := z_mE h8 h1
  have hE0 := z_zL (a := t w 8) h0
  constructor
  · unfold P_X9_inZone
    exact ⟨z_p8 hw, fun _ _ _ _ => ⟨fun _ => ⟨z_p7 hw, trivial⟩, fun _ => trivial⟩⟩
  · simp only [F_X9_inZone, q_L, F_X9_isIn, h.o8 hw, h.o7 hw, z_end h]
    unfold z_zone
    generalize (t w 8 + 1) * b 0 = B at h7 hE hE0 ⊢
    rw [z_l100, z_sub hE0, z_add, z_l3]
    simp (disch := omega) only [z_lt]
    by_cases a : t w 8 < 3
    · rw [if_pos a]
      by_cases a1 : t w 7 < B - 100
      · rw [if_pos a1, if_pos rfl, if_neg (show ¬ (t w 8 < 3 ∧ B ≤ t w 7 + 100 ∧ t w 7 ≤ B + 100) by omega)]; rfl
      · rw [if_neg a1]
        by_cases a2 : B + 100 < t w 7
        · rw [if_pos a2, if_pos rfl, if_neg (show ¬ (t w 8 < 3 ∧ B ≤ t w 7 + 100 ∧ t w 7 ≤ B + 100) by omega)]; rfl
        · rw [if_neg a2, if_neg (show ¬ (1 : Int32) = 0 by decide), if_pos (show (t w 8 < 3 ∧ B ≤ t w 7 + 100 ∧ t w 7 ≤ B + 100) by omega)]; rfl
    · rw [if_neg a, if_neg (fun q => a q.1)]; rfl
def z_dr (L s : Nat) (x : Nat → Nat) : Nat → Nat := z_up (if z_zone L x then z_up x 12 1 else x) 10 (x 10 + s)
theorem z_W_drop_0 {k : Nat} {b x : Nat → Nat} (hW : z_W0 k b x) {s : Nat} (h2 : s ≤ 20) : z_W0 (k + 1) b (z_dr (b 0) s x) := by
  obtain ⟨⟨a0, a1, a2, a3⟩, ⟨c4, c5, c6, c7, c8, c9, c10, c11, c12, c13⟩, ⟨l0, l1, l2, l3⟩, c18, cf, cr, cu⟩ := z_W_to hW
  unfold z_dr
  split <;> refine z_W_of ?_ ?_ ?_ ?_ ?_ ?_ ?_ ?_ ?_ ?_ ?_ ?_ ?_ ?_ ?_ ?_ ?_ ?_ ?_ ?_ ?_ ?_ <;> (try simp [z_up]) <;> omega
theorem z_W_drop {k : Nat} {b x : Nat → Nat} (hW : z_W k b x) {s : Nat} (h2 : s ≤ 20) : z_W (k + 1) b (z_dr (b 0) s x) := by
  refine ⟨z_W_drop_0 hW.1 h2, ?_⟩
  refine hW.2.cg (fun j _ _ _ h10 _ h12 => ?_)
  unfold z_dr
  rw [z_up_n h10]
  split
  · exact z_up_n h12
  · rfl
theorem z_drop {k : Nat} {b : Nat → Nat} {t : Nat → Nat → Nat} (hV : z_V k b t) (hk : k ≤ 20000) (g v : Int32) : z_same 3 k b t z_c3 (fun _ => True) (fun σ => (F_X4_faultOfDropping 0 g v σ, σ)) (fun σ => P_X8_team0 g σ) (fun σ => F_X4_dropQuill 0 (F_X8_team0 g σ) v σ) (P_X9_drops g v) (F_X9_drops g v) := by
  have n6 := hV.n6
  have l0 := hV.l0
  have l1 := hV.l1
  by_cases hg : ∃ w, w < b 3 ∧ g = nI w
  · obtain ⟨w, hw, rfl⟩ := hg
    have h6 : w < 6 := by omega
    have hW := hV.te w hw
    have hst := hW.st
    by_cases v1 : v < 1
    · refine z_fail 2 (by decide) (by decide) hV (fun σ hR => ⟨trivial, ?_⟩) (fun τ hM => ?_)
      · simp only [F_X4_faultOfDropping, z_some hR hw n6 hst]
        rw [if_pos v1]
        rfl
      · have e : F_X9_isIn v 1 20 (q_up τ 229 5 0) = 0 := by unfold F_X9_isIn; rw [if_pos v1]
        simp only [P_X9_drops, F_X9_drops, z_isT hM hw n6, z_10, if_false, q_L, z_uu, forall_eq', e, if_true]
        exact ⟨⟨fun q => q.elim, fun _ => ⟨fun _ => trivial, fun q => absurd trivial q⟩⟩, rfl⟩
    · by_cases v2 : 20 < v
      · refine z_fail 2 (by decide) (by decide) hV (fun σ hR => ⟨trivial, ?_⟩) (fun τ hM => ?_)
        · simp only [F_X4_faultOfDropping, z_some hR hw n6 hst]
          rw [if_neg v1, if_pos v2]
          rfl
        · have e : F_X9_isIn v 1 20 (q_up τ 229 5 0) = 0 := by unfold F_X9_isIn; rw [if_neg v1, if_pos v2]
          simp only [P_X9_drops, F_X9_drops, z_isT hM hw n6, z_10, if_false, q_L, z_uu, forall_eq', e, if_true]
          exact ⟨⟨fun q => q.elim, fun _ => ⟨fun _ => trivial, fun q => absurd trivial q⟩⟩, rfl⟩
      · obtain ⟨u, u1, u2, rfl⟩ := z_rg (a := 1) (b := 20) (by decide) (by decide) v1 v2
        have e : ∀ τ, F_X9_isIn (nI u) 1 20 τ = 1 := fun τ => by unfold F_X9_isIn; rw [if_neg v1, if_neg v2]
        by_cases h1 : t w 6 = 1
        · have hV' : z_V (k + 1) b (z_ut t w (z_dr (b 0) u (t w))) := (hV.k (by omega)).ut hw (z_W_drop hW u2) (by unfold z_dr; rw [z_up_n (by decide)]; split <;> rfl)
          refine z_done (t w 10 + u) b (z_ut t w (z_dr (b 0) u (t w))) hV' (by have := hW.sd; omega) (fun σ hR => ⟨trivial, ?_⟩) (fun σ hR => ?_) (fun τ hM => ?_)
          · have e := (hR.te w h6 hw).st
            simp only [F_X4_faultOfDropping, F_X4_faultOfWithdrawing, z_some hR hw n6 hst, e, h1]
            rw [if_neg v1, if_neg v2]
            rfl
          · obtain ⟨e0, e1⟩ := z_tm0 hR hV hw
            have hT := hR.te w h6 hw
            have ez := z_zoneC hT hW l0 l1
            have e8 : σ (0 + 2 + 3 * w) 8 + nI u = nI (t w 10 + u) := by rw [hT.sd, z_add]
            simp only [e0, F_X4_dropQuill, hR.ll, ez, e8]
            unfold z_dr
            by_cases z : z_zone (b 0) (t w)
            · simp only [if_pos z]
              rw [if_neg (by decide)]
              have hT2 : z_T (q_up (q_up σ (0 + 2 + 3 * w) 13 1) (0 + 2 + 3 * w) 8 (nI (t w 10 + u))) (0 + 2 + 3 * w) w _ := (hT.df_ (y := 1)).sd_ (y := t w 10 + u)
              have hR2 := hR.team hw hT2 (fun a e1 _ _ => by rw [q_up_off e1, q_up_off e1])
              exact ⟨e1, q_up_eq _ _ _ _, hR2, fun a ha => by (try dsimp only); rw [q_up_off (show a ≠ 0 + 2 + 3 * w by omega), q_up_off (show a ≠ 0 + 2 + 3 * w by omega)]⟩
            · simp only [if_neg z]
              rw [if_pos (show nI 0 = 0 from rfl)]
              have hR2 := hR.team hw (hT.sd_ (y := t w 10 + u)) (fun a e1 _ _ => q_up_off e1)
              exact ⟨e1, q_up_eq _ _ _ _, hR2, fun a ha => q_up_off (by omega)⟩
          · have hM1 : z_M (q_up τ 229 5 0) b t := hM.u9
            have e6 : F_X9_of (nI w) 6 (q_up τ 229 5 0) = 1 := by rw [hM1.o6 h6, h1]; rfl
            obtain ⟨pz, ez⟩ := z_zoneM hM1 h6 hW l0 l1
            simp only [P_X9_drops, F_X9_drops, z_isT hM hw n6, z_10, if_false, q_L, z_uu, forall_eq', e, e6, if_true, ez]
            unfold z_dr
            by_cases z : z_zone (b 0) (t w)
            · have hM2 : z_M (F_X9_sets (nI w) 12 1 (q_up τ 229 5 0)) b _ := hM1.s12 (y := 1) h6
              have e10 : F_X9_of (nI w) 10 (F_X9_sets (nI w) 12 1 (q_up τ 229 5 0)) + nI u = nI (t w 10 + u) := by
                rw [hM2.o10 h6, z_ut_s, z_up_n (by decide), z_add]
              have hM3 := hM2.s10 (y := t w 10 + u) h6
              rw [z_ut_ut, z_ut_s] at hM3
              simp only [if_pos z, e10]
              rw [if_neg (show ¬ nI 1 = 0 by decide)]
              refine ⟨⟨fun q => q.elim, fun _ => ⟨fun q => q.elim, fun _ => ⟨z_p6 h6, fun _ => ⟨pz, fun q => absurd q (by decide), fun _ => ⟨z_q12 h6, z_p10 h6, z_q10 h6, z_p10 h6, trivial⟩⟩, fun q => absurd trivial q⟩⟩⟩, ?_, ?_, hM3, ?_⟩
              · rw [hM3.o10 h6, z_ut_s, z_up_s]
              · (try dsimp only); rw [z_g10 h6, z_g12 h6, q_up_eq]
              · exact ((z_fs.u5 τ 0).tr (z_fs.st (k := 12) h6 (by decide))).tr (z_fs.st (k := 10) h6 (by decide))
            · have e10 : F_X9_of (nI w) 10 (q_up τ 229 5 0) + nI u = nI (t w 10 + u) := by rw [hM1.o10 h6, z_add]
              have hM3 := hM1.s10 (y := t w 10 + u) h6
              simp only [if_neg z, e10]
              rw [if_pos (show nI 0 = 0 from rfl)]
              refine ⟨⟨fun q => q.elim, fun _ => ⟨fun q => q.elim, fun _ => ⟨z_p6 h6, fun _ => ⟨pz, fun _ => ⟨z_p10 h6, z_q10 h6, z_p10 h6, trivial⟩, fun q => absurd rfl q⟩, fun q => absurd trivial q⟩⟩⟩, ?_, ?_, hM3, ?_⟩
              · rw [hM3.o10 h6, z_ut_s, z_up_s]
              · (try dsimp only); rw [z_g10 h6, q_up_eq]
              · exact (z_fs.u5 τ 0).tr (z_fs.st (k := 10) h6 (by decide))
        · refine z_fail 3 (by decide) (by decide) hV (fun σ hR => ⟨trivial, ?_⟩) (fun τ hM => ?_)
          · have e : ¬ σ (0 + 2 + 3 * w) 3 = 2 := by
              rw [(hR.te w h6 hw).st, z_l2, z_eq (by omega) (by omega)]
              omega
            simp only [F_X4_faultOfDropping, F_X4_faultOfWithdrawing, z_some hR hw n6 hst]
            rw [if_neg v1, if_neg v2, if_neg e]
            rfl
          · have hM1 : z_M (q_up τ 229 5 0) b t := hM.u9
            have e6 : ¬ F_X9_of (nI w) 6 (q_up τ 229 5 0) = 1 := by rw [hM1.o6 h6, z_l1, z_eq (by omega) (by omega)]; exact h1
            simp only [P_X9_drops, F_X9_drops, z_isT hM hw n6, z_10, if_false, q_L, z_uu, forall_eq', e]
            rw [if_neg e6]
            exact ⟨⟨fun q => q.elim, fun _ => ⟨fun q => q.elim, fun _ => ⟨z_p6 h6, fun q => absurd q e6, fun _ => trivial⟩⟩⟩, rfl⟩
  · refine z_fail 1 (by decide) (by decide) hV (fun σ hR => ⟨trivial, ?_⟩) (fun τ hM => ?_)
    · simp only [F_X4_faultOfDropping, z_none hR hg]
      rfl
    · have e := z_noT hM n6 hg
      unfold P_X9_drops F_X9_drops
      rw [if_pos e]
      exact ⟨⟨fun _ => trivial, fun q => absurd e q⟩, rfl⟩
