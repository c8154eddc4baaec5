/-! pass -/
theorem z_pass {k : Nat} {b : Nat → Nat} {t : Nat → Nat → Nat} (hV : z_V k b t) (hk : k ≤ 20000) (g : Int32) : z_same 3 k b t z_c2 (fun _ => True) (F_X8_faultOfPassing g) (fun σ => P_X8_team0 g σ ∧ P_X4_handOver 0 (F_X8_team0 g σ) σ) (fun σ => F_X4_handOver 0 (F_X8_team0 g σ) σ) (P_X9_passes g) (F_X9_passes g) := by
  have n6 := hV.n6
  have l0 := hV.l0
  have l1 := hV.l1
  by_cases hg : ∃ w, w < b 3 ∧ g = nI w
  · obtain ⟨w, hw, rfl⟩ := hg
    have h6 : w < 6 := by omega
    have hW := hV.te w hw
    have hst := hW.st
    have h3 := z_rs3 (b 0) (t w)
    by_cases h1 : t w 6 = 1
    · by_cases hr : z_rs (b 0) (t w) = 0
      · have h8 : t w 8 < 3 := by
          unfold z_rs at hr
          by_cases a : 0 < t w 10
          · rw [if_pos a] at hr; omega
          · rw [if_neg a] at hr
            by_cases a8 : t w 8 < 3
            · exact a8
            · rw [if_neg a8] at hr; omega
        have hV' : z_V (k + 1) b (z_ut t w (z_hd (b 0) (b 2) (t w))) := (hV.k (by omega)).ut hw (z_W_pass hW l0 h1 hr) (by unfold z_hd; rw [z_up_n (by decide), z_up_n (by decide), z_up_n (by decide), z_up_n (by omega)]; split <;> rfl)
        refine z_done (b 2 - t w 13) b (z_ut t w (z_hd (b 0) (b 2) (t w))) hV' (by have := hV.ck; omega) (fun σ hR => ⟨trivial, ?_⟩) (fun σ hR => ?_) (fun τ hM => ?_)
        · have e := (hR.te w h6 hw).st
          have er := z_rsC (hR.te w h6 hw) hW l0 l1 hk
          simp only [F_X8_faultOfPassing, z_some hR hw n6 hst, e, h1, hR.ll, er, hr, q_L]
          rfl
        · obtain ⟨e0, e1⟩ := z_tm0 hR hV hw
          simp only [e0]
          obtain ⟨q1, q2, q3, q4⟩ := z_hdC hR hw h6 hW l0 l1 h1 h8
          exact ⟨⟨e1, q1⟩, q2, q3, q4⟩
        · have hM1 : z_M (q_up τ 229 5 0) b t := hM.u9
          have h7 := hW.ps
          have h13 := hW.lp
          have hE := z_mE hW.lg l1
          obtain ⟨pr, er⟩ := z_rsM hM1 h6 hW l0 l1 hk
          rw [if_pos hr] at er
          have e6 : F_X9_of (nI w) 6 (q_up τ 229 5 0) = 1 := by rw [hM1.o6 h6, h1]; rfl
          have e8 := hM1.o8 (w := w) h6
          have hcond : (F_X9_endOf (nI (t w 8)) (q_up τ 229 5 0) + 100 < F_X9_of (nI w) 7 (q_up τ 229 5 0)) = ((t w 8 + 1) * b 0 + 100 < t w 7) := by
            rw [z_end hM1, hM1.o7 h6, z_l100, z_add, z_lt (by omega) (by omega)]
          have e14 : (14 : Int32) + nI (t w 8) = nI (14 + t w 8) := by rw [z_l14, z_add]
          have ea : nI (t w 8) + 1 = nI (t w 8 + 1) := by rw [z_l1, z_add]
          have e1y : (1 : Int32) + nI (b 2 - t w 13) = nI (b 2 - t w 13 + 1) := by rw [z_l1, z_add, Nat.add_comm]
          have key : ∀ (m : q_M) (x : Nat → Nat), z_M m b (z_ut t w x) → x 13 = t w 13 → m 230 2 - F_X9_of (nI w) 13 m = nI (b 2 - t w 13) ∧ (F_X9_sets (nI w) (nI (14 + t w 8)) (nI (b 2 - t w 13 + 1)) m) 230 2 = nI (b 2) ∧ z_M (F_X9_sets (nI w) 9 0 (F_X9_sets (nI w) 8 (nI (t w 8 + 1)) (F_X9_sets (nI w) 13 (nI (b 2)) (F_X9_sets (nI w) (nI (14 + t w 8)) (nI (b 2 - t w 13 + 1)) m)))) b (z_ut t w (z_up (z_up (z_up (z_up x (14 + t w 8) (b 2 - t w 13 + 1)) 13 (b 2)) 8 (t w 8 + 1)) 9 0)) ∧ z_fs m (F_X9_sets (nI w) 9 0 (F_X9_sets (nI w) 8 (nI (t w 8 + 1)) (F_X9_sets (nI w) 13 (nI (b 2)) (F_X9_sets (nI w) (nI (14 + t w 8)) (nI (b 2 - t w 13 + 1)) m)))) ∧ (F_X9_sets (nI w) 9 0 (F_X9_sets (nI w) 8 (nI (t w 8 + 1)) (F_X9_sets (nI w) 13 (nI (b 2)) (F_X9_sets (nI w) (nI (14 + t w 8)) (nI (b 2 - t w 13 + 1)) m)))) 229 5 = m 229 5 := by
            intro m x hm x13
            have c1 := hm.set (k := 14 + t w 8) (y := b 2 - t w 13 + 1) h6 (by omega)
            rw [z_ut_ut, z_ut_s] at c1
            have c2 := c1.s13 (y := b 2) h6
            rw [z_ut_ut, z_ut_s] at c2
            have c3 := c2.s8 (y := t w 8 + 1) h6
            rw [z_ut_ut, z_ut_s] at c3
            have c4 := c3.s9 (y := 0) h6
            rw [z_ut_ut, z_ut_s] at c4
            refine ⟨?_, c1.bs 2 (by decide), c4, ?_, ?_⟩
            · rw [hm.bs 2 (by decide), hm.o13 h6, z_ut_s, x13, z_sub h13]
            · exact (((z_fs.st h6 (show 14 + t w 8 < 19 by omega)).tr (z_fs.st (k := 13) h6 (by decide))).tr (z_fs.st (k := 8) h6 (by decide))).tr (z_fs.st (k := 9) h6 (by decide))
            · (try dsimp only); rw [z_g9 h6, z_g8 h6, z_g13 h6, z_gk h6 (show 14 + t w 8 < 19 by omega)]
          unfold z_hd
          by_cases hl : (t w 8 + 1) * b 0 + 100 < t w 7
          · have hM2 : z_M (F_X9_sets (nI w) 11 1 (q_up τ 229 5 0)) b _ := hM1.s11 (y := 1) h6
            obtain ⟨k1, k2, k3, k4, k5⟩ := key _ _ hM2 rfl
            simp only [P_X9_passes, F_X9_passes, z_isT hM hw n6, z_10, if_false, q_L, z_uu, forall_eq', e6, if_true, er, e8, hcond, e14, k1, e1y, k2, ea, if_pos hl]
            refine ⟨⟨fun q => q.elim, fun _ => ⟨z_p6 h6, fun _ => ⟨pr, fun _ => ⟨z_p8 h6, z_p7 h6, fun _ => ⟨z_q11 h6, z_p13 h6, z_setsP h6 (by omega), z_q13 h6, z_q8 h6, z_q9 h6, trivial⟩, fun q => absurd hl q⟩, fun q => absurd trivial q⟩, fun q => absurd trivial q⟩⟩, trivial, ?_, k3, ?_⟩
            · (try dsimp only); rw [k5, z_g11 h6, q_up_eq]
            · exact ((z_fs.u5 τ 0).tr (z_fs.st (k := 11) h6 (by decide))).tr k4
          · have hM2 : z_M (q_up τ 229 5 0) b (z_ut t w (t w)) := by
              have e : z_ut t w (t w) = t := by
                funext i
                by_cases q : i = w
                · subst q; rw [z_ut_s]
                · rw [z_ut_n q]
              rw [e]; exact hM1
            obtain ⟨k1, k2, k3, k4, k5⟩ := key _ _ hM2 rfl
            simp only [P_X9_passes, F_X9_passes, z_isT hM hw n6, z_10, if_false, q_L, z_uu, forall_eq', e6, if_true, er, e8, hcond, e14, k1, e1y, k2, ea, if_neg hl]
            refine ⟨⟨fun q => q.elim, fun _ => ⟨z_p6 h6, fun _ => ⟨pr, fun _ => ⟨z_p8 h6, z_p7 h6, fun q => absurd q hl, fun _ => ⟨z_p13 h6, z_setsP h6 (by omega), z_q13 h6, z_q8 h6, z_q9 h6, trivial⟩⟩, fun q => absurd trivial q⟩, fun q => absurd trivial q⟩⟩, trivial, ?_, k3, ?_⟩
            · (try dsimp only); rw [k5, q_up_eq]
            · exact (z_fs.u5 τ 0).tr k4
      · refine ⟨3, 0, some (z_rs (b 0) (t w), nI w), b, t, by omega, by decide, Nat.le_refl _, hV.k (by omega), fun _ => ⟨rfl, rfl⟩, fun q => by omega, fun x hx => ?_, fun σ hR => ⟨trivial, ?_⟩, fun q => by omega, fun τ hM => ?_⟩
        · cases hx
          exact ⟨by show 1 ≤ z_rs (b 0) (t w); omega, h3⟩
        · have e := (hR.te w h6 hw).st
          have er := z_rsC (hR.te w h6 hw) hW l0 l1 hk
          have ne : ¬ nI (z_rs (b 0) (t w)) = 0 := nI_ne0 (by omega) (by omega)
          simp only [F_X8_faultOfPassing, z_some hR hw n6 hst, e, h1, hR.ll, er, q_L]
          rw [if_pos (show nI (1 + 1) = 2 from rfl), if_neg ne]
          rfl
        · have hM1 : z_M (q_up τ 229 5 0) b t := hM.u9
          obtain ⟨pr, er⟩ := z_rsM hM1 h6 hW l0 l1 hk
          rw [if_neg hr] at er
          have e6 : F_X9_of (nI w) 6 (q_up τ 229 5 0) = 1 := by rw [hM1.o6 h6, h1]; rfl
          simp only [P_X9_passes, F_X9_passes, z_isT hM hw n6, z_10, if_false, q_L, z_uu, forall_eq', e6, if_true, er]
          refine ⟨⟨fun q => q.elim, fun _ => ⟨z_p6 h6, fun _ => ⟨pr, fun q => q.elim, fun _ => trivial⟩, fun q => absurd trivial q⟩⟩, fun q => by omega, q_up_eq _ _ _ _, ((hM1.u9).u9).u9, fun a e1 _ => ?_, fun j e => ?_⟩
          · show _ = (q_up (q_up τ 229 8 (nI (z_rs (b 0) (t w)))) 229 9 (nI w)) a
            rw [q_up_off e1, q_up_off e1, q_up_off e1, q_up_off e1, q_up_off e1, q_up_off e1]
          · show _ = (q_up (q_up τ 229 8 (nI (z_rs (b 0) (t w)))) 229 9 (nI w)) 229 j
            rw [q_up_nj e]
            by_cases j9 : j = 9
            · subst j9; rw [q_up_eq, q_up_eq]
            · rw [q_up_nj j9, q_up_nj j9]
              by_cases j8 : j = 8
              · subst j8; rw [q_up_eq, q_up_eq]
              · rw [q_up_nj j8, q_up_nj j8, q_up_nj e]
    · refine z_fail 2 (by decide) (by decide) hV (fun σ hR => ⟨trivial, ?_⟩) (fun τ hM => ?_)
      · have e : ¬ σ (0 + 2 + 3 * w) 3 = 2 := by
          rw [(hR.te w h6 hw).st, z_l2, z_eq (by omega) (by omega)]
          omega
        simp only [F_X8_faultOfPassing, z_some hR hw n6 hst]
        rw [if_neg e]
        rfl
      · have hM1 : z_M (q_up τ 229 5 0) b t := hM.u9
        have e6 : ¬ F_X9_of (nI w) 6 (q_up τ 229 5 0) = 1 := by rw [hM1.o6 h6, z_l1, z_eq (by omega) (by omega)]; exact h1
        simp only [P_X9_passes, F_X9_passes, z_isT hM hw n6, z_10, if_false, q_L, z_uu, forall_eq']
        rw [if_neg e6]
        exact ⟨⟨fun q => q.elim, fun _ => ⟨z_p6 h6, fun q => absurd q e6, fun _ => trivial⟩⟩, rfl⟩
  · refine z_fail 1 (by decide) (by decide) hV (fun σ hR => ⟨trivial, ?_⟩) (fun τ hM => ?_)
    · simp only [F_X8_faultOfPassing, z_none hR hg]
      rfl
    · have e := z_noT hM n6 hg
      unfold P_X9_passes F_X9_passes
      rw [if_pos e]
      exact ⟨⟨fun _ => trivial, fun q => absurd e q⟩, rfl⟩
