/-! The law: 46.seen. -/
def FL_L_seen_175 (z : Nat) (v2 : Int32) (x25 : Int32) : Nat → Int32 → q_M → q_M
  | 0, v4, τ => τ
  | nn + 1, v4, τ => (if v4 < 4 then (q_L (W_splitOf v2 v4 τ) (fun x73 : Int32 => (q_L (q_up τ z (((x25 + 8) + v4)).toNatClampNeg x73) (fun σ75 : q_M => (q_L (F_N8_speedOf v2 v4 σ75) (fun x77 : Int32 => (q_L (q_up σ75 z (((x25 + 12) + v4)).toNatClampNeg x77) (fun σ79 : q_M => (FL_L_seen_175 z v2 x25 nn (v4 + 1) σ79))))))))) else τ)
def PL_L_seen_175 (z : Nat) (v2 : Int32) (x25 : Int32) : Nat → Int32 → q_M → Prop
  | 0, v4, τ => False
  | nn + 1, v4, τ => ((v4 < 4 → ((Q_splitOf v2 v4 τ) ∧ (∀ x73 : Int32, (W_splitOf v2 v4 τ) = x73 → (vp_in ((x25 + 8) + v4) 130 ∧ (∀ σ75 : q_M, (q_up τ z (((x25 + 8) + v4)).toNatClampNeg x73) = σ75 → ((P_N8_speedOf v2 v4 σ75) ∧ (∀ x77 : Int32, (F_N8_speedOf v2 v4 σ75) = x77 → (vp_in ((x25 + 12) + v4) 130 ∧ (∀ σ79 : q_M, (q_up σ75 z (((x25 + 12) + v4)).toNatClampNeg x77) = σ79 → (PL_L_seen_175 z v2 x25 nn (v4 + 1) σ79)))))))))) ∧ (¬ v4 < 4 → True))
set_option maxRecDepth 100000 in
theorem kl_L_seen_175 {α β : Nat → Nat} {D : va_G} {κ : Nat → ClassId} (z : Nat) (v2 : Int32) (x25 : Int32) (h_z : q_row α z) {p : Program} {l : Launch} {e : Env} {R : Room} {s : State} {m : MethodId} {args : Array Value} {below : List Frame} {meth : Method} {c : Code} {A : Nat → Prop} {Q : State → Prop} (hfl : l.flags = flags0) (C : q_Cx α β D κ p s m args meth c cL_seen RL (fun _ => none) (fun _ => none) 5 A) (hRf : 10 ≤ R.frames) (hRl : 181 ≤ R.locals) (T1 T2 : Nat) (hT1 : T1 ≤ R.cells) (hT2 : T2 ≤ R.slots) : ∀ (nn : Nat) (v4 : Int32) (τ : q_M) (u1 u2 : Nat), u1 + 5 * nn ≤ T1 → u2 + 30 * nn ≤ T2 → PL_L_seen_175 z v2 x25 nn v4 τ → (∀ τ1 : q_M, FL_L_seen_175 z v2 x25 nn v4 τ = τ1 → q_St α β D κ p l e R s m args below meth c 5 A Q T1 T2 τ1 [(0, .ref 220), (1, .ref z), (2, .int v2), (3, .int x25)] 219 []) → q_St α β D κ p l e R s m args below meth c 5 A Q u1 u2 τ [(0, .ref 220), (1, .ref z), (2, .int v2), (3, .int x25), (4, .int v4)] 175 [] := by
  intro nn
  induction nn with
  | zero => intro v4 τ u1 u2 hu1 hu2 hP; exact hP.elim
  | succ nn ih =>
    intro v4 τ u1 u2 hu1 hu2 hP hK
    generalize hF : FL_L_seen_175 z v2 x25 (nn + 1) v4 τ = rr at hK
    unfold FL_L_seen_175 at hF
    refine q_go C tk_L_seen [(121, 2)] [] (pc1 := 178) (σ1 := τ) (lv1 := [(0, .ref 220), (1, .ref z), (2, .int v2), (3, .int x25), (4, .int v4)]) (st1 := [.int 4, .int v4]) rfl trivial ?_
    by_cases c72 : v4 < 4
    · rw [if_pos c72] at hF
      refine q_go C tk_L_seen [(123, 10)] [false] (pc1 := 193) (σ1 := τ) (lv1 := [(0, .ref 220), (1, .ref z), (2, .int v2), (3, .int x25), (4, .int v4)]) (st1 := [.int v4, .int v2, .ref 220, .int ((x25 + 8) + v4), .ref z]) rfl ⟨c72, trivial⟩ ?_
      refine q_callW (n := 3) C hfl cw_splitOf ⟨by decide +kernel, by decide +kernel, by decide +kernel⟩ q_init_QuillRelayLaw sw_splitOf lk_L_214 (kw_splitOf v2 v4 τ (hP.1 c72).1) (rest := [.int ((x25 + 8) + v4), .ref z]) rfl rfl (q_dc (z := (193, .invokestatic 214, 3, 0, 0)) tk_L_seen 133 rfl) (Nat.le_of_ble_eq_true rfl) ⟨by omega, by omega⟩ ⟨by omega, by omega⟩ ?_
      refine q_nrm 196 [.int (W_splitOf v2 v4 τ), .int ((x25 + 8) + v4), .ref z] (u1 + 3) (u2 + 18) rfl rfl (by omega) (by omega) ?_
      refine q_nmI (fun x73 e74 => ?_)
      replace hF := q_let e74 hF
      refine q_rowSt C h_z ((hP.1 c72).2 x73 e74).1 (j := (((x25 + 8) + v4)).toNatClampNeg) rfl (q_dc (z := (196, .iastore, 1, 0, 0)) tk_L_seen 134 rfl) ?_
      refine q_nrm 197 [] (u1 + 3) (u2 + 18) rfl rfl (by omega) (by omega) ?_
      refine q_nmM (fun σ75 e76 => ?_)
      replace hF := q_let e76 hF
      refine q_go C tk_L_seen [(135, 9)] [] (pc1 := 209) (σ1 := σ75) (lv1 := [(0, .ref 220), (1, .ref z), (2, .int v2), (3, .int x25), (4, .int v4)]) (st1 := [.int v4, .int v2, .ref 220, .int ((x25 + 12) + v4), .ref z]) rfl trivial ?_
      refine q_callV C hfl mw_X8_speedOf mi_X8_speedOf me_X8_speedOf lk_L_216 (n_X8_speedOf v2 v4 σ75 (((hP.1 c72).2 x73 e74).2 σ75 e76).1) (rest := [.int ((x25 + 12) + v4), .ref z]) rfl rfl rfl (by decide) (by decide) rfl (q_dc (z := (209, .invokevirtual 216, 3, 0, 0)) tk_L_seen 144 rfl) (Nat.le_of_ble_eq_true rfl) ⟨by omega, by omega⟩ ⟨by omega, by omega⟩ ?_
      refine q_nrm 212 [.int (F_N8_speedOf v2 v4 σ75), .int ((x25 + 12) + v4), .ref z] (u1 + 5) (u2 + 30) rfl rfl (by omega) (by omega) ?_
      refine q_nmI (fun x77 e78 => ?_)
      replace hF := q_let e78 hF
      refine q_rowSt C h_z ((((hP.1 c72).2 x73 e74).2 σ75 e76).2 x77 e78).1 (j := (((x25 + 12) + v4)).toNatClampNeg) rfl (q_dc (z := (212, .iastore, 1, 0, 0)) tk_L_seen 145 rfl) ?_
      refine q_nrm 213 [] (u1 + 5) (u2 + 30) rfl rfl (by omega) (by omega) ?_
      refine q_nmM (fun σ79 e80 => ?_)
      replace hF := q_let e80 hF
      refine q_go C tk_L_seen [(146, 2)] [] (pc1 := 175) (σ1 := σ79) (lv1 := [(4, .int (v4 + 1)), (0, .ref 220), (1, .ref z), (2, .int v2), (3, .int x25)]) (st1 := []) rfl trivial ?_
      refine q_lvpick [1, 2, 3, 4, 0] (lv' := [(0, .ref 220), (1, .ref z), (2, .int v2), (3, .int x25), (4, .int (v4 + 1))]) rfl ?_
      exact ih (v4 + 1) σ79 (u1 + 5) (u2 + 30) (by omega) (by omega) (((((hP.1 c72).2 x73 e74).2 σ75 e76).2 x77 e78).2 σ79 e80) (by rw [hF]; exact hK)
    · rw [if_neg c72] at hF
      refine q_go C tk_L_seen [(123, 1)] [true] (pc1 := 219) (σ1 := τ) (lv1 := [(0, .ref 220), (1, .ref z), (2, .int v2), (3, .int x25), (4, .int v4)]) (st1 := []) rfl ⟨c72, trivial⟩ ?_
      refine q_wdn (k1 := T1) (k2 := T2) (by omega) (by omega) (q_lvpick [0, 1, 2, 3] (lv' := [(0, .ref 220), (1, .ref z), (2, .int v2), (3, .int x25)]) rfl ?_)
      exact hK _ hF.symm
def FL_L_seen_44 (z : Nat) : Nat → Int32 → q_M → q_M
  | 0, v2, τ => τ
  | nn + 1, v2, τ => (q_L (F_X8_teamCount τ) (fun x22 : Int32 => (if v2 < x22 then (q_L (6 + (20 * v2)) (fun x25 : Int32 => (q_L (F_N8_laneOf v2 τ) (fun x27 : Int32 => (q_L (q_up τ z (x25).toNatClampNeg x27) (fun σ29 : q_M => (q_L (F_N8_positionOf v2 σ29) (fun x31 : Int32 => (q_L (q_up σ29 z ((x25 + 1)).toNatClampNeg x31) (fun σ33 : q_M => (q_L (F_N8_legOf v2 σ33) (fun x35 : Int32 => (q_L (q_up σ33 z ((x25 + 2)).toNatClampNeg x35) (fun σ37 : q_M => (q_L (F_N8_isRunning v2 σ37) (fun x39 : Int32 => (q_L (if x39 = 0 then 0 else 1) (fun x42 : Int32 => (q_L (q_up σ37 z ((x25 + 3)).toNatClampNeg x42) (fun σ44 : q_M => (q_L (F_N8_standingOf v2 σ44) (fun x46 : Int32 => (q_L (q_up σ44 z ((x25 + 4)).toNatClampNeg x46) (fun σ48 : q_M => (q_L (F_N8_penaltyOf v2 σ48) (fun x50 : Int32 => (q_L (q_up σ48 z ((x25 + 5)).toNatClampNeg x50) (fun σ52 : q_M => (q_L (F_N8_hasFoul v2 0 σ52) (fun x54 : Int32 => (q_L (if x54 = 0 then 0 else 1) (fun x57 : Int32 => (q_L (F_N8_hasFoul v2 1 σ52) (fun x59 : Int32 => (q_L (if x59 = 0 then 0 else 2) (fun x62 : Int32 => (q_L (q_up σ52 z ((x25 + 6)).toNatClampNeg (x57 + x62)) (fun σ64 : q_M => (q_L (W_timeOf v2 σ64) (fun x66 : Int32 => (q_L (q_up σ64 z ((x25 + 7)).toNatClampNeg x66) (fun σ68 : q_M => (q_L (FL_L_seen_175 z v2 x25 5 0 σ68) (fun σ70 : q_M => (FL_L_seen_44 z nn (v2 + 1) σ70))))))))))))))))))))))))))))))))))))))))))))) else τ)))
def PL_L_seen_44 (z : Nat) : Nat → Int32 → q_M → Prop
  | 0, v2, τ => False
  | nn + 1, v2, τ => ((P_X8_teamCount τ) ∧ (∀ x22 : Int32, (F_X8_teamCount τ) = x22 → ((v2 < x22 → (∀ x25 : Int32, (6 + (20 * v2)) = x25 → ((P_N8_laneOf v2 τ) ∧ (∀ x27 : Int32, (F_N8_laneOf v2 τ) = x27 → (vp_in x25 130 ∧ (∀ σ29 : q_M, (q_up τ z (x25).toNatClampNeg x27) = σ29 → ((P_N8_positionOf v2 σ29) ∧ (∀ x31 : Int32, (F_N8_positionOf v2 σ29) = x31 → (vp_in (x25 + 1) 130 ∧ (∀ σ33 : q_M, (q_up σ29 z ((x25 + 1)).toNatClampNeg x31) = σ33 → ((P_N8_legOf v2 σ33) ∧ (∀ x35 : Int32, (F_N8_legOf v2 σ33) = x35 → (vp_in (x25 + 2) 130 ∧ (∀ σ37 : q_M, (q_up σ33 z ((x25 + 2)).toNatClampNeg x35) = σ37 → ((P_N8_isRunning v2 σ37) ∧ (∀ x39 : Int32, (F_N8_isRunning v2 σ37) = x39 → (True ∧ (∀ x42 : Int32, (if x39 = 0 then 0 else 1) = x42 → (vp_in (x25 + 3) 130 ∧ (∀ σ44 : q_M, (q_up σ37 z ((x25 + 3)).toNatClampNeg x42) = σ44 → ((P_N8_standingOf v2 σ44) ∧ (∀ x46 : Int32, (F_N8_standingOf v2 σ44) = x46 → (vp_in (x25 + 4) 130 ∧ (∀ σ48 : q_M, (q_up σ44 z ((x25 + 4)).toNatClampNeg x46) = σ48 → ((P_N8_penaltyOf v2 σ48) ∧ (∀ x50 : Int32, (F_N8_penaltyOf v2 σ48) = x50 → (vp_in (x25 + 5) 130 ∧ (∀ σ52 : q_M, (q_up σ48 z ((x25 + 5)).toNatClampNeg x50) = σ52 → ((P_N8_hasFoul v2 0 σ52) ∧ (∀ x54 : Int32, (F_N8_hasFoul v2 0 σ52) = x54 → (True ∧ (∀ x57 : Int32, (if x54 = 0 then 0 else 1) = x57 → ((P_N8_hasFoul v2 1 σ52) ∧ (∀ x59 : Int32, (F_N8_hasFoul v2 1 σ52) = x59 → (True ∧ (∀ x62 : Int32, (if x59 = 0 then 0 else 2) = x62 → (vp_in (x25 + 6) 130 ∧ (∀ σ64 : q_M, (q_up σ52 z ((x25 + 6)).toNatClampNeg (x57 + x62)) = σ64 → ((Q_timeOf v2 σ64) ∧ (∀ x66 : Int32, (W_timeOf v2 σ64) = x66 → (vp_in (x25 + 7) 130 ∧ (∀ σ68 : q_M, (q_up σ64 z ((x25 + 7)).toNatClampNeg x66) = σ68 → ((PL_L_seen_175 z v2 x25 5 0 σ68) ∧ (∀ σ70 : q_M, (FL_L_seen_175 z v2 x25 5 0 σ68) = σ70 → (PL_L_seen_44 z nn (v2 + 1) σ70))))))))))))))))))))))))))))))))))))))))))))) ∧ (¬ v2 < x22 → True))))
set_option maxRecDepth 100000 in
theorem kl_L_seen_44 {α β : Nat → Nat} {D : va_G} {κ : Nat → ClassId} (z : Nat) (h_z : q_row α z) {p : Program} {l : Launch} {e : Env} {R : Room} {s : State} {m : MethodId} {args : Array Value} {below : List Frame} {meth : Method} {c : Code} {A : Nat → Prop} {Q : State → Prop} (hfl : l.flags = flags0) (C : q_Cx α β D κ p s m args meth c cL_seen RL (fun _ => none) (fun _ => none) 5 A) (hRf : 10 ≤ R.frames) (hRl : 181 ≤ R.locals) (T1 T2 : Nat) (hT1 : T1 ≤ R.cells) (hT2 : T2 ≤ R.slots) : ∀ (nn : Nat) (v2 : Int32) (τ : q_M) (u1 u2 : Nat), u1 + 37 * nn ≤ T1 → u2 + 222 * nn ≤ T2 → PL_L_seen_44 z nn v2 τ → (∀ τ1 : q_M, FL_L_seen_44 z nn v2 τ = τ1 → q_St α β D κ p l e R s m args below meth c 5 A Q T1 T2 τ1 [(0, .ref 220), (1, .ref z)] 225 []) → q_St α β D κ p l e R s m args below meth c 5 A Q u1 u2 τ [(0, .ref 220), (1, .ref z), (2, .int v2)] 44 [] := by
  intro nn
  induction nn with
  | zero => intro v2 τ u1 u2 hu1 hu2 hP; exact hP.elim
  | succ nn ih =>
    intro v2 τ u1 u2 hu1 hu2 hP hK
    generalize hF : FL_L_seen_44 z (nn + 1) v2 τ = rr at hK
    unfold FL_L_seen_44 at hF
    refine q_go C tk_L_seen [(29, 2)] [] (pc1 := 46) (σ1 := τ) (lv1 := [(0, .ref 220), (1, .ref z), (2, .int v2)]) (st1 := [.ref 220, .int v2]) rfl trivial ?_
    refine q_callV C hfl mw_X8_teamCount mi_X8_teamCount me_X8_teamCount lk_L_137 (k_X8_teamCount τ hP.1) (rest := [.int v2]) rfl rfl rfl (by decide) (by decide) rfl (q_dc (z := (46, .invokevirtual 137, 3, 0, 0)) tk_L_seen 31 rfl) (Nat.le_of_ble_eq_true rfl) ⟨by omega, by omega⟩ ⟨by omega, by omega⟩ ?_
    refine q_nrm 49 [.int (F_X8_teamCount τ), .int v2] (u1 + 0) (u2 + 0) rfl rfl (by omega) (by omega) ?_
    refine q_nmI (fun x22 e23 => ?_)
    replace hF := q_let e23 hF
    by_cases c24 : v2 < x22
    · rw [if_pos c24] at hF
      refine q_go C tk_L_seen [(32, 6)] [false] (pc1 := 59) (σ1 := τ) (lv1 := [(0, .ref 220), (1, .ref z), (2, .int v2)]) (st1 := [.int (6 + (20 * v2))]) rfl ⟨c24, trivial⟩ ?_
      refine q_nmI (fun x25 e26 => ?_)
      replace hF := q_let e26 hF
      refine q_go C tk_L_seen [(38, 5)] [] (pc1 := 64) (σ1 := τ) (lv1 := [(3, .int x25), (0, .ref 220), (1, .ref z), (2, .int v2)]) (st1 := [.int v2, .ref 220, .int x25, .ref z]) rfl trivial ?_
      refine q_callV C hfl mw_X8_laneOf mi_X8_laneOf me_X8_laneOf lk_L_192 (n_X8_laneOf v2 τ (((hP.2 x22 e23).1 c24) x25 e26).1) (rest := [.int x25, .ref z]) rfl rfl rfl (by decide) (by decide) rfl (q_dc (z := (64, .invokevirtual 192, 3, 0, 0)) tk_L_seen 43 rfl) (Nat.le_of_ble_eq_true rfl) ⟨by omega, by omega⟩ ⟨by omega, by omega⟩ ?_
      refine q_nrm 67 [.int (F_N8_laneOf v2 τ), .int x25, .ref z] (u1 + 1) (u2 + 6) rfl rfl (by omega) (by omega) ?_
      refine q_nmI (fun x27 e28 => ?_)
      replace hF := q_let e28 hF
      refine q_rowSt C h_z ((((hP.2 x22 e23).1 c24) x25 e26).2 x27 e28).1 (j := (x25).toNatClampNeg) rfl (q_dc (z := (67, .iastore, 1, 0, 0)) tk_L_seen 44 rfl) ?_
      refine q_nrm 68 [] (u1 + 1) (u2 + 6) rfl rfl (by omega) (by omega) ?_
      refine q_nmM (fun σ29 e30 => ?_)
      replace hF := q_let e30 hF
      refine q_go C tk_L_seen [(45, 6)] [] (pc1 := 74) (σ1 := σ29) (lv1 := [(3, .int x25), (0, .ref 220), (1, .ref z), (2, .int v2)]) (st1 := [.int v2, .ref 220, .int (x25 + 1), .ref z]) rfl trivial ?_
      refine q_callV C hfl mw_X8_positionOf mi_X8_positionOf me_X8_positionOf lk_L_195 (n_X8_positionOf v2 σ29 (((((hP.2 x22 e23).1 c24) x25 e26).2 x27 e28).2 σ29 e30).1) (rest := [.int (x25 + 1), .ref z]) rfl rfl rfl (by decide) (by decide) rfl (q_dc (z := (74, .invokevirtual 195, 3, 0, 0)) tk_L_seen 51 rfl) (Nat.le_of_ble_eq_true rfl) ⟨by omega, by omega⟩ ⟨by omega, by omega⟩ ?_
      refine q_nrm 77 [.int (F_N8_positionOf v2 σ29), .int (x25 + 1), .ref z] (u1 + 2) (u2 + 12) rfl rfl (by omega) (by omega) ?_
      refine q_nmI (fun x31 e32 => ?_)
      replace hF := q_let e32 hF
      refine q_rowSt C h_z ((((((hP.2 x22 e23).1 c24) x25 e26).2 x27 e28).2 σ29 e30).2 x31 e32).1 (j := ((x25 + 1)).toNatClampNeg) rfl (q_dc (z := (77, .iastore, 1, 0, 0)) tk_L_seen 52 rfl) ?_
      refine q_nrm 78 [] (u1 + 2) (u2 + 12) rfl rfl (by omega) (by omega) ?_
      refine q_nmM (fun σ33 e34 => ?_)
      replace hF := q_let e34 hF
      refine q_go C tk_L_seen [(53, 6)] [] (pc1 := 84) (σ1 := σ33) (lv1 := [(3, .int x25), (0, .ref 220), (1, .ref z), (2, .int v2)]) (st1 := [.int v2, .ref 220, .int (x25 + 2), .ref z]) rfl trivial ?_
      refine q_callV C hfl mw_X8_legOf mi_X8_legOf me_X8_legOf lk_L_198 (n_X8_legOf v2 σ33 (((((((hP.2 x22 e23).1 c24) x25 e26).2 x27 e28).2 σ29 e30).2 x31 e32).2 σ33 e34).1) (rest := [.int (x25 + 2), .ref z]) rfl rfl rfl (by decide) (by decide) rfl (q_dc (z := (84, .invokevirtual 198, 3, 0, 0)) tk_L_seen 59 rfl) (Nat.le_of_ble_eq_true rfl) ⟨by omega, by omega⟩ ⟨by omega, by omega⟩ ?_
      refine q_nrm 87 [.int (F_N8_legOf v2 σ33), .int (x25 + 2), .ref z] (u1 + 3) (u2 + 18) rfl rfl (by omega) (by omega) ?_
      refine q_nmI (fun x35 e36 => ?_)
      replace hF := q_let e36 hF
      refine q_rowSt C h_z ((((((((hP.2 x22 e23).1 c24) x25 e26).2 x27 e28).2 σ29 e30).2 x31 e32).2 σ33 e34).2 x35 e36).1 (j := ((x25 + 2)).toNatClampNeg) rfl (q_dc (z := (87, .iastore, 1, 0, 0)) tk_L_seen 60 rfl) ?_
      refine q_nrm 88 [] (u1 + 3) (u2 + 18) rfl rfl (by omega) (by omega) ?_
      refine q_nmM (fun σ37 e38 => ?_)
      replace hF := q_let e38 hF
      refine q_go C tk_L_seen [(61, 6)] [] (pc1 := 94) (σ1 := σ37) (lv1 := [(3, .int x25), (0, .ref 220), (1, .ref z), (2, .int v2)]) (st1 := [.int v2, .ref 220, .int (x25 + 3), .ref z]) rfl trivial ?_
      refine q_callV C hfl mw_X8_isRunning mi_X8_isRunning me_X8_isRunning lk_L_201 (n_X8_isRunning v2 σ37 (((((((((hP.2 x22 e23).1 c24) x25 e26).2 x27 e28).2 σ29 e30).2 x31 e32).2 σ33 e34).2 x35 e36).2 σ37 e38).1) (rest := [.int (x25 + 3), .ref z]) rfl rfl rfl (by decide) (by decide) rfl (q_dc (z := (94, .invokevirtual 201, 3, 0, 0)) tk_L_seen 67 rfl) (Nat.le_of_ble_eq_true rfl) ⟨by omega, by omega⟩ ⟨by omega, by omega⟩ ?_
      refine q_nrm 97 [.int (F_N8_isRunning v2 σ37), .int (x25 + 3), .ref z] (u1 + 4) (u2 + 24) rfl rfl (by omega) (by omega) ?_
      refine q_nmI (fun x39 e40 => ?_)
      replace hF := q_let e40 hF
      refine q_mrgW (v := (if x39 = 0 then 0 else 1)) (M := 105) (σ1 := σ37) (lv1 := [(3, .int x25), (0, .ref 220), (1, .ref z), (2, .int v2)]) (st1 := [.int (x25 + 3), .ref z]) (k1 := (u1 + 4)) (k2 := (u2 + 24)) (fun x42 e43 => ?_) (fun K => ?_)
      · replace hF := q_let e43 hF
        refine q_rowSt C h_z (((((((((((hP.2 x22 e23).1 c24) x25 e26).2 x27 e28).2 σ29 e30).2 x31 e32).2 σ33 e34).2 x35 e36).2 σ37 e38).2 x39 e40).2 x42 e43).1 (j := ((x25 + 3)).toNatClampNeg) rfl (q_dc (z := (105, .iastore, 1, 0, 0)) tk_L_seen 72 rfl) ?_
        refine q_nrm 106 [] (u1 + 4) (u2 + 24) rfl rfl (by omega) (by omega) ?_
        refine q_nmM (fun σ44 e45 => ?_)
        replace hF := q_let e45 hF
        refine q_go C tk_L_seen [(73, 6)] [] (pc1 := 112) (σ1 := σ44) (lv1 := [(3, .int x25), (0, .ref 220), (1, .ref z), (2, .int v2)]) (st1 := [.int v2, .ref 220, .int (x25 + 4), .ref z]) rfl trivial ?_
        refine q_callV C hfl mw_X8_standingOf mi_X8_standingOf me_X8_standingOf lk_L_142 (n_X8_standingOf v2 σ44 ((((((((((((hP.2 x22 e23).1 c24) x25 e26).2 x27 e28).2 σ29 e30).2 x31 e32).2 σ33 e34).2 x35 e36).2 σ37 e38).2 x39 e40).2 x42 e43).2 σ44 e45).1) (rest := [.int (x25 + 4), .ref z]) rfl rfl rfl (by decide) (by decide) rfl (q_dc (z := (112, .invokevirtual 142, 3, 0, 0)) tk_L_seen 79 rfl) (Nat.le_of_ble_eq_true rfl) ⟨by omega, by omega⟩ ⟨by omega, by omega⟩ ?_
        refine q_nrm 115 [.int (F_N8_standingOf v2 σ44), .int (x25 + 4), .ref z] (u1 + 5) (u2 + 30) rfl rfl (by omega) (by omega) ?_
        refine q_nmI (fun x46 e47 => ?_)
        replace hF := q_let e47 hF
        refine q_rowSt C h_z (((((((((((((hP.2 x22 e23).1 c24) x25 e26).2 x27 e28).2 σ29 e30).2 x31 e32).2 σ33 e34).2 x35 e36).2 σ37 e38).2 x39 e40).2 x42 e43).2 σ44 e45).2 x46 e47).1 (j := ((x25 + 4)).toNatClampNeg) rfl (q_dc (z := (115, .iastore, 1, 0, 0)) tk_L_seen 80 rfl) ?_
        refine q_nrm 116 [] (u1 + 5) (u2 + 30) rfl rfl (by omega) (by omega) ?_
        refine q_nmM (fun σ48 e49 => ?_)
        replace hF := q_let e49 hF
        refine q_go C tk_L_seen [(81, 6)] [] (pc1 := 122) (σ1 := σ48) (lv1 := [(3, .int x25), (0, .ref 220), (1, .ref z), (2, .int v2)]) (st1 := [.int v2, .ref 220, .int (x25 + 5), .ref z]) rfl trivial ?_
        refine q_callV C hfl mw_X8_penaltyOf mi_X8_penaltyOf me_X8_penaltyOf lk_L_205 (n_X8_penaltyOf v2 σ48 ((((((((((((((hP.2 x22 e23).1 c24) x25 e26).2 x27 e28).2 σ29 e30).2 x31 e32).2 σ33 e34).2 x35 e36).2 σ37 e38).2 x39 e40).2 x42 e43).2 σ44 e45).2 x46 e47).2 σ48 e49).1) (rest := [.int (x25 + 5), .ref z]) rfl rfl rfl (by decide) (by decide) rfl (q_dc (z := (122, .invokevirtual 205, 3, 0, 0)) tk_L_seen 87 rfl) (Nat.le_of_ble_eq_true rfl) ⟨by omega, by omega⟩ ⟨by omega, by omega⟩ ?_
        refine q_nrm 125 [.int (F_N8_penaltyOf v2 σ48), .int (x25 + 5), .ref z] (u1 + 6) (u2 + 36) rfl rfl (by omega) (by omega) ?_
        refine q_nmI (fun x50 e51 => ?_)
        replace hF := q_let e51 hF
        refine q_rowSt C h_z (((((((((((((((hP.2 x22 e23).1 c24) x25 e26).2 x27 e28).2 σ29 e30).2 x31 e32).2 σ33 e34).2 x35 e36).2 σ37 e38).2 x39 e40).2 x42 e43).2 σ44 e45).2 x46 e47).2 σ48 e49).2 x50 e51).1 (j := ((x25 + 5)).toNatClampNeg) rfl (q_dc (z := (125, .iastore, 1, 0, 0)) tk_L_seen 88 rfl) ?_
        refine q_nrm 126 [] (u1 + 6) (u2 + 36) rfl rfl (by omega) (by omega) ?_
        refine q_nmM (fun σ52 e53 => ?_)
        replace hF := q_let e53 hF
        refine q_go C tk_L_seen [(89, 7)] [] (pc1 := 134) (σ1 := σ52) (lv1 := [(3, .int x25), (0, .ref 220), (1, .ref z), (2, .int v2)]) (st1 := [.int 0, .int v2, .ref 220, .int (x25 + 6), .ref z]) rfl trivial ?_
        refine q_callV C hfl mw_X8_hasFoul mi_X8_hasFoul me_X8_hasFoul lk_L_208 (n_X8_hasFoul v2 0 σ52 ((((((((((((((((hP.2 x22 e23).1 c24) x25 e26).2 x27 e28).2 σ29 e30).2 x31 e32).2 σ33 e34).2 x35 e36).2 σ37 e38).2 x39 e40).2 x42 e43).2 σ44 e45).2 x46 e47).2 σ48 e49).2 x50 e51).2 σ52 e53).1) (rest := [.int (x25 + 6), .ref z]) rfl rfl rfl (by decide) (by decide) rfl (q_dc (z := (134, .invokevirtual 208, 3, 0, 0)) tk_L_seen 96 rfl) (Nat.le_of_ble_eq_true rfl) ⟨by omega, by omega⟩ ⟨by omega, by omega⟩ ?_
        refine q_nrm 137 [.int (F_N8_hasFoul v2 0 σ52), .int (x25 + 6), .ref z] (u1 + 8) (u2 + 48) rfl rfl (by omega) (by omega) ?_
        refine q_nmI (fun x54 e55 => ?_)
        replace hF := q_let e55 hF
        refine q_mrgW (v := (if x54 = 0 then 0 else 1)) (M := 145) (σ1 := σ52) (lv1 := [(3, .int x25), (0, .ref 220), (1, .ref z), (2, .int v2)]) (st1 := [.int (x25 + 6), .ref z]) (k1 := (u1 + 8)) (k2 := (u2 + 48)) (fun x57 e58 => ?_) (fun K => ?_)
        · replace hF := q_let e58 hF
          refine q_go C tk_L_seen [(101, 3)] [] (pc1 := 148) (σ1 := σ52) (lv1 := [(3, .int x25), (0, .ref 220), (1, .ref z), (2, .int v2)]) (st1 := [.int 1, .int v2, .ref 220, .int x57, .int (x25 + 6), .ref z]) rfl trivial ?_
          refine q_callV C hfl mw_X8_hasFoul mi_X8_hasFoul me_X8_hasFoul lk_L_208 (n_X8_hasFoul v2 1 σ52 ((((((((((((((((((hP.2 x22 e23).1 c24) x25 e26).2 x27 e28).2 σ29 e30).2 x31 e32).2 σ33 e34).2 x35 e36).2 σ37 e38).2 x39 e40).2 x42 e43).2 σ44 e45).2 x46 e47).2 σ48 e49).2 x50 e51).2 σ52 e53).2 x54 e55).2 x57 e58).1) (rest := [.int x57, .int (x25 + 6), .ref z]) rfl rfl rfl (by decide) (by decide) rfl (q_dc (z := (148, .invokevirtual 208, 3, 0, 0)) tk_L_seen 104 rfl) (Nat.le_of_ble_eq_true rfl) ⟨by omega, by omega⟩ ⟨by omega, by omega⟩ ?_
          refine q_nrm 151 [.int (F_N8_hasFoul v2 1 σ52), .int x57, .int (x25 + 6), .ref z] (u1 + 10) (u2 + 60) rfl rfl (by omega) (by omega) ?_
          refine q_nmI (fun x59 e60 => ?_)
          replace hF := q_let e60 hF
          refine q_mrgW (v := (if x59 = 0 then 0 else 2)) (M := 159) (σ1 := σ52) (lv1 := [(3, .int x25), (0, .ref 220), (1, .ref z), (2, .int v2)]) (st1 := [.int x57, .int (x25 + 6), .ref z]) (k1 := (u1 + 10)) (k2 := (u2 + 60)) (fun x62 e63 => ?_) (fun K => ?_)
          · replace hF := q_let e63 hF
            refine q_go C tk_L_seen [(109, 1)] [] (pc1 := 160) (σ1 := σ52) (lv1 := [(3, .int x25), (0, .ref 220), (1, .ref z), (2, .int v2)]) (st1 := [.int (x57 + x62), .int (x25 + 6), .ref z]) rfl trivial ?_
            refine q_rowSt C h_z ((((((((((((((((((((hP.2 x22 e23).1 c24) x25 e26).2 x27 e28).2 σ29 e30).2 x31 e32).2 σ33 e34).2 x35 e36).2 σ37 e38).2 x39 e40).2 x42 e43).2 σ44 e45).2 x46 e47).2 σ48 e49).2 x50 e51).2 σ52 e53).2 x54 e55).2 x57 e58).2 x59 e60).2 x62 e63).1 (j := ((x25 + 6)).toNatClampNeg) rfl (q_dc (z := (160, .iastore, 1, 0, 0)) tk_L_seen 110 rfl) ?_
            refine q_nrm 161 [] (u1 + 10) (u2 + 60) rfl rfl (by omega) (by omega) ?_
            refine q_nmM (fun σ64 e65 => ?_)
            replace hF := q_let e65 hF
            refine q_go C tk_L_seen [(111, 6)] [] (pc1 := 168) (σ1 := σ64) (lv1 := [(3, .int x25), (0, .ref 220), (1, .ref z), (2, .int v2)]) (st1 := [.int v2, .ref 220, .int (x25 + 7), .ref z]) rfl trivial ?_
            refine q_callW (n := 2) C hfl cw_timeOf ⟨by decide +kernel, by decide +kernel, by decide +kernel⟩ q_init_QuillRelayLaw sw_timeOf lk_L_212 (kw_timeOf v2 σ64 (((((((((((((((((((((hP.2 x22 e23).1 c24) x25 e26).2 x27 e28).2 σ29 e30).2 x31 e32).2 σ33 e34).2 x35 e36).2 σ37 e38).2 x39 e40).2 x42 e43).2 σ44 e45).2 x46 e47).2 σ48 e49).2 x50 e51).2 σ52 e53).2 x54 e55).2 x57 e58).2 x59 e60).2 x62 e63).2 σ64 e65).1) (rest := [.int (x25 + 7), .ref z]) rfl rfl (q_dc (z := (168, .invokestatic 212, 3, 0, 0)) tk_L_seen 117 rfl) (Nat.le_of_ble_eq_true rfl) ⟨by omega, by omega⟩ ⟨by omega, by omega⟩ ?_
            refine q_nrm 171 [.int (W_timeOf v2 σ64), .int (x25 + 7), .ref z] (u1 + 12) (u2 + 72) rfl rfl (by omega) (by omega) ?_
            refine q_nmI (fun x66 e67 => ?_)
            replace hF := q_let e67 hF
            refine q_rowSt C h_z ((((((((((((((((((((((hP.2 x22 e23).1 c24) x25 e26).2 x27 e28).2 σ29 e30).2 x31 e32).2 σ33 e34).2 x35 e36).2 σ37 e38).2 x39 e40).2 x42 e43).2 σ44 e45).2 x46 e47).2 σ48 e49).2 x50 e51).2 σ52 e53).2 x54 e55).2 x57 e58).2 x59 e60).2 x62 e63).2 σ64 e65).2 x66 e67).1 (j := ((x25 + 7)).toNatClampNeg) rfl (q_dc (z := (171, .iastore, 1, 0, 0)) tk_L_seen 118 rfl) ?_
            refine q_nrm 172 [] (u1 + 12) (u2 + 72) rfl rfl (by omega) (by omega) ?_
            refine q_nmM (fun σ68 e69 => ?_)
            replace hF := q_let e69 hF
            refine q_go C tk_L_seen [(119, 2)] [] (pc1 := 175) (σ1 := σ68) (lv1 := [(4, .int 0), (3, .int x25), (0, .ref 220), (1, .ref z), (2, .int v2)]) (st1 := []) rfl trivial ?_
            refine q_lvpick [2, 3, 4, 1, 0] (lv' := [(0, .ref 220), (1, .ref z), (2, .int v2), (3, .int x25), (4, .int 0)]) rfl ?_
            refine kl_L_seen_175 z v2 x25 h_z hfl C hRf hRl (u1 + 37) (u2 + 222) (by omega) (by omega) 5 0 σ68 (u1 + 12) (u2 + 72) (by omega) (by omega) (((((((((((((((((((((((hP.2 x22 e23).1 c24) x25 e26).2 x27 e28).2 σ29 e30).2 x31 e32).2 σ33 e34).2 x35 e36).2 σ37 e38).2 x39 e40).2 x42 e43).2 σ44 e45).2 x46 e47).2 σ48 e49).2 x50 e51).2 σ52 e53).2 x54 e55).2 x57 e58).2 x59 e60).2 x62 e63).2 σ64 e65).2 x66 e67).2 σ68 e69).1 (fun σ70 e71 => ?_)
            replace hF := q_let e71 hF
            refine q_go C tk_L_seen [(148, 2)] [] (pc1 := 44) (σ1 := σ70) (lv1 := [(2, .int (v2 + 1)), (0, .ref 220), (1, .ref z), (3, .int x25)]) (st1 := []) rfl trivial ?_
            refine q_lvpick [1, 2, 0] (lv' := [(0, .ref 220), (1, .ref z), (2, .int (v2 + 1))]) rfl ?_
            exact ih (v2 + 1) σ70 (u1 + 37) (u2 + 222) (by omega) (by omega) ((((((((((((((((((((((((hP.2 x22 e23).1 c24) x25 e26).2 x27 e28).2 σ29 e30).2 x31 e32).2 σ33 e34).2 x35 e36).2 σ37 e38).2 x39 e40).2 x42 e43).2 σ44 e45).2 x46 e47).2 σ48 e49).2 x50 e51).2 σ52 e53).2 x54 e55).2 x57 e58).2 x59 e60).2 x62 e63).2 σ64 e65).2 x66 e67).2 σ68 e69).2 σ70 e71) (by rw [hF]; exact hK)
          · clear hF
            by_cases c61 : x59 = 0
            · skip
              refine q_go C tk_L_seen [(105, 1), (108, 1)] [true] (pc1 := 159) (σ1 := σ52) (lv1 := [(3, .int x25), (0, .ref 220), (1, .ref z), (2, .int v2)]) (st1 := [.int 0, .int x57, .int (x25 + 6), .ref z]) rfl ⟨c61, trivial⟩ ?_
              rw [if_pos c61] at K; exact q_wdn (by omega) (by omega) K
            · skip
              refine q_go C tk_L_seen [(105, 3)] [false] (pc1 := 159) (σ1 := σ52) (lv1 := [(3, .int x25), (0, .ref 220), (1, .ref z), (2, .int v2)]) (st1 := [.int 2, .int x57, .int (x25 + 6), .ref z]) rfl ⟨c61, trivial⟩ ?_
              rw [if_neg c61] at K; exact q_wdn (by omega) (by omega) K
        · clear hF
          by_cases c56 : x54 = 0
          · skip
            refine q_go C tk_L_seen [(97, 1), (100, 1)] [true] (pc1 := 145) (σ1 := σ52) (lv1 := [(3, .int x25), (0, .ref 220), (1, .ref z), (2, .int v2)]) (st1 := [.int 0, .int (x25 + 6), .ref z]) rfl ⟨c56, trivial⟩ ?_
            rw [if_pos c56] at K; exact q_wdn (by omega) (by omega) K
          · skip
            refine q_go C tk_L_seen [(97, 3)] [false] (pc1 := 145) (σ1 := σ52) (lv1 := [(3, .int x25), (0, .ref 220), (1, .ref z), (2, .int v2)]) (st1 := [.int 1, .int (x25 + 6), .ref z]) rfl ⟨c56, trivial⟩ ?_
            rw [if_neg c56] at K; exact q_wdn (by omega) (by omega) K
      · clear hF
        by_cases c41 : x39 = 0
        · skip
          refine q_go C tk_L_seen [(68, 1), (71, 1)] [true] (pc1 := 105) (σ1 := σ37) (lv1 := [(3, .int x25), (0, .ref 220), (1, .ref z), (2, .int v2)]) (st1 := [.int 0, .int (x25 + 3), .ref z]) rfl ⟨c41, trivial⟩ ?_
          rw [if_pos c41] at K; exact q_wdn (by omega) (by omega) K
        · skip
          refine q_go C tk_L_seen [(68, 3)] [false] (pc1 := 105) (σ1 := σ37) (lv1 := [(3, .int x25), (0, .ref 220), (1, .ref z), (2, .int v2)]) (st1 := [.int 1, .int (x25 + 3), .ref z]) rfl ⟨c41, trivial⟩ ?_
          rw [if_neg c41] at K; exact q_wdn (by omega) (by omega) K
    · rw [if_neg c24] at hF
      refine q_go C tk_L_seen [(32, 1)] [true] (pc1 := 225) (σ1 := τ) (lv1 := [(0, .ref 220), (1, .ref z), (2, .int v2)]) (st1 := []) rfl ⟨c24, trivial⟩ ?_
      refine q_wdn (k1 := T1) (k2 := T2) (by omega) (by omega) (q_lvpick [0, 1] (lv' := [(0, .ref 220), (1, .ref z)]) rfl ?_)
      exact hK _ hF.symm
def F_L_seen (z : Nat) (σ : q_M) : q_M := (q_L (F_X8_clock σ) (fun x1 : Int32 => (q_L (q_up σ z 0 x1) (fun σ3 : q_M => (q_L (F_X8_teamCount σ3) (fun x5 : Int32 => (q_L (q_up σ3 z 1 x5) (fun σ7 : q_M => (q_L (F_X8_length σ7) (fun x9 : Int32 => (q_L (q_up σ7 z 2 x9) (fun σ11 : q_M => (q_L (F_X8_isStarted σ11) (fun x13 : Int32 => (q_L (if x13 = 0 then 0 else 1) (fun x16 : Int32 => (q_L (q_up σ11 z 3 x16) (fun σ18 : q_M => (q_L (FL_L_seen_44 z 7 0 σ18) (fun σ20 : q_M => σ20))))))))))))))))))))
def P_L_seen (z : Nat) (σ : q_M) : Prop := (∀ x1 : Int32, (F_X8_clock σ) = x1 → (∀ σ3 : q_M, (q_up σ z 0 x1) = σ3 → ((P_X8_teamCount σ3) ∧ (∀ x5 : Int32, (F_X8_teamCount σ3) = x5 → (∀ σ7 : q_M, (q_up σ3 z 1 x5) = σ7 → (∀ x9 : Int32, (F_X8_length σ7) = x9 → (∀ σ11 : q_M, (q_up σ7 z 2 x9) = σ11 → ((P_X8_isStarted σ11) ∧ (∀ x13 : Int32, (F_X8_isStarted σ11) = x13 → (True ∧ (∀ x16 : Int32, (if x13 = 0 then 0 else 1) = x16 → (∀ σ18 : q_M, (q_up σ11 z 3 x16) = σ18 → ((PL_L_seen_44 z 7 0 σ18) ∧ (∀ σ20 : q_M, (FL_L_seen_44 z 7 0 σ18) = σ20 → True))))))))))))))
set_option maxRecDepth 100000 in
theorem kp_L_seen {α β : Nat → Nat} {D : va_G} {κ : Nat → ClassId} (z : Nat) (σ : q_M) (h_z : q_row α z) {p : Program} {l : Launch} {e : Env} {R : Room} {s : State} {m : MethodId} {args : Array Value} {below : List Frame} {meth : Method} {c : Code} {A : Nat → Prop} {Q : State → Prop} (hfl : l.flags = flags0) (C : q_Cx α β D κ p s m args meth c cL_seen RL (fun _ => none) (fun _ => none) 5 A) (hRf : 10 ≤ R.frames) (hRl : 181 ≤ R.locals) (u1 u2 : Nat) (hRc : u1 + 259 ≤ R.cells) (hRs : u2 + 1554 ≤ R.slots) (hP : P_L_seen z σ) (hK : ∀ (τ1 : q_M), (F_L_seen z σ) = τ1 → q_St α β D κ p l e R s m args below meth c 5 A Q (u1 + 259) (u2 + 1554) τ1 [(1, .ref z)] 225 []) : q_St α β D κ p l e R s m args below meth c 5 A Q u1 u2 σ [(0, .ref 220), (1, .ref z)] 6 [] := by
  generalize hF : F_L_seen z σ = rr at hK
  unfold F_L_seen at hF
  unfold P_L_seen at hP
  refine q_nrm 6 [] (u1 + 0) (u2 + 0) rfl rfl (by omega) (by omega) ?_
  refine q_go C tk_L_seen [(3, 3)] [] (pc1 := 9) (σ1 := σ) (lv1 := [(0, .ref 220), (1, .ref z)]) (st1 := [.ref 220, .int 0, .ref z]) rfl trivial ?_
  refine q_callV C hfl mw_X8_clock mi_X8_clock me_X8_clock lk_L_188 (k_X8_clock σ) (rest := [.int 0, .ref z]) rfl rfl rfl (by decide) (by decide) rfl (q_dc (z := (9, .invokevirtual 188, 3, 0, 0)) tk_L_seen 6 rfl) (Nat.le_of_ble_eq_true rfl) ⟨by omega, by omega⟩ ⟨by omega, by omega⟩ ?_
  refine q_nrm 12 [.int (F_X8_clock σ), .int 0, .ref z] (u1 + 0) (u2 + 0) rfl rfl (by omega) (by omega) ?_
  refine q_nmI (fun x1 e2 => ?_)
  replace hF := q_let e2 hF
  refine q_rowSt C h_z (by unfold vp_in; decide +kernel) (j := 0) (by decide +kernel) (q_dc (z := (12, .iastore, 1, 0, 0)) tk_L_seen 7 rfl) ?_
  refine q_nrm 13 [] (u1 + 0) (u2 + 0) rfl rfl (by omega) (by omega) ?_
  refine q_nmM (fun σ3 e4 => ?_)
  replace hF := q_let e4 hF
  refine q_go C tk_L_seen [(8, 3)] [] (pc1 := 16) (σ1 := σ3) (lv1 := [(0, .ref 220), (1, .ref z)]) (st1 := [.ref 220, .int 1, .ref z]) rfl trivial ?_
  refine q_callV C hfl mw_X8_teamCount mi_X8_teamCount me_X8_teamCount lk_L_137 (k_X8_teamCount σ3 ((hP x1 e2) σ3 e4).1) (rest := [.int 1, .ref z]) rfl rfl rfl (by decide) (by decide) rfl (q_dc (z := (16, .invokevirtual 137, 3, 0, 0)) tk_L_seen 11 rfl) (Nat.le_of_ble_eq_true rfl) ⟨by omega, by omega⟩ ⟨by omega, by omega⟩ ?_
  refine q_nrm 19 [.int (F_X8_teamCount σ3), .int 1, .ref z] (u1 + 0) (u2 + 0) rfl rfl (by omega) (by omega) ?_
  refine q_nmI (fun x5 e6 => ?_)
  replace hF := q_let e6 hF
  refine q_rowSt C h_z (by unfold vp_in; decide +kernel) (j := 1) (by decide +kernel) (q_dc (z := (19, .iastore, 1, 0, 0)) tk_L_seen 12 rfl) ?_
  refine q_nrm 20 [] (u1 + 0) (u2 + 0) rfl rfl (by omega) (by omega) ?_
  refine q_nmM (fun σ7 e8 => ?_)
  replace hF := q_let e8 hF
  refine q_go C tk_L_seen [(13, 3)] [] (pc1 := 23) (σ1 := σ7) (lv1 := [(0, .ref 220), (1, .ref z)]) (st1 := [.ref 220, .int 2, .ref z]) rfl trivial ?_
  refine q_callV C hfl mw_X8_length mi_X8_length me_X8_length lk_L_191 (k_X8_length σ7) (rest := [.int 2, .ref z]) rfl rfl rfl (by decide) (by decide) rfl (q_dc (z := (23, .invokevirtual 191, 3, 0, 0)) tk_L_seen 16 rfl) (Nat.le_of_ble_eq_true rfl) ⟨by omega, by omega⟩ ⟨by omega, by omega⟩ ?_
  refine q_nrm 26 [.int (F_X8_length σ7), .int 2, .ref z] (u1 + 0) (u2 + 0) rfl rfl (by omega) (by omega) ?_
  refine q_nmI (fun x9 e10 => ?_)
  replace hF := q_let e10 hF
  refine q_rowSt C h_z (by unfold vp_in; decide +kernel) (j := 2) (by decide +kernel) (q_dc (z := (26, .iastore, 1, 0, 0)) tk_L_seen 17 rfl) ?_
  refine q_nrm 27 [] (u1 + 0) (u2 + 0) rfl rfl (by omega) (by omega) ?_
  refine q_nmM (fun σ11 e12 => ?_)
  replace hF := q_let e12 hF
  refine q_go C tk_L_seen [(18, 3)] [] (pc1 := 30) (σ1 := σ11) (lv1 := [(0, .ref 220), (1, .ref z)]) (st1 := [.ref 220, .int 3, .ref z]) rfl trivial ?_
  refine q_callV C hfl mw_X8_isStarted mi_X8_isStarted me_X8_isStarted lk_L_133 (k_X8_isStarted σ11 ((((((hP x1 e2) σ3 e4).2 x5 e6) σ7 e8) x9 e10) σ11 e12).1) (rest := [.int 3, .ref z]) rfl rfl rfl (by decide) (by decide) rfl (q_dc (z := (30, .invokevirtual 133, 3, 0, 0)) tk_L_seen 21 rfl) (Nat.le_of_ble_eq_true rfl) ⟨by omega, by omega⟩ ⟨by omega, by omega⟩ ?_
  refine q_nrm 33 [.int (F_X8_isStarted σ11), .int 3, .ref z] (u1 + 0) (u2 + 0) rfl rfl (by omega) (by omega) ?_
  refine q_nmI (fun x13 e14 => ?_)
  replace hF := q_let e14 hF
  refine q_mrgW (v := (if x13 = 0 then 0 else 1)) (M := 41) (σ1 := σ11) (lv1 := [(0, .ref 220), (1, .ref z)]) (st1 := [.int 3, .ref z]) (k1 := (u1 + 0)) (k2 := (u2 + 0)) (fun x16 e17 => ?_) (fun K => ?_)
  · replace hF := q_let e17 hF
    refine q_rowSt C h_z (by unfold vp_in; decide +kernel) (j := 3) (by decide +kernel) (q_dc (z := (41, .iastore, 1, 0, 0)) tk_L_seen 26 rfl) ?_
    refine q_nrm 42 [] (u1 + 0) (u2 + 0) rfl rfl (by omega) (by omega) ?_
    refine q_nmM (fun σ18 e19 => ?_)
    replace hF := q_let e19 hF
    refine q_go C tk_L_seen [(27, 2)] [] (pc1 := 44) (σ1 := σ18) (lv1 := [(2, .int 0), (0, .ref 220), (1, .ref z)]) (st1 := []) rfl trivial ?_
    refine q_lvpick [1, 2, 0] (lv' := [(0, .ref 220), (1, .ref z), (2, .int 0)]) rfl ?_
    refine kl_L_seen_44 z h_z hfl C hRf hRl (u1 + 259) (u2 + 1554) (by omega) (by omega) 7 0 σ18 (u1 + 0) (u2 + 0) (by omega) (by omega) (((((((((hP x1 e2) σ3 e4).2 x5 e6) σ7 e8) x9 e10) σ11 e12).2 x13 e14).2 x16 e17) σ18 e19).1 (fun σ20 e21 => ?_)
    replace hF := q_let e21 hF
    refine q_wdn (k1 := u1 + 259) (k2 := u2 + 1554) (by omega) (by omega) ?_
    refine q_lvpick [1] (lv' := [(1, .ref z)]) rfl ?_
    exact hK _ hF.symm
  · clear hF
    by_cases c15 : x13 = 0
    · skip
      refine q_go C tk_L_seen [(22, 1), (25, 1)] [true] (pc1 := 41) (σ1 := σ11) (lv1 := [(0, .ref 220), (1, .ref z)]) (st1 := [.int 0, .int 3, .ref z]) rfl ⟨c15, trivial⟩ ?_
      rw [if_pos c15] at K; exact q_wdn (by omega) (by omega) K
    · skip
      refine q_go C tk_L_seen [(22, 3)] [false] (pc1 := 41) (σ1 := σ11) (lv1 := [(0, .ref 220), (1, .ref z)]) (st1 := [.int 1, .int 3, .ref z]) rfl ⟨c15, trivial⟩ ?_
      rw [if_neg c15] at K; exact q_wdn (by omega) (by omega) K
def FL_L_begun_22 (ζ : Nat → Nat) (x3 : Int32) : Nat → Int32 → Int32 → q_M → (Int32 × q_M)
  | 0, v3, v4, τ => (0, τ)
  | nn + 1, v3, v4, τ => (if v4 < x3 then (q_L (W_addTeam τ).2 (fun σ65 : q_M => (q_L (W_addTeam τ).1 (fun x67 : Int32 => (q_L (v3 + x67) (fun x69 : Int32 => (FL_L_begun_22 ζ x3 nn x69 (v4 + 1) σ65))))))) else (v3, τ))
def PL_L_begun_22 (ζ : Nat → Nat) (x3 : Int32) : Nat → Int32 → Int32 → q_M → Prop
  | 0, v3, v4, τ => False
  | nn + 1, v3, v4, τ => ((v4 < x3 → ((Q_addTeam τ) ∧ (∀ σ65 : q_M, (W_addTeam τ).2 = σ65 → (∀ x67 : Int32, (W_addTeam τ).1 = x67 → (∀ x69 : Int32, (v3 + x67) = x69 → (PL_L_begun_22 ζ x3 nn x69 (v4 + 1) σ65)))))) ∧ (¬ v4 < x3 → True))
set_option maxRecDepth 100000 in
theorem kl_L_begun_22 {α β : Nat → Nat} {D : va_G} {κ : Nat → ClassId} (x3 : Int32) {p : Program} {l : Launch} {e : Env} {R : Room} {s : State} {m : MethodId} {args : Array Value} {below : List Frame} {meth : Method} {c : Code} {A : Nat → Prop} {Q : State → Prop} (hfl : l.flags = flags0) (C : q_Cx α β D κ p s m args meth c cL_begun RL (fun _ => none) (fun _ => none) 5 A) (hRf : 10 ≤ R.frames) (hRl : 196 ≤ R.locals) (T1 T2 : Nat) (hT1 : T1 ≤ R.cells) (hT2 : T2 ≤ R.slots) : ∀ (nn : Nat) (v3 : Int32) (v4 : Int32) (τ : q_M) (u1 u2 : Nat), u1 + 1 * nn ≤ T1 → u2 + 6 * nn ≤ T2 → PL_L_begun_22 α x3 nn v3 v4 τ → (∀ (xo9 : Int32) (τ1 : q_M), FL_L_begun_22 α x3 nn v3 v4 τ = (xo9, τ1) → q_St α β D κ p l e R s m args below meth c 5 A Q T1 T2 τ1 [(0, .ref 335), (1, .ref 220), (2, .int x3), (3, .int xo9)] 41 []) → q_St α β D κ p l e R s m args below meth c 5 A Q u1 u2 τ [(0, .ref 335), (1, .ref 220), (2, .int x3), (3, .int v3), (4, .int v4)] 22 [] := by
  intro nn
  induction nn with
  | zero => intro v3 v4 τ u1 u2 hu1 hu2 hP; exact hP.elim
  | succ nn ih =>
    intro v3 v4 τ u1 u2 hu1 hu2 hP hK
    generalize hF : FL_L_begun_22 α x3 (nn + 1) v3 v4 τ = rr at hK
    unfold FL_L_begun_22 at hF
    refine q_go C tk_L_begun [(15, 2)] [] (pc1 := 25) (σ1 := τ) (lv1 := [(0, .ref 335), (1, .ref 220), (2, .int x3), (3, .int v3), (4, .int v4)]) (st1 := [.int x3, .int v4]) rfl trivial ?_
    by_cases c64 : v4 < x3
    · rw [if_pos c64] at hF
      refine q_go C tk_L_begun [(17, 3)] [false] (pc1 := 30) (σ1 := τ) (lv1 := [(0, .ref 335), (1, .ref 220), (2, .int x3), (3, .int v3), (4, .int v4)]) (st1 := [.ref 220, .int v3]) rfl ⟨c64, trivial⟩ ?_
      refine q_callW (n := 1) C hfl cw_addTeam ⟨by decide +kernel, by decide +kernel, by decide +kernel⟩ q_init_QuillRelayLaw sw_addTeam lk_L_118 (kw_addTeam τ (hP.1 c64).1) (rest := [.int v3]) rfl rfl (q_dc (z := (30, .invokestatic 118, 3, 0, 0)) tk_L_begun 20 rfl) (Nat.le_of_ble_eq_true rfl) ⟨by omega, by omega⟩ ⟨by omega, by omega⟩ ?_
      refine q_nrm 33 [.int (W_addTeam τ).1, .int v3] (u1 + 1) (u2 + 6) rfl rfl (by omega) (by omega) ?_
      refine q_nmM (fun σ65 e66 => ?_)
      replace hF := q_let e66 hF
      refine q_nmI (fun x67 e68 => ?_)
      replace hF := q_let e68 hF
      refine q_go C tk_L_begun [(21, 1)] [] (pc1 := 34) (σ1 := σ65) (lv1 := [(0, .ref 335), (1, .ref 220), (2, .int x3), (3, .int v3), (4, .int v4)]) (st1 := [.int (v3 + x67)]) rfl trivial ?_
      refine q_nmI (fun x69 e70 => ?_)
      replace hF := q_let e70 hF
      refine q_go C tk_L_begun [(22, 3)] [] (pc1 := 22) (σ1 := σ65) (lv1 := [(4, .int (v4 + 1)), (3, .int x69), (0, .ref 335), (1, .ref 220), (2, .int x3)]) (st1 := []) rfl trivial ?_
      refine q_lvpick [2, 3, 4, 1, 0] (lv' := [(0, .ref 335), (1, .ref 220), (2, .int x3), (3, .int x69), (4, .int (v4 + 1))]) rfl ?_
      exact ih x69 (v4 + 1) σ65 (u1 + 1) (u2 + 6) (by omega) (by omega) ((((hP.1 c64).2 σ65 e66) x67 e68) x69 e70) (by rw [hF]; exact hK)
    · rw [if_neg c64] at hF
      refine q_go C tk_L_begun [(17, 1)] [true] (pc1 := 41) (σ1 := τ) (lv1 := [(0, .ref 335), (1, .ref 220), (2, .int x3), (3, .int v3), (4, .int v4)]) (st1 := []) rfl ⟨c64, trivial⟩ ?_
      refine q_wdn (k1 := T1) (k2 := T2) (by omega) (by omega) (q_lvpick [0, 1, 2, 3] (lv' := [(0, .ref 335), (1, .ref 220), (2, .int x3), (3, .int v3)]) rfl ?_)
      exact hK _ _ hF.symm
def FL_L_begun_44 (ζ : Nat → Nat) (x3 : Int32) : Nat → Int32 → Int32 → q_M → (Int32 × q_M)
  | 0, v3, v4, τ => (0, τ)
  | nn + 1, v3, v4, τ => (if v4 < 10 then (q_L (F_L_in ζ (1 + v4) x3 τ) (fun x72 : Int32 => (q_L (F_L_in ζ (11 + v4) 4 τ) (fun x74 : Int32 => (q_L (F_L_in ζ (21 + v4) 80 τ) (fun x76 : Int32 => (q_L (W_setSpeed x72 x74 (20 + x76) τ).2 (fun σ78 : q_M => (q_L (W_setSpeed x72 x74 (20 + x76) τ).1 (fun x80 : Int32 => (q_L (v3 + x80) (fun x82 : Int32 => (FL_L_begun_44 ζ x3 nn x82 (v4 + 1) σ78))))))))))))) else (v3, τ))
def PL_L_begun_44 (ζ : Nat → Nat) (x3 : Int32) : Nat → Int32 → Int32 → q_M → Prop
  | 0, v3, v4, τ => False
  | nn + 1, v3, v4, τ => ((v4 < 10 → ((P_L_in ζ (1 + v4) x3 τ) ∧ (∀ x72 : Int32, (F_L_in ζ (1 + v4) x3 τ) = x72 → ((P_L_in ζ (11 + v4) 4 τ) ∧ (∀ x74 : Int32, (F_L_in ζ (11 + v4) 4 τ) = x74 → ((P_L_in ζ (21 + v4) 80 τ) ∧ (∀ x76 : Int32, (F_L_in ζ (21 + v4) 80 τ) = x76 → ((Q_setSpeed x72 x74 (20 + x76) τ) ∧ (∀ σ78 : q_M, (W_setSpeed x72 x74 (20 + x76) τ).2 = σ78 → (∀ x80 : Int32, (W_setSpeed x72 x74 (20 + x76) τ).1 = x80 → (∀ x82 : Int32, (v3 + x80) = x82 → (PL_L_begun_44 ζ x3 nn x82 (v4 + 1) σ78)))))))))))) ∧ (¬ v4 < 10 → True))
set_option maxRecDepth 100000 in
theorem kl_L_begun_44 {α β : Nat → Nat} {D : va_G} {κ : Nat → ClassId} (x3 : Int32) {p : Program} {l : Launch} {e : Env} {R : Room} {s : State} {m : MethodId} {args : Array Value} {below : List Frame} {meth : Method} {c : Code} {A : Nat → Prop} {Q : State → Prop} (hfl : l.flags = flags0) (C : q_Cx α β D κ p s m args meth c cL_begun RL (fun _ => none) (fun _ => none) 5 A) (hRf : 10 ≤ R.frames) (hRl : 196 ≤ R.locals) (T1 T2 : Nat) (hT1 : T1 ≤ R.cells) (hT2 : T2 ≤ R.slots) : ∀ (nn : Nat) (v3 : Int32) (v4 : Int32) (τ : q_M) (u1 u2 : Nat), u1 + 2 * nn ≤ T1 → u2 + 12 * nn ≤ T2 → PL_L_begun_44 α x3 nn v3 v4 τ → (∀ (xo9 : Int32) (τ1 : q_M), FL_L_begun_44 α x3 nn v3 v4 τ = (xo9, τ1) → q_St α β D κ p l e R s m args below meth c 5 A Q T1 T2 τ1 [(0, .ref 335), (1, .ref 220), (2, .int x3), (3, .int xo9)] 97 []) → q_St α β D κ p l e R s m args below meth c 5 A Q u1 u2 τ [(0, .ref 335), (1, .ref 220), (2, .int x3), (3, .int v3), (4, .int v4)] 44 [] := by
  intro nn
  induction nn with
  | zero => intro v3 v4 τ u1 u2 hu1 hu2 hP; exact hP.elim
  | succ nn ih =>
    intro v3 v4 τ u1 u2 hu1 hu2 hP hK
    generalize hF : FL_L_begun_44 α x3 (nn + 1) v3 v4 τ = rr at hK
    unfold FL_L_begun_44 at hF
    refine q_go C tk_L_begun [(27, 2)] [] (pc1 := 48) (σ1 := τ) (lv1 := [(0, .ref 335), (1, .ref 220), (2, .int x3), (3, .int v3), (4, .int v4)]) (st1 := [.int 10, .int v4]) rfl trivial ?_
    by_cases c71 : v4 < 10
    · rw [if_pos c71] at hF
      refine q_go C tk_L_begun [(29, 8)] [false] (pc1 := 59) (σ1 := τ) (lv1 := [(0, .ref 335), (1, .ref 220), (2, .int x3), (3, .int v3), (4, .int v4)]) (st1 := [.int x3, .int (1 + v4), .ref 335, .ref 220, .int v3]) rfl ⟨c71, trivial⟩ ?_
      refine q_callS C hfl mw_L_in ms_L_in lk_L_114 (k_L_in (1 + v4) x3 τ (hP.1 c71).1) (rest := [.ref 220, .int v3]) rfl rfl (q_dc (z := (59, .invokestatic 114, 3, 0, 0)) tk_L_begun 37 rfl) (Nat.le_of_ble_eq_true rfl) ⟨by omega, by omega⟩ ⟨by omega, by omega⟩ ?_
      refine q_nrm 62 [.int (F_L_in α (1 + v4) x3 τ), .ref 220, .int v3] (u1 + 0) (u2 + 0) rfl rfl (by omega) (by omega) ?_
      refine q_nmI (fun x72 e73 => ?_)
      replace hF := q_let e73 hF
      refine q_go C tk_L_begun [(38, 5)] [] (pc1 := 69) (σ1 := τ) (lv1 := [(0, .ref 335), (1, .ref 220), (2, .int x3), (3, .int v3), (4, .int v4)]) (st1 := [.int 4, .int (11 + v4), .ref 335, .int x72, .ref 220, .int v3]) rfl trivial ?_
      refine q_callS C hfl mw_L_in ms_L_in lk_L_114 (k_L_in (11 + v4) 4 τ ((hP.1 c71).2 x72 e73).1) (rest := [.int x72, .ref 220, .int v3]) rfl rfl (q_dc (z := (69, .invokestatic 114, 3, 0, 0)) tk_L_begun 43 rfl) (Nat.le_of_ble_eq_true rfl) ⟨by omega, by omega⟩ ⟨by omega, by omega⟩ ?_
      refine q_nrm 72 [.int (F_L_in α (11 + v4) 4 τ), .int x72, .ref 220, .int v3] (u1 + 0) (u2 + 0) rfl rfl (by omega) (by omega) ?_
      refine q_nmI (fun x74 e75 => ?_)
      replace hF := q_let e75 hF
      refine q_go C tk_L_begun [(44, 6)] [] (pc1 := 82) (σ1 := τ) (lv1 := [(0, .ref 335), (1, .ref 220), (2, .int x3), (3, .int v3), (4, .int v4)]) (st1 := [.int 80, .int (21 + v4), .ref 335, .int 20, .int x74, .int x72, .ref 220, .int v3]) rfl trivial ?_
      refine q_callS C hfl mw_L_in ms_L_in lk_L_114 (k_L_in (21 + v4) 80 τ (((hP.1 c71).2 x72 e73).2 x74 e75).1) (rest := [.int 20, .int x74, .int x72, .ref 220, .int v3]) rfl rfl (q_dc (z := (82, .invokestatic 114, 3, 0, 0)) tk_L_begun 50 rfl) (Nat.le_of_ble_eq_true rfl) ⟨by omega, by omega⟩ ⟨by omega, by omega⟩ ?_
      refine q_nrm 85 [.int (F_L_in α (21 + v4) 80 τ), .int 20, .int x74, .int x72, .ref 220, .int v3] (u1 + 0) (u2 + 0) rfl rfl (by omega) (by omega) ?_
      refine q_nmI (fun x76 e77 => ?_)
      replace hF := q_let e77 hF
      refine q_go C tk_L_begun [(51, 1)] [] (pc1 := 86) (σ1 := τ) (lv1 := [(0, .ref 335), (1, .ref 220), (2, .int x3), (3, .int v3), (4, .int v4)]) (st1 := [.int (20 + x76), .int x74, .int x72, .ref 220, .int v3]) rfl trivial ?_
      refine q_callW (n := 4) C hfl cw_setSpeed ⟨by decide +kernel, by decide +kernel, by decide +kernel⟩ q_init_QuillRelayLaw sw_setSpeed lk_L_120 (kw_setSpeed x72 x74 (20 + x76) τ ((((hP.1 c71).2 x72 e73).2 x74 e75).2 x76 e77).1) (rest := [.int v3]) rfl rfl (q_dc (z := (86, .invokestatic 120, 3, 0, 0)) tk_L_begun 52 rfl) (Nat.le_of_ble_eq_true rfl) ⟨by omega, by omega⟩ ⟨by omega, by omega⟩ ?_
      refine q_nrm 89 [.int (W_setSpeed x72 x74 (20 + x76) τ).1, .int v3] (u1 + 2) (u2 + 12) rfl rfl (by omega) (by omega) ?_
      refine q_nmM (fun σ78 e79 => ?_)
      replace hF := q_let e79 hF
      refine q_nmI (fun x80 e81 => ?_)
      replace hF := q_let e81 hF
      refine q_go C tk_L_begun [(53, 1)] [] (pc1 := 90) (σ1 := σ78) (lv1 := [(0, .ref 335), (1, .ref 220), (2, .int x3), (3, .int v3), (4, .int v4)]) (st1 := [.int (v3 + x80)]) rfl trivial ?_
      refine q_nmI (fun x82 e83 => ?_)
      replace hF := q_let e83 hF
      refine q_go C tk_L_begun [(54, 3)] [] (pc1 := 44) (σ1 := σ78) (lv1 := [(4, .int (v4 + 1)), (3, .int x82), (0, .ref 335), (1, .ref 220), (2, .int x3)]) (st1 := []) rfl trivial ?_
      refine q_lvpick [2, 3, 4, 1, 0] (lv' := [(0, .ref 335), (1, .ref 220), (2, .int x3), (3, .int x82), (4, .int (v4 + 1))]) rfl ?_
      exact ih x82 (v4 + 1) σ78 (u1 + 2) (u2 + 12) (by omega) (by omega) (((((((hP.1 c71).2 x72 e73).2 x74 e75).2 x76 e77).2 σ78 e79) x80 e81) x82 e83) (by rw [hF]; exact hK)
    · rw [if_neg c71] at hF
      refine q_go C tk_L_begun [(29, 1)] [true] (pc1 := 97) (σ1 := τ) (lv1 := [(0, .ref 335), (1, .ref 220), (2, .int x3), (3, .int v3), (4, .int v4)]) (st1 := []) rfl ⟨c71, trivial⟩ ?_
      refine q_wdn (k1 := T1) (k2 := T2) (by omega) (by omega) (q_lvpick [0, 1, 2, 3] (lv' := [(0, .ref 335), (1, .ref 220), (2, .int x3), (3, .int v3)]) rfl ?_)
      exact hK _ _ hF.symm
def F_L_begun (ζ : Nat → Nat) (σ : q_M) : Int32 × q_M := (q_L (F_L_in ζ 0 5 σ) (fun x1 : Int32 => (q_L (2 + x1) (fun x3 : Int32 => (q_L2 (FL_L_begun_22 ζ x3 7 0 0 σ) (fun (y6 : Int32) (σ5 : q_M) => (q_L2 (FL_L_begun_44 ζ x3 11 y6 0 σ5) (fun (y9 : Int32) (σ8 : q_M) => (q_L (F_L_in ζ 31 300 σ8) (fun x11 : Int32 => (q_L (W_setLength (400 + x11) σ8).2 (fun σ13 : q_M => (q_L (W_setLength (400 + x11) σ8).1 (fun x15 : Int32 => (q_L (F_L_in ζ 32 2 σ13) (fun x17 : Int32 => (if x17 = 0 then (q_L (F_L_in ζ 33 1000 σ13) (fun x20 : Int32 => (q_L (W_drawLanes x20 σ13).2 (fun σ22 : q_M => (q_L (W_drawLanes x20 σ13).1 (fun x24 : Int32 => (q_L (y9 + (x15 + x24)) (fun x26 : Int32 => (q_L (F_L_in ζ 34 6 σ22) (fun x28 : Int32 => (if 0 < x28 then (q_L (W_start σ22).2 (fun σ31 : q_M => (q_L (W_start σ22).1 (fun x33 : Int32 => (q_L (F_L_in ζ 35 14 σ31) (fun x35 : Int32 => (q_L (W_run (1 + x35) σ31).2 (fun σ37 : q_M => (q_L (W_run (1 + x35) σ31).1 (fun x39 : Int32 => (q_L (x26 + (x33 + x39)) (fun x41 : Int32 => (x41, σ37))))))))))))) else (q_L (x26 + 0) (fun x43 : Int32 => (x43, σ22)))))))))))))) else (q_L (y9 + (x15 + 0)) (fun x45 : Int32 => (q_L (F_L_in ζ 34 6 σ13) (fun x47 : Int32 => (if 0 < x47 then (q_L (W_start σ13).2 (fun σ50 : q_M => (q_L (W_start σ13).1 (fun x52 : Int32 => (q_L (F_L_in ζ 35 14 σ50) (fun x54 : Int32 => (q_L (W_run (1 + x54) σ50).2 (fun σ56 : q_M => (q_L (W_run (1 + x54) σ50).1 (fun x58 : Int32 => (q_L (x45 + (x52 + x58)) (fun x60 : Int32 => (x60, σ56))))))))))))) else (q_L (x45 + 0) (fun x62 : Int32 => (x62, σ13)))))))))))))))))))))))))
def P_L_begun (ζ : Nat → Nat) (σ : q_M) : Prop := ((P_L_in ζ 0 5 σ) ∧ (∀ x1 : Int32, (F_L_in ζ 0 5 σ) = x1 → (∀ x3 : Int32, (2 + x1) = x3 → ((PL_L_begun_22 ζ x3 7 0 0 σ) ∧ (∀ (y6 : Int32) (σ5 : q_M), (FL_L_begun_22 ζ x3 7 0 0 σ) = (y6, σ5) → ((PL_L_begun_44 ζ x3 11 y6 0 σ5) ∧ (∀ (y9 : Int32) (σ8 : q_M), (FL_L_begun_44 ζ x3 11 y6 0 σ5) = (y9, σ8) → ((P_L_in ζ 31 300 σ8) ∧ (∀ x11 : Int32, (F_L_in ζ 31 300 σ8) = x11 → ((Q_setLength (400 + x11) σ8) ∧ (∀ σ13 : q_M, (W_setLength (400 + x11) σ8).2 = σ13 → (∀ x15 : Int32, (W_setLength (400 + x11) σ8).1 = x15 → ((P_L_in ζ 32 2 σ13) ∧ (∀ x17 : Int32, (F_L_in ζ 32 2 σ13) = x17 → ((x17 = 0 → ((P_L_in ζ 33 1000 σ13) ∧ (∀ x20 : Int32, (F_L_in ζ 33 1000 σ13) = x20 → ((Q_drawLanes x20 σ13) ∧ (∀ σ22 : q_M, (W_drawLanes x20 σ13).2 = σ22 → (∀ x24 : Int32, (W_drawLanes x20 σ13).1 = x24 → (∀ x26 : Int32, (y9 + (x15 + x24)) = x26 → ((P_L_in ζ 34 6 σ22) ∧ (∀ x28 : Int32, (F_L_in ζ 34 6 σ22) = x28 → ((0 < x28 → ((Q_start σ22) ∧ (∀ σ31 : q_M, (W_start σ22).2 = σ31 → (∀ x33 : Int32, (W_start σ22).1 = x33 → ((P_L_in ζ 35 14 σ31) ∧ (∀ x35 : Int32, (F_L_in ζ 35 14 σ31) = x35 → ((Q_run (1 + x35) σ31) ∧ True))))))) ∧ (¬ 0 < x28 → True))))))))))) ∧ (¬ x17 = 0 → (∀ x45 : Int32, (y9 + (x15 + 0)) = x45 → ((P_L_in ζ 34 6 σ13) ∧ (∀ x47 : Int32, (F_L_in ζ 34 6 σ13) = x47 → ((0 < x47 → ((Q_start σ13) ∧ (∀ σ50 : q_M, (W_start σ13).2 = σ50 → (∀ x52 : Int32, (W_start σ13).1 = x52 → ((P_L_in ζ 35 14 σ50) ∧ (∀ x54 : Int32, (F_L_in ζ 35 14 σ50) = x54 → ((Q_run (1 + x54) σ50) ∧ True))))))) ∧ (¬ 0 < x47 → True)))))))))))))))))))))
set_option maxRecDepth 100000 in
theorem kp_L_begun {α β : Nat → Nat} {D : va_G} {κ : Nat → ClassId} (σ : q_M) {p : Program} {l : Launch} {e : Env} {R : Room} {s : State} {m : MethodId} {args : Array Value} {below : List Frame} {meth : Method} {c : Code} {A : Nat → Prop} {Q : State → Prop} (hfl : l.flags = flags0) (C : q_Cx α β D κ p s m args meth c cL_begun RL (fun _ => none) (fun _ => none) 5 A) (hRf : 10 ≤ R.frames) (hRl : 196 ≤ R.locals) (u1 u2 : Nat) (hRc : u1 + 34 ≤ R.cells) (hRs : u2 + 204 ≤ R.slots) (hP : P_L_begun α σ) (hK : ∀ (xo9 : Int32) (τ1 : q_M), (F_L_begun α σ) = (xo9, τ1) → q_St α β D κ p l e R s m args below meth c 5 A Q (u1 + 34) (u2 + 204) τ1 [(1, .ref 220), (3, .int xo9)] 182 []) : q_St α β D κ p l e R s m args below meth c 5 A Q u1 u2 σ [(0, .ref 335), (1, .ref 220)] 8 [] := by
  generalize hF : F_L_begun α σ = rr at hK
  unfold F_L_begun at hF
  unfold P_L_begun at hP
  refine q_nrm 8 [] (u1 + 0) (u2 + 0) rfl rfl (by omega) (by omega) ?_
  refine q_go C tk_L_begun [(4, 4)] [] (pc1 := 12) (σ1 := σ) (lv1 := [(0, .ref 335), (1, .ref 220)]) (st1 := [.int 5, .int 0, .ref 335, .int 2]) rfl trivial ?_
  refine q_callS C hfl mw_L_in ms_L_in lk_L_114 (k_L_in 0 5 σ hP.1) (rest := [.int 2]) rfl rfl (q_dc (z := (12, .invokestatic 114, 3, 0, 0)) tk_L_begun 8 rfl) (Nat.le_of_ble_eq_true rfl) ⟨by omega, by omega⟩ ⟨by omega, by omega⟩ ?_
  refine q_nrm 15 [.int (F_L_in α 0 5 σ), .int 2] (u1 + 0) (u2 + 0) rfl rfl (by omega) (by omega) ?_
  refine q_nmI (fun x1 e2 => ?_)
  replace hF := q_let e2 hF
  refine q_go C tk_L_begun [(9, 1)] [] (pc1 := 16) (σ1 := σ) (lv1 := [(0, .ref 335), (1, .ref 220)]) (st1 := [.int (2 + x1)]) rfl trivial ?_
  refine q_nmI (fun x3 e4 => ?_)
  replace hF := q_let e4 hF
  refine q_go C tk_L_begun [(10, 5)] [] (pc1 := 22) (σ1 := σ) (lv1 := [(4, .int 0), (3, .int 0), (2, .int x3), (0, .ref 335), (1, .ref 220)]) (st1 := []) rfl trivial ?_
  refine q_lvpick [3, 4, 2, 1, 0] (lv' := [(0, .ref 335), (1, .ref 220), (2, .int x3), (3, .int 0), (4, .int 0)]) rfl ?_
  refine kl_L_begun_22 x3  hfl C hRf hRl (u1 + 7) (u2 + 42) (by omega) (by omega) 7 0 0 σ (u1 + 0) (u2 + 0) (by omega) (by omega) ((hP.2 x1 e2) x3 e4).1 (fun y6 σ5 e7 => ?_)
  replace hF := q_let2 e7 hF
  refine q_go C tk_L_begun [(25, 2)] [] (pc1 := 44) (σ1 := σ5) (lv1 := [(4, .int 0), (0, .ref 335), (1, .ref 220), (2, .int x3), (3, .int y6)]) (st1 := []) rfl trivial ?_
  refine q_lvpick [1, 2, 3, 4, 0] (lv' := [(0, .ref 335), (1, .ref 220), (2, .int x3), (3, .int y6), (4, .int 0)]) rfl ?_
  refine kl_L_begun_44 x3  hfl C hRf hRl (u1 + 29) (u2 + 174) (by omega) (by omega) 11 y6 0 σ5 (u1 + 7) (u2 + 42) (by omega) (by omega) (((hP.2 x1 e2) x3 e4).2 y6 σ5 e7).1 (fun y9 σ8 e10 => ?_)
  replace hF := q_let2 e10 hF
  refine q_go C tk_L_begun [(57, 6)] [] (pc1 := 108) (σ1 := σ8) (lv1 := [(0, .ref 335), (1, .ref 220), (2, .int x3), (3, .int y9)]) (st1 := [.int 300, .int 31, .ref 335, .int 400, .ref 220, .int y9]) rfl trivial ?_
  refine q_callS C hfl mw_L_in ms_L_in lk_L_114 (k_L_in 31 300 σ8 ((((hP.2 x1 e2) x3 e4).2 y6 σ5 e7).2 y9 σ8 e10).1) (rest := [.int 400, .ref 220, .int y9]) rfl rfl (q_dc (z := (108, .invokestatic 114, 3, 0, 0)) tk_L_begun 63 rfl) (Nat.le_of_ble_eq_true rfl) ⟨by omega, by omega⟩ ⟨by omega, by omega⟩ ?_
  refine q_nrm 111 [.int (F_L_in α 31 300 σ8), .int 400, .ref 220, .int y9] (u1 + 29) (u2 + 174) rfl rfl (by omega) (by omega) ?_
  refine q_nmI (fun x11 e12 => ?_)
  replace hF := q_let e12 hF
  refine q_go C tk_L_begun [(64, 1)] [] (pc1 := 112) (σ1 := σ8) (lv1 := [(0, .ref 335), (1, .ref 220), (2, .int x3), (3, .int y9)]) (st1 := [.int (400 + x11), .ref 220, .int y9]) rfl trivial ?_
  refine q_callW (n := 2) C hfl cw_setLength ⟨by decide +kernel, by decide +kernel, by decide +kernel⟩ q_init_QuillRelayLaw sw_setLength lk_L_123 (kw_setLength (400 + x11) σ8 (((((hP.2 x1 e2) x3 e4).2 y6 σ5 e7).2 y9 σ8 e10).2 x11 e12).1) (rest := [.int y9]) rfl rfl (q_dc (z := (112, .invokestatic 123, 3, 0, 0)) tk_L_begun 65 rfl) (Nat.le_of_ble_eq_true rfl) ⟨by omega, by omega⟩ ⟨by omega, by omega⟩ ?_
  refine q_nrm 115 [.int (W_setLength (400 + x11) σ8).1, .int y9] (u1 + 30) (u2 + 180) rfl rfl (by omega) (by omega) ?_
  refine q_nmM (fun σ13 e14 => ?_)
  replace hF := q_let e14 hF
  refine q_nmI (fun x15 e16 => ?_)
  replace hF := q_let e16 hF
  refine q_go C tk_L_begun [(66, 3)] [] (pc1 := 119) (σ1 := σ13) (lv1 := [(0, .ref 335), (1, .ref 220), (2, .int x3), (3, .int y9)]) (st1 := [.int 2, .int 32, .ref 335, .int x15, .int y9]) rfl trivial ?_
  refine q_callS C hfl mw_L_in ms_L_in lk_L_114 (k_L_in 32 2 σ13 (((((((hP.2 x1 e2) x3 e4).2 y6 σ5 e7).2 y9 σ8 e10).2 x11 e12).2 σ13 e14) x15 e16).1) (rest := [.int x15, .int y9]) rfl rfl (q_dc (z := (119, .invokestatic 114, 3, 0, 0)) tk_L_begun 69 rfl) (Nat.le_of_ble_eq_true rfl) ⟨by omega, by omega⟩ ⟨by omega, by omega⟩ ?_
  refine q_nrm 122 [.int (F_L_in α 32 2 σ13), .int x15, .int y9] (u1 + 30) (u2 + 180) rfl rfl (by omega) (by omega) ?_
  refine q_nmI (fun x17 e18 => ?_)
  replace hF := q_let e18 hF
  by_cases c19 : x17 = 0
  · rw [if_pos c19] at hF
    refine q_go C tk_L_begun [(70, 5)] [false] (pc1 := 132) (σ1 := σ13) (lv1 := [(0, .ref 335), (1, .ref 220), (2, .int x3), (3, .int y9)]) (st1 := [.int 1000, .int 33, .ref 335, .ref 220, .int x15, .int y9]) rfl ⟨c19, trivial⟩ ?_
    refine q_callS C hfl mw_L_in ms_L_in lk_L_114 (k_L_in 33 1000 σ13 (((((((((hP.2 x1 e2) x3 e4).2 y6 σ5 e7).2 y9 σ8 e10).2 x11 e12).2 σ13 e14) x15 e16).2 x17 e18).1 c19).1) (rest := [.ref 220, .int x15, .int y9]) rfl rfl (q_dc (z := (132, .invokestatic 114, 3, 0, 0)) tk_L_begun 75 rfl) (Nat.le_of_ble_eq_true rfl) ⟨by omega, by omega⟩ ⟨by omega, by omega⟩ ?_
    refine q_nrm 135 [.int (F_L_in α 33 1000 σ13), .ref 220, .int x15, .int y9] (u1 + 30) (u2 + 180) rfl rfl (by omega) (by omega) ?_
    refine q_nmI (fun x20 e21 => ?_)
    replace hF := q_let e21 hF
    refine q_callW (n := 2) C hfl cw_drawLanes ⟨by decide +kernel, by decide +kernel, by decide +kernel⟩ q_init_QuillRelayLaw sw_drawLanes lk_L_126 (kw_drawLanes x20 σ13 ((((((((((hP.2 x1 e2) x3 e4).2 y6 σ5 e7).2 y9 σ8 e10).2 x11 e12).2 σ13 e14) x15 e16).2 x17 e18).1 c19).2 x20 e21).1) (rest := [.int x15, .int y9]) rfl rfl (q_dc (z := (135, .invokestatic 126, 3, 0, 0)) tk_L_begun 76 rfl) (Nat.le_of_ble_eq_true rfl) ⟨by omega, by omega⟩ ⟨by omega, by omega⟩ ?_
    refine q_nrm 138 [.int (W_drawLanes x20 σ13).1, .int x15, .int y9] (u1 + 32) (u2 + 192) rfl rfl (by omega) (by omega) ?_
    refine q_nmM (fun σ22 e23 => ?_)
    replace hF := q_let e23 hF
    refine q_nmI (fun x24 e25 => ?_)
    replace hF := q_let e25 hF
    refine q_go C tk_L_begun [(77, 1), (79, 2)] [] (pc1 := 144) (σ1 := σ22) (lv1 := [(0, .ref 335), (1, .ref 220), (2, .int x3), (3, .int y9)]) (st1 := [.int (y9 + (x15 + x24))]) rfl trivial ?_
    refine q_nmI (fun x26 e27 => ?_)
    replace hF := q_let e27 hF
    refine q_go C tk_L_begun [(81, 5)] [] (pc1 := 151) (σ1 := σ22) (lv1 := [(3, .int x26), (0, .ref 335), (1, .ref 220), (2, .int x3)]) (st1 := [.int 6, .int 34, .ref 335, .int x26]) rfl trivial ?_
    refine q_callS C hfl mw_L_in ms_L_in lk_L_114 (k_L_in 34 6 σ22 (((((((((((((hP.2 x1 e2) x3 e4).2 y6 σ5 e7).2 y9 σ8 e10).2 x11 e12).2 σ13 e14) x15 e16).2 x17 e18).1 c19).2 x20 e21).2 σ22 e23) x24 e25) x26 e27).1) (rest := [.int x26]) rfl rfl (q_dc (z := (151, .invokestatic 114, 3, 0, 0)) tk_L_begun 86 rfl) (Nat.le_of_ble_eq_true rfl) ⟨by omega, by omega⟩ ⟨by omega, by omega⟩ ?_
    refine q_nrm 154 [.int (F_L_in α 34 6 σ22), .int x26] (u1 + 32) (u2 + 192) rfl rfl (by omega) (by omega) ?_
    refine q_nmI (fun x28 e29 => ?_)
    replace hF := q_let e29 hF
    by_cases c30 : 0 < x28
    · rw [if_pos c30] at hF
      refine q_go C tk_L_begun [(87, 2)] [false] (pc1 := 158) (σ1 := σ22) (lv1 := [(3, .int x26), (0, .ref 335), (1, .ref 220), (2, .int x3)]) (st1 := [.ref 220, .int x26]) rfl ⟨c30, trivial⟩ ?_
      refine q_callW (n := 1) C hfl cw_start ⟨by decide +kernel, by decide +kernel, by decide +kernel⟩ q_init_QuillRelayLaw sw_start lk_L_128 (kw_start σ22 (((((((((((((((hP.2 x1 e2) x3 e4).2 y6 σ5 e7).2 y9 σ8 e10).2 x11 e12).2 σ13 e14) x15 e16).2 x17 e18).1 c19).2 x20 e21).2 σ22 e23) x24 e25) x26 e27).2 x28 e29).1 c30).1) (rest := [.int x26]) rfl rfl (q_dc (z := (158, .invokestatic 128, 3, 0, 0)) tk_L_begun 89 rfl) (Nat.le_of_ble_eq_true rfl) ⟨by omega, by omega⟩ ⟨by omega, by omega⟩ ?_
      refine q_nrm 161 [.int (W_start σ22).1, .int x26] (u1 + 33) (u2 + 198) rfl rfl (by omega) (by omega) ?_
      refine q_nmM (fun σ31 e32 => ?_)
      replace hF := q_let e32 hF
      refine q_nmI (fun x33 e34 => ?_)
      replace hF := q_let e34 hF
      refine q_go C tk_L_begun [(90, 5)] [] (pc1 := 168) (σ1 := σ31) (lv1 := [(3, .int x26), (0, .ref 335), (1, .ref 220), (2, .int x3)]) (st1 := [.int 14, .int 35, .ref 335, .int 1, .ref 220, .int x33, .int x26]) rfl trivial ?_
      refine q_callS C hfl mw_L_in ms_L_in lk_L_114 (k_L_in 35 14 σ31 (((((((((((((((((hP.2 x1 e2) x3 e4).2 y6 σ5 e7).2 y9 σ8 e10).2 x11 e12).2 σ13 e14) x15 e16).2 x17 e18).1 c19).2 x20 e21).2 σ22 e23) x24 e25) x26 e27).2 x28 e29).1 c30).2 σ31 e32) x33 e34).1) (rest := [.int 1, .ref 220, .int x33, .int x26]) rfl rfl (q_dc (z := (168, .invokestatic 114, 3, 0, 0)) tk_L_begun 95 rfl) (Nat.le_of_ble_eq_true rfl) ⟨by omega, by omega⟩ ⟨by omega, by omega⟩ ?_
      refine q_nrm 171 [.int (F_L_in α 35 14 σ31), .int 1, .ref 220, .int x33, .int x26] (u1 + 33) (u2 + 198) rfl rfl (by omega) (by omega) ?_
      refine q_nmI (fun x35 e36 => ?_)
      replace hF := q_let e36 hF
      refine q_go C tk_L_begun [(96, 1)] [] (pc1 := 172) (σ1 := σ31) (lv1 := [(3, .int x26), (0, .ref 335), (1, .ref 220), (2, .int x3)]) (st1 := [.int (1 + x35), .ref 220, .int x33, .int x26]) rfl trivial ?_
      refine q_callW (n := 2) C hfl cw_run ⟨by decide +kernel, by decide +kernel, by decide +kernel⟩ q_init_QuillRelayLaw sw_run lk_L_130 (kw_run (1 + x35) σ31 ((((((((((((((((((hP.2 x1 e2) x3 e4).2 y6 σ5 e7).2 y9 σ8 e10).2 x11 e12).2 σ13 e14) x15 e16).2 x17 e18).1 c19).2 x20 e21).2 σ22 e23) x24 e25) x26 e27).2 x28 e29).1 c30).2 σ31 e32) x33 e34).2 x35 e36).1) (rest := [.int x33, .int x26]) rfl rfl (q_dc (z := (172, .invokestatic 130, 3, 0, 0)) tk_L_begun 97 rfl) (Nat.le_of_ble_eq_true rfl) ⟨by omega, by omega⟩ ⟨by omega, by omega⟩ ?_
      refine q_nrm 175 [.int (W_run (1 + x35) σ31).1, .int x33, .int x26] (u1 + 34) (u2 + 204) rfl rfl (by omega) (by omega) ?_
      refine q_nmM (fun σ37 e38 => ?_)
      replace hF := q_let e38 hF
      refine q_nmI (fun x39 e40 => ?_)
      replace hF := q_let e40 hF
      refine q_go C tk_L_begun [(98, 2), (101, 1)] [] (pc1 := 181) (σ1 := σ37) (lv1 := [(3, .int x26), (0, .ref 335), (1, .ref 220), (2, .int x3)]) (st1 := [.int (x26 + (x33 + x39))]) rfl trivial ?_
      refine q_nmI (fun x41 e42 => ?_)
      replace hF := q_let e42 hF
      refine q_go C tk_L_begun [(102, 1)] [] (pc1 := 182) (σ1 := σ37) (lv1 := [(3, .int x41), (0, .ref 335), (1, .ref 220), (2, .int x3)]) (st1 := []) rfl trivial ?_
      refine q_wdn (k1 := u1 + 34) (k2 := u2 + 204) (by omega) (by omega) ?_
      refine q_lvpick [2, 0] (lv' := [(1, .ref 220), (3, .int x41)]) rfl ?_
      exact hK _ _ hF.symm
    · rw [if_neg c30] at hF
      refine q_go C tk_L_begun [(87, 1), (100, 2)] [true] (pc1 := 181) (σ1 := σ22) (lv1 := [(3, .int x26), (0, .ref 335), (1, .ref 220), (2, .int x3)]) (st1 := [.int (x26 + 0)]) rfl ⟨c30, trivial⟩ ?_
      refine q_nmI (fun x43 e44 => ?_)
      replace hF := q_let e44 hF
      refine q_go C tk_L_begun [(102, 1)] [] (pc1 := 182) (σ1 := σ22) (lv1 := [(3, .int x43), (0, .ref 335), (1, .ref 220), (2, .int x3)]) (st1 := []) rfl trivial ?_
      refine q_wdn (k1 := u1 + 34) (k2 := u2 + 204) (by omega) (by omega) ?_
      refine q_lvpick [2, 0] (lv' := [(1, .ref 220), (3, .int x43)]) rfl ?_
      exact hK _ _ hF.symm
  · rw [if_neg c19] at hF
    refine q_go C tk_L_begun [(70, 1), (78, 3)] [true] (pc1 := 144) (σ1 := σ13) (lv1 := [(0, .ref 335), (1, .ref 220), (2, .int x3), (3, .int y9)]) (st1 := [.int (y9 + (x15 + 0))]) rfl ⟨c19, trivial⟩ ?_
    refine q_nmI (fun x45 e46 => ?_)
    replace hF := q_let e46 hF
    refine q_go C tk_L_begun [(81, 5)] [] (pc1 := 151) (σ1 := σ13) (lv1 := [(3, .int x45), (0, .ref 335), (1, .ref 220), (2, .int x3)]) (st1 := [.int 6, .int 34, .ref 335, .int x45]) rfl trivial ?_
    refine q_callS C hfl mw_L_in ms_L_in lk_L_114 (k_L_in 34 6 σ13 ((((((((((hP.2 x1 e2) x3 e4).2 y6 σ5 e7).2 y9 σ8 e10).2 x11 e12).2 σ13 e14) x15 e16).2 x17 e18).2 c19) x45 e46).1) (rest := [.int x45]) rfl rfl (q_dc (z := (151, .invokestatic 114, 3, 0, 0)) tk_L_begun 86 rfl) (Nat.le_of_ble_eq_true rfl) ⟨by omega, by omega⟩ ⟨by omega, by omega⟩ ?_
    refine q_nrm 154 [.int (F_L_in α 34 6 σ13), .int x45] (u1 + 30) (u2 + 180) rfl rfl (by omega) (by omega) ?_
    refine q_nmI (fun x47 e48 => ?_)
    replace hF := q_let e48 hF
    by_cases c49 : 0 < x47
    · rw [if_pos c49] at hF
      refine q_go C tk_L_begun [(87, 2)] [false] (pc1 := 158) (σ1 := σ13) (lv1 := [(3, .int x45), (0, .ref 335), (1, .ref 220), (2, .int x3)]) (st1 := [.ref 220, .int x45]) rfl ⟨c49, trivial⟩ ?_
      refine q_callW (n := 1) C hfl cw_start ⟨by decide +kernel, by decide +kernel, by decide +kernel⟩ q_init_QuillRelayLaw sw_start lk_L_128 (kw_start σ13 ((((((((((((hP.2 x1 e2) x3 e4).2 y6 σ5 e7).2 y9 σ8 e10).2 x11 e12).2 σ13 e14) x15 e16).2 x17 e18).2 c19) x45 e46).2 x47 e48).1 c49).1) (rest := [.int x45]) rfl rfl (q_dc (z := (158, .invokestatic 128, 3, 0, 0)) tk_L_begun 89 rfl) (Nat.le_of_ble_eq_true rfl) ⟨by omega, by omega⟩ ⟨by omega, by omega⟩ ?_
      refine q_nrm 161 [.int (W_start σ13).1, .int x45] (u1 + 31) (u2 + 186) rfl rfl (by omega) (by omega) ?_
      refine q_nmM (fun σ50 e51 => ?_)
      replace hF := q_let e51 hF
      refine q_nmI (fun x52 e53 => ?_)
      replace hF := q_let e53 hF
      refine q_go C tk_L_begun [(90, 5)] [] (pc1 := 168) (σ1 := σ50) (lv1 := [(3, .int x45), (0, .ref 335), (1, .ref 220), (2, .int x3)]) (st1 := [.int 14, .int 35, .ref 335, .int 1, .ref 220, .int x52, .int x45]) rfl trivial ?_
      refine q_callS C hfl mw_L_in ms_L_in lk_L_114 (k_L_in 35 14 σ50 ((((((((((((((hP.2 x1 e2) x3 e4).2 y6 σ5 e7).2 y9 σ8 e10).2 x11 e12).2 σ13 e14) x15 e16).2 x17 e18).2 c19) x45 e46).2 x47 e48).1 c49).2 σ50 e51) x52 e53).1) (rest := [.int 1, .ref 220, .int x52, .int x45]) rfl rfl (q_dc (z := (168, .invokestatic 114, 3, 0, 0)) tk_L_begun 95 rfl) (Nat.le_of_ble_eq_true rfl) ⟨by omega, by omega⟩ ⟨by omega, by omega⟩ ?_
      refine q_nrm 171 [.int (F_L_in α 35 14 σ50), .int 1, .ref 220, .int x52, .int x45] (u1 + 31) (u2 + 186) rfl rfl (by omega) (by omega) ?_
      refine q_nmI (fun x54 e55 => ?_)
      replace hF := q_let e55 hF
      refine q_go C tk_L_begun [(96, 1)] [] (pc1 := 172) (σ1 := σ50) (lv1 := [(3, .int x45), (0, .ref 335), (1, .ref 220), (2, .int x3)]) (st1 := [.int (1 + x54), .ref 220, .int x52, .int x45]) rfl trivial ?_
      refine q_callW (n := 2) C hfl cw_run ⟨by decide +kernel, by decide +kernel, by decide +kernel⟩ q_init_QuillRelayLaw sw_run lk_L_130 (kw_run (1 + x54) σ50 (((((((((((((((hP.2 x1 e2) x3 e4).2 y6 σ5 e7).2 y9 σ8 e10).2 x11 e12).2 σ13 e14) x15 e16).2 x17 e18).2 c19) x45 e46).2 x47 e48).1 c49).2 σ50 e51) x52 e53).2 x54 e55).1) (rest := [.int x52, .int x45]) rfl rfl (q_dc (z := (172, .invokestatic 130, 3, 0, 0)) tk_L_begun 97 rfl) (Nat.le_of_ble_eq_true rfl) ⟨by omega, by omega⟩ ⟨by omega, by omega⟩ ?_
      refine q_nrm 175 [.int (W_run (1 + x54) σ50).1, .int x52, .int x45] (u1 + 32) (u2 + 192) rfl rfl (by omega) (by omega) ?_
      refine q_nmM (fun σ56 e57 => ?_)
      replace hF := q_let e57 hF
      refine q_nmI (fun x58 e59 => ?_)
      replace hF := q_let e59 hF
      refine q_go C tk_L_begun [(98, 2), (101, 1)] [] (pc1 := 181) (σ1 := σ56) (lv1 := [(3, .int x45), (0, .ref 335), (1, .ref 220), (2, .int x3)]) (st1 := [.int (x45 + (x52 + x58))]) rfl trivial ?_
      refine q_nmI (fun x60 e61 => ?_)
      replace hF := q_let e61 hF
      refine q_go C tk_L_begun [(102, 1)] [] (pc1 := 182) (σ1 := σ56) (lv1 := [(3, .int x60), (0, .ref 335), (1, .ref 220), (2, .int x3)]) (st1 := []) rfl trivial ?_
      refine q_wdn (k1 := u1 + 34) (k2 := u2 + 204) (by omega) (by omega) ?_
      refine q_lvpick [2, 0] (lv' := [(1, .ref 220), (3, .int x60)]) rfl ?_
      exact hK _ _ hF.symm
    · rw [if_neg c49] at hF
      refine q_go C tk_L_begun [(87, 1), (100, 2)] [true] (pc1 := 181) (σ1 := σ13) (lv1 := [(3, .int x45), (0, .ref 335), (1, .ref 220), (2, .int x3)]) (st1 := [.int (x45 + 0)]) rfl ⟨c49, trivial⟩ ?_
      refine q_nmI (fun x62 e63 => ?_)
      replace hF := q_let e63 hF
      refine q_go C tk_L_begun [(102, 1)] [] (pc1 := 182) (σ1 := σ13) (lv1 := [(3, .int x62), (0, .ref 335), (1, .ref 220), (2, .int x3)]) (st1 := []) rfl trivial ?_
      refine q_wdn (k1 := u1 + 34) (k2 := u2 + 204) (by omega) (by omega) ?_
      refine q_lvpick [2, 0] (lv' := [(1, .ref 220), (3, .int x62)]) rfl ?_
      exact hK _ _ hF.symm
