/-! The law: 45.well. -/
def FL_L_isWell_103 (x19 : Int32) (x24 : Int32) (x29 : Int32) (v4 : Int32) (x4 : Int32) (x8 : Int32) (x10 : Int32) (x12 : Int32) : Nat → Int32 → Int32 → q_M → Int32
  | 0, v8, v10, τ => 0
  | nn + 1, v8, v10, τ => (if v10 < 4 then (q_L (W_splitOf v4 v10 τ) (fun x73 : Int32 => (q_L (if v10 < x4 then 1 else (if v10 = 3 then (if x12 < 0 then 0 else 1) else 0)) (fun x78 : Int32 => (q_L (if x73 < 0 then 0 else x73) (fun x81 : Int32 => (q_L (v8 + x81) (fun x83 : Int32 => (q_L (if x73 < 0 then 0 else 1) (fun x86 : Int32 => (FL_L_isWell_103 x19 x24 x29 v4 x4 x8 x10 x12 nn x83 (v10 + 1) τ))))))))))) else v8)
def PL_L_isWell_103 (x19 : Int32) (x24 : Int32) (x29 : Int32) (v4 : Int32) (x4 : Int32) (x8 : Int32) (x10 : Int32) (x12 : Int32) : Nat → Int32 → Int32 → q_M → Prop
  | 0, v8, v10, τ => False
  | nn + 1, v8, v10, τ => ((v10 < 4 → ((Q_splitOf v4 v10 τ) ∧ (∀ x73 : Int32, (W_splitOf v4 v10 τ) = x73 → (True ∧ (∀ x78 : Int32, (if v10 < x4 then 1 else (if v10 = 3 then (if x12 < 0 then 0 else 1) else 0)) = x78 → (True ∧ (∀ x81 : Int32, (if x73 < 0 then 0 else x73) = x81 → (∀ x83 : Int32, (v8 + x81) = x83 → (True ∧ (∀ x86 : Int32, (if x73 < 0 then 0 else 1) = x86 → (x86 = x78 ∧ (PL_L_isWell_103 x19 x24 x29 v4 x4 x8 x10 x12 nn x83 (v10 + 1) τ)))))))))))) ∧ (¬ v10 < 4 → True))
set_option maxRecDepth 100000 in
theorem kl_L_isWell_103 {α β : Nat → Nat} {D : va_G} {κ : Nat → ClassId} (x19 : Int32) (x24 : Int32) (x29 : Int32) (v4 : Int32) (x4 : Int32) (x8 : Int32) (x10 : Int32) (x12 : Int32) {p : Program} {l : Launch} {e : Env} {R : Room} {s : State} {m : MethodId} {args : Array Value} {below : List Frame} {meth : Method} {c : Code} {A : Nat → Prop} {Q : State → Prop} (hfl : l.flags = flags0) (C : q_Cx α β D κ p s m args meth c cL_isWell RL (fun _ => none) (fun _ => none) 13 A) (hRf : 12 ≤ R.frames) (hRl : 222 ≤ R.locals) (T1 T2 : Nat) (hT1 : T1 ≤ R.cells) (hT2 : T2 ≤ R.slots) : ∀ (nn : Nat) (v8 : Int32) (v10 : Int32) (τ : q_M) (u1 u2 : Nat), u1 + 3 * nn ≤ T1 → u2 + 18 * nn ≤ T2 → PL_L_isWell_103 x19 x24 x29 v4 x4 x8 x10 x12 nn v8 v10 τ → (∀ xo9 : Int32, FL_L_isWell_103 x19 x24 x29 v4 x4 x8 x10 x12 nn v8 v10 τ = xo9 → q_St α β D κ p l e R s m args below meth c 13 A Q T1 T2 τ [(0, .ref 220), (1, .int x19), (2, .int x24), (3, .int x29), (4, .int v4), (5, .int x4), (6, .int x8), (7, .int x10), (9, .int x12), (8, .int xo9)] 183 []) → q_St α β D κ p l e R s m args below meth c 13 A Q u1 u2 τ [(0, .ref 220), (1, .int x19), (2, .int x24), (3, .int x29), (4, .int v4), (5, .int x4), (6, .int x8), (7, .int x10), (8, .int v8), (9, .int x12), (10, .int v10)] 103 [] := by
  intro nn
  induction nn with
  | zero => intro v8 v10 τ u1 u2 hu1 hu2 hP; exact hP.elim
  | succ nn ih =>
    intro v8 v10 τ u1 u2 hu1 hu2 hP hK
    generalize hF : FL_L_isWell_103 x19 x24 x29 v4 x4 x8 x10 x12 (nn + 1) v8 v10 τ = rr at hK
    unfold FL_L_isWell_103 at hF
    refine q_go C tk_L_isWell [(61, 2)] [] (pc1 := 106) (σ1 := τ) (lv1 := [(0, .ref 220), (1, .int x19), (2, .int x24), (3, .int x29), (4, .int v4), (5, .int x4), (6, .int x8), (7, .int x10), (8, .int v8), (9, .int x12), (10, .int v10)]) (st1 := [.int 4, .int v10]) rfl trivial ?_
    by_cases c72 : v10 < 4
    · rw [if_pos c72] at hF
      refine q_go C tk_L_isWell [(63, 4)] [false] (pc1 := 114) (σ1 := τ) (lv1 := [(0, .ref 220), (1, .int x19), (2, .int x24), (3, .int x29), (4, .int v4), (5, .int x4), (6, .int x8), (7, .int x10), (8, .int v8), (9, .int x12), (10, .int v10)]) (st1 := [.int v10, .int v4, .ref 220]) rfl ⟨c72, trivial⟩ ?_
      refine q_callW (n := 3) C hfl cw_splitOf ⟨by decide +kernel, by decide +kernel, by decide +kernel⟩ q_init_QuillRelayLaw sw_splitOf lk_L_214 (kw_splitOf v4 v10 τ (hP.1 c72).1) (rest := []) rfl rfl (q_dc (z := (114, .invokestatic 214, 3, 0, 0)) tk_L_isWell 67 rfl) (Nat.le_of_ble_eq_true rfl) ⟨by omega, by omega⟩ ⟨by omega, by omega⟩ ?_
      refine q_nrm 117 [.int (W_splitOf v4 v10 τ)] (u1 + 3) (u2 + 18) rfl rfl (by omega) (by omega) ?_
      refine q_nmI (fun x73 e74 => ?_)
      replace hF := q_let e74 hF
      refine q_go C tk_L_isWell [(68, 3)] [] (pc1 := 123) (σ1 := τ) (lv1 := [(11, .int x73), (0, .ref 220), (1, .int x19), (2, .int x24), (3, .int x29), (4, .int v4), (5, .int x4), (6, .int x8), (7, .int x10), (8, .int v8), (9, .int x12), (10, .int v10)]) (st1 := [.int x4, .int v10]) rfl trivial ?_
      refine q_mrgW (v := (if v10 < x4 then 1 else (if v10 = 3 then (if x12 < 0 then 0 else 1) else 0))) (M := 142) (σ1 := τ) (lv1 := [(11, .int x73), (0, .ref 220), (1, .int x19), (2, .int x24), (3, .int x29), (4, .int v4), (5, .int x4), (6, .int x8), (7, .int x10), (8, .int v8), (9, .int x12), (10, .int v10)]) (st1 := []) (k1 := (u1 + 3)) (k2 := (u2 + 18)) (fun x78 e79 => ?_) (fun K => ?_)
      · replace hF := q_let e79 hF
        refine q_go C tk_L_isWell [(80, 3)] [] (pc1 := 148) (σ1 := τ) (lv1 := [(12, .int x78), (11, .int x73), (0, .ref 220), (1, .int x19), (2, .int x24), (3, .int x29), (4, .int v4), (5, .int x4), (6, .int x8), (7, .int x10), (8, .int v8), (9, .int x12), (10, .int v10)]) (st1 := [.int x73, .int v8]) rfl trivial ?_
        refine q_mrgW (v := (if x73 < 0 then 0 else x73)) (M := 157) (σ1 := τ) (lv1 := [(12, .int x78), (11, .int x73), (0, .ref 220), (1, .int x19), (2, .int x24), (3, .int x29), (4, .int v4), (5, .int x4), (6, .int x8), (7, .int x10), (8, .int v8), (9, .int x12), (10, .int v10)]) (st1 := [.int v8]) (k1 := (u1 + 3)) (k2 := (u2 + 18)) (fun x81 e82 => ?_) (fun K => ?_)
        · replace hF := q_let e82 hF
          refine q_go C tk_L_isWell [(87, 1)] [] (pc1 := 158) (σ1 := τ) (lv1 := [(12, .int x78), (11, .int x73), (0, .ref 220), (1, .int x19), (2, .int x24), (3, .int x29), (4, .int v4), (5, .int x4), (6, .int x8), (7, .int x10), (8, .int v8), (9, .int x12), (10, .int v10)]) (st1 := [.int (v8 + x81)]) rfl trivial ?_
          refine q_nmI (fun x83 e84 => ?_)
          replace hF := q_let e84 hF
          refine q_go C tk_L_isWell [(88, 2)] [] (pc1 := 162) (σ1 := τ) (lv1 := [(8, .int x83), (12, .int x78), (11, .int x73), (0, .ref 220), (1, .int x19), (2, .int x24), (3, .int x29), (4, .int v4), (5, .int x4), (6, .int x8), (7, .int x10), (9, .int x12), (10, .int v10)]) (st1 := [.int x73]) rfl trivial ?_
          refine q_mrgW (v := (if x73 < 0 then 0 else 1)) (M := 170) (σ1 := τ) (lv1 := [(8, .int x83), (12, .int x78), (11, .int x73), (0, .ref 220), (1, .int x19), (2, .int x24), (3, .int x29), (4, .int v4), (5, .int x4), (6, .int x8), (7, .int x10), (9, .int x12), (10, .int v10)]) (st1 := []) (k1 := (u1 + 3)) (k2 := (u2 + 18)) (fun x86 e87 => ?_) (fun K => ?_)
          · replace hF := q_let e87 hF
            refine q_go C tk_L_isWell [(94, 1)] [] (pc1 := 172) (σ1 := τ) (lv1 := [(8, .int x83), (12, .int x78), (11, .int x73), (0, .ref 220), (1, .int x19), (2, .int x24), (3, .int x29), (4, .int v4), (5, .int x4), (6, .int x8), (7, .int x10), (9, .int x12), (10, .int v10)]) (st1 := [.int x78, .int x86]) rfl trivial ?_
            refine q_go C tk_L_isWell [(95, 1)] [true] (pc1 := 177) (σ1 := τ) (lv1 := [(8, .int x83), (12, .int x78), (11, .int x73), (0, .ref 220), (1, .int x19), (2, .int x24), (3, .int x29), (4, .int v4), (5, .int x4), (6, .int x8), (7, .int x10), (9, .int x12), (10, .int v10)]) (st1 := []) rfl ⟨((((((hP.1 c72).2 x73 e74).2 x78 e79).2 x81 e82) x83 e84).2 x86 e87).1, trivial⟩ ?_
            refine q_go C tk_L_isWell [(98, 2)] [] (pc1 := 103) (σ1 := τ) (lv1 := [(10, .int (v10 + 1)), (8, .int x83), (12, .int x78), (11, .int x73), (0, .ref 220), (1, .int x19), (2, .int x24), (3, .int x29), (4, .int v4), (5, .int x4), (6, .int x8), (7, .int x10), (9, .int x12)]) (st1 := []) rfl trivial ?_
            refine q_lvpick [4, 5, 6, 7, 8, 9, 10, 11, 1, 12, 0] (lv' := [(0, .ref 220), (1, .int x19), (2, .int x24), (3, .int x29), (4, .int v4), (5, .int x4), (6, .int x8), (7, .int x10), (8, .int x83), (9, .int x12), (10, .int (v10 + 1))]) rfl ?_
            exact ih x83 (v10 + 1) τ (u1 + 3) (u2 + 18) (by omega) (by omega) ((((((hP.1 c72).2 x73 e74).2 x78 e79).2 x81 e82) x83 e84).2 x86 e87).2 (by rw [hF]; exact hK)
          · clear hF
            by_cases c85 : x73 < 0
            · skip
              refine q_go C tk_L_isWell [(90, 1), (93, 1)] [true] (pc1 := 170) (σ1 := τ) (lv1 := [(8, .int x83), (12, .int x78), (11, .int x73), (0, .ref 220), (1, .int x19), (2, .int x24), (3, .int x29), (4, .int v4), (5, .int x4), (6, .int x8), (7, .int x10), (9, .int x12), (10, .int v10)]) (st1 := [.int 0]) rfl ⟨c85, trivial⟩ ?_
              rw [if_pos c85] at K; exact q_wdn (by omega) (by omega) K
            · skip
              refine q_go C tk_L_isWell [(90, 3)] [false] (pc1 := 170) (σ1 := τ) (lv1 := [(8, .int x83), (12, .int x78), (11, .int x73), (0, .ref 220), (1, .int x19), (2, .int x24), (3, .int x29), (4, .int v4), (5, .int x4), (6, .int x8), (7, .int x10), (9, .int x12), (10, .int v10)]) (st1 := [.int 1]) rfl ⟨c85, trivial⟩ ?_
              rw [if_neg c85] at K; exact q_wdn (by omega) (by omega) K
        · clear hF
          by_cases c80 : x73 < 0
          · skip
            refine q_go C tk_L_isWell [(83, 1), (86, 1)] [true] (pc1 := 157) (σ1 := τ) (lv1 := [(12, .int x78), (11, .int x73), (0, .ref 220), (1, .int x19), (2, .int x24), (3, .int x29), (4, .int v4), (5, .int x4), (6, .int x8), (7, .int x10), (8, .int v8), (9, .int x12), (10, .int v10)]) (st1 := [.int 0, .int v8]) rfl ⟨c80, trivial⟩ ?_
            rw [if_pos c80] at K; exact q_wdn (by omega) (by omega) K
          · skip
            refine q_go C tk_L_isWell [(83, 3)] [false] (pc1 := 157) (σ1 := τ) (lv1 := [(12, .int x78), (11, .int x73), (0, .ref 220), (1, .int x19), (2, .int x24), (3, .int x29), (4, .int v4), (5, .int x4), (6, .int x8), (7, .int x10), (8, .int v8), (9, .int x12), (10, .int v10)]) (st1 := [.int x73, .int v8]) rfl ⟨c80, trivial⟩ ?_
            rw [if_neg c80] at K; exact q_wdn (by omega) (by omega) K
      · clear hF
        by_cases c75 : v10 < x4
        · skip
          refine q_go C tk_L_isWell [(71, 1), (77, 2)] [true] (pc1 := 142) (σ1 := τ) (lv1 := [(11, .int x73), (0, .ref 220), (1, .int x19), (2, .int x24), (3, .int x29), (4, .int v4), (5, .int x4), (6, .int x8), (7, .int x10), (8, .int v8), (9, .int x12), (10, .int v10)]) (st1 := [.int 1]) rfl ⟨c75, trivial⟩ ?_
          rw [if_pos c75] at K; exact q_wdn (by omega) (by omega) K
        · skip
          refine q_go C tk_L_isWell [(71, 3)] [false] (pc1 := 129) (σ1 := τ) (lv1 := [(11, .int x73), (0, .ref 220), (1, .int x19), (2, .int x24), (3, .int x29), (4, .int v4), (5, .int x4), (6, .int x8), (7, .int x10), (8, .int v8), (9, .int x12), (10, .int v10)]) (st1 := [.int 3, .int v10]) rfl ⟨c75, trivial⟩ ?_
          by_cases c76 : v10 = 3
          · skip
            refine q_go C tk_L_isWell [(74, 2)] [false] (pc1 := 134) (σ1 := τ) (lv1 := [(11, .int x73), (0, .ref 220), (1, .int x19), (2, .int x24), (3, .int x29), (4, .int v4), (5, .int x4), (6, .int x8), (7, .int x10), (8, .int v8), (9, .int x12), (10, .int v10)]) (st1 := [.int x12]) rfl ⟨c76, trivial⟩ ?_
            by_cases c77 : x12 < 0
            · skip
              refine q_go C tk_L_isWell [(76, 1), (79, 1)] [true] (pc1 := 142) (σ1 := τ) (lv1 := [(11, .int x73), (0, .ref 220), (1, .int x19), (2, .int x24), (3, .int x29), (4, .int v4), (5, .int x4), (6, .int x8), (7, .int x10), (8, .int v8), (9, .int x12), (10, .int v10)]) (st1 := [.int 0]) rfl ⟨c77, trivial⟩ ?_
              rw [if_neg c75, if_pos c76, if_pos c77] at K; exact q_wdn (by omega) (by omega) K
            · skip
              refine q_go C tk_L_isWell [(76, 3)] [false] (pc1 := 142) (σ1 := τ) (lv1 := [(11, .int x73), (0, .ref 220), (1, .int x19), (2, .int x24), (3, .int x29), (4, .int v4), (5, .int x4), (6, .int x8), (7, .int x10), (8, .int v8), (9, .int x12), (10, .int v10)]) (st1 := [.int 1]) rfl ⟨c77, trivial⟩ ?_
              rw [if_neg c75, if_pos c76, if_neg c77] at K; exact q_wdn (by omega) (by omega) K
          · skip
            refine q_go C tk_L_isWell [(74, 1), (79, 1)] [true] (pc1 := 142) (σ1 := τ) (lv1 := [(11, .int x73), (0, .ref 220), (1, .int x19), (2, .int x24), (3, .int x29), (4, .int v4), (5, .int x4), (6, .int x8), (7, .int x10), (8, .int v8), (9, .int x12), (10, .int v10)]) (st1 := [.int 0]) rfl ⟨c76, trivial⟩ ?_
            rw [if_neg c75, if_neg c76] at K; exact q_wdn (by omega) (by omega) K
    · rw [if_neg c72] at hF
      refine q_go C tk_L_isWell [(63, 1)] [true] (pc1 := 183) (σ1 := τ) (lv1 := [(0, .ref 220), (1, .int x19), (2, .int x24), (3, .int x29), (4, .int v4), (5, .int x4), (6, .int x8), (7, .int x10), (8, .int v8), (9, .int x12), (10, .int v10)]) (st1 := []) rfl ⟨c72, trivial⟩ ?_
      refine q_wdn (k1 := T1) (k2 := T2) (by omega) (by omega) (q_lvpick [0, 1, 2, 3, 4, 5, 6, 7, 9, 8] (lv' := [(0, .ref 220), (1, .int x19), (2, .int x24), (3, .int x29), (4, .int v4), (5, .int x4), (6, .int x8), (7, .int x10), (9, .int x12), (8, .int v8)]) rfl ?_)
      exact hK _ hF.symm
def FL_L_isWell_222 (x19 : Int32) (x24 : Int32) (x29 : Int32) (v4 : Int32) (x4 : Int32) (x8 : Int32) (x10 : Int32) (y32 : Int32) (x12 : Int32) (x37 : Int32) : Nat → Int32 → Int32 → q_M → Int32
  | 0, v11, v12, τ => 0
  | nn + 1, v11, v12, τ => (q_L (F_X8_teamCount τ) (fun x88 : Int32 => (if v12 < x88 then (q_L (if v12 = v4 then 0 else (if (F_L_isAhead v12 v4 τ) = 0 then 0 else 1)) (fun x93 : Int32 => (q_L (v11 + x93) (fun x95 : Int32 => (FL_L_isWell_222 x19 x24 x29 v4 x4 x8 x10 y32 x12 x37 nn x95 (v12 + 1) τ))))) else v11)))
def PL_L_isWell_222 (x19 : Int32) (x24 : Int32) (x29 : Int32) (v4 : Int32) (x4 : Int32) (x8 : Int32) (x10 : Int32) (y32 : Int32) (x12 : Int32) (x37 : Int32) : Nat → Int32 → Int32 → q_M → Prop
  | 0, v11, v12, τ => False
  | nn + 1, v11, v12, τ => ((P_X8_teamCount τ) ∧ (∀ x88 : Int32, (F_X8_teamCount τ) = x88 → ((v12 < x88 → (((v12 = v4 → True) ∧ (¬ v12 = v4 → ((P_L_isAhead v12 v4 τ) ∧ True))) ∧ (∀ x93 : Int32, (if v12 = v4 then 0 else (if (F_L_isAhead v12 v4 τ) = 0 then 0 else 1)) = x93 → (∀ x95 : Int32, (v11 + x93) = x95 → (PL_L_isWell_222 x19 x24 x29 v4 x4 x8 x10 y32 x12 x37 nn x95 (v12 + 1) τ))))) ∧ (¬ v12 < x88 → True))))
set_option maxRecDepth 100000 in
theorem kl_L_isWell_222 {α β : Nat → Nat} {D : va_G} {κ : Nat → ClassId} (x19 : Int32) (x24 : Int32) (x29 : Int32) (v4 : Int32) (x4 : Int32) (x8 : Int32) (x10 : Int32) (y32 : Int32) (x12 : Int32) (x37 : Int32) {p : Program} {l : Launch} {e : Env} {R : Room} {s : State} {m : MethodId} {args : Array Value} {below : List Frame} {meth : Method} {c : Code} {A : Nat → Prop} {Q : State → Prop} (hfl : l.flags = flags0) (C : q_Cx α β D κ p s m args meth c cL_isWell RL (fun _ => none) (fun _ => none) 13 A) (hRf : 12 ≤ R.frames) (hRl : 222 ≤ R.locals) (T1 T2 : Nat) (hT1 : T1 ≤ R.cells) (hT2 : T2 ≤ R.slots) : ∀ (nn : Nat) (v11 : Int32) (v12 : Int32) (τ : q_M) (u1 u2 : Nat), u1 + 15 * nn ≤ T1 → u2 + 90 * nn ≤ T2 → PL_L_isWell_222 x19 x24 x29 v4 x4 x8 x10 y32 x12 x37 nn v11 v12 τ → (∀ xo9 : Int32, FL_L_isWell_222 x19 x24 x29 v4 x4 x8 x10 y32 x12 x37 nn v11 v12 τ = xo9 → q_St α β D κ p l e R s m args below meth c 13 A Q T1 T2 τ [(0, .ref 220), (1, .int x19), (2, .int x24), (3, .int x29), (4, .int v4), (5, .int x4), (6, .int x8), (7, .int x10), (8, .int y32), (9, .int x12), (10, .int x37), (11, .int xo9)] 265 []) → q_St α β D κ p l e R s m args below meth c 13 A Q u1 u2 τ [(0, .ref 220), (1, .int x19), (2, .int x24), (3, .int x29), (4, .int v4), (5, .int x4), (6, .int x8), (7, .int x10), (8, .int y32), (9, .int x12), (10, .int x37), (11, .int v11), (12, .int v12)] 222 [] := by
  intro nn
  induction nn with
  | zero => intro v11 v12 τ u1 u2 hu1 hu2 hP; exact hP.elim
  | succ nn ih =>
    intro v11 v12 τ u1 u2 hu1 hu2 hP hK
    generalize hF : FL_L_isWell_222 x19 x24 x29 v4 x4 x8 x10 y32 x12 x37 (nn + 1) v11 v12 τ = rr at hK
    unfold FL_L_isWell_222 at hF
    refine q_go C tk_L_isWell [(121, 2)] [] (pc1 := 225) (σ1 := τ) (lv1 := [(0, .ref 220), (1, .int x19), (2, .int x24), (3, .int x29), (4, .int v4), (5, .int x4), (6, .int x8), (7, .int x10), (8, .int y32), (9, .int x12), (10, .int x37), (11, .int v11), (12, .int v12)]) (st1 := [.ref 220, .int v12]) rfl trivial ?_
    refine q_callV C hfl mw_X8_teamCount mi_X8_teamCount me_X8_teamCount lk_L_137 (k_X8_teamCount τ hP.1) (rest := [.int v12]) rfl rfl rfl (by decide) (by decide) rfl (q_dc (z := (225, .invokevirtual 137, 3, 0, 0)) tk_L_isWell 123 rfl) (Nat.le_of_ble_eq_true rfl) ⟨by omega, by omega⟩ ⟨by omega, by omega⟩ ?_
    refine q_nrm 228 [.int (F_X8_teamCount τ), .int v12] (u1 + 0) (u2 + 0) rfl rfl (by omega) (by omega) ?_
    refine q_nmI (fun x88 e89 => ?_)
    replace hF := q_let e89 hF
    by_cases c90 : v12 < x88
    · rw [if_pos c90] at hF
      refine q_go C tk_L_isWell [(124, 4)] [false] (pc1 := 237) (σ1 := τ) (lv1 := [(0, .ref 220), (1, .int x19), (2, .int x24), (3, .int x29), (4, .int v4), (5, .int x4), (6, .int x8), (7, .int x10), (8, .int y32), (9, .int x12), (10, .int x37), (11, .int v11), (12, .int v12)]) (st1 := [.int v4, .int v12, .int v11]) rfl ⟨c90, trivial⟩ ?_
      refine q_mrgW (v := (if v12 = v4 then 0 else (if (F_L_isAhead v12 v4 τ) = 0 then 0 else 1))) (M := 256) (σ1 := τ) (lv1 := [(0, .ref 220), (1, .int x19), (2, .int x24), (3, .int x29), (4, .int v4), (5, .int x4), (6, .int x8), (7, .int x10), (8, .int y32), (9, .int x12), (10, .int x37), (11, .int v11), (12, .int v12)]) (st1 := [.int v11]) (k1 := (u1 + 15)) (k2 := (u2 + 90)) (fun x93 e94 => ?_) (fun K => ?_)
      · replace hF := q_let e94 hF
        refine q_go C tk_L_isWell [(137, 1)] [] (pc1 := 257) (σ1 := τ) (lv1 := [(0, .ref 220), (1, .int x19), (2, .int x24), (3, .int x29), (4, .int v4), (5, .int x4), (6, .int x8), (7, .int x10), (8, .int y32), (9, .int x12), (10, .int x37), (11, .int v11), (12, .int v12)]) (st1 := [.int (v11 + x93)]) rfl trivial ?_
        refine q_nmI (fun x95 e96 => ?_)
        replace hF := q_let e96 hF
        refine q_go C tk_L_isWell [(138, 3)] [] (pc1 := 222) (σ1 := τ) (lv1 := [(12, .int (v12 + 1)), (11, .int x95), (0, .ref 220), (1, .int x19), (2, .int x24), (3, .int x29), (4, .int v4), (5, .int x4), (6, .int x8), (7, .int x10), (8, .int y32), (9, .int x12), (10, .int x37)]) (st1 := []) rfl trivial ?_
        refine q_lvpick [2, 3, 4, 5, 6, 7, 8, 9, 10, 11, 12, 1, 0] (lv' := [(0, .ref 220), (1, .int x19), (2, .int x24), (3, .int x29), (4, .int v4), (5, .int x4), (6, .int x8), (7, .int x10), (8, .int y32), (9, .int x12), (10, .int x37), (11, .int x95), (12, .int (v12 + 1))]) rfl ?_
        exact ih x95 (v12 + 1) τ (u1 + 15) (u2 + 90) (by omega) (by omega) ((((hP.2 x88 e89).1 c90).2 x93 e94) x95 e96) (by rw [hF]; exact hK)
      · clear hF
        by_cases c91 : v12 = v4
        · skip
          refine q_go C tk_L_isWell [(128, 1), (136, 1)] [true] (pc1 := 256) (σ1 := τ) (lv1 := [(0, .ref 220), (1, .int x19), (2, .int x24), (3, .int x29), (4, .int v4), (5, .int x4), (6, .int x8), (7, .int x10), (8, .int y32), (9, .int x12), (10, .int x37), (11, .int v11), (12, .int v12)]) (st1 := [.int 0, .int v11]) rfl ⟨c91, trivial⟩ ?_
          rw [if_pos c91] at K; exact q_wdn (by omega) (by omega) K
        · skip
          refine q_go C tk_L_isWell [(128, 4)] [false] (pc1 := 245) (σ1 := τ) (lv1 := [(0, .ref 220), (1, .int x19), (2, .int x24), (3, .int x29), (4, .int v4), (5, .int x4), (6, .int x8), (7, .int x10), (8, .int y32), (9, .int x12), (10, .int x37), (11, .int v11), (12, .int v12)]) (st1 := [.int v4, .int v12, .ref 220, .int v11]) rfl ⟨c91, trivial⟩ ?_
          refine q_callS C hfl mw_L_isAhead ms_L_isAhead lk_L_224 (k_L_isAhead v12 v4 τ (((hP.2 x88 e89).1 c90).1.2 c91).1) (rest := [.int v11]) rfl rfl (q_dc (z := (245, .invokestatic 224, 3, 0, 0)) tk_L_isWell 132 rfl) (Nat.le_of_ble_eq_true rfl) ⟨by omega, by omega⟩ ⟨by omega, by omega⟩ ?_
          refine q_nrm 248 [.int (F_L_isAhead v12 v4 τ), .int v11] (u1 + 15) (u2 + 90) rfl rfl (by omega) (by omega) ?_
          by_cases c92 : (F_L_isAhead v12 v4 τ) = 0
          · skip
            refine q_go C tk_L_isWell [(133, 1), (136, 1)] [true] (pc1 := 256) (σ1 := τ) (lv1 := [(0, .ref 220), (1, .int x19), (2, .int x24), (3, .int x29), (4, .int v4), (5, .int x4), (6, .int x8), (7, .int x10), (8, .int y32), (9, .int x12), (10, .int x37), (11, .int v11), (12, .int v12)]) (st1 := [.int 0, .int v11]) rfl ⟨c92, trivial⟩ ?_
            rw [if_neg c91, if_pos c92] at K; exact q_wdn (by omega) (by omega) K
          · skip
            refine q_go C tk_L_isWell [(133, 3)] [false] (pc1 := 256) (σ1 := τ) (lv1 := [(0, .ref 220), (1, .int x19), (2, .int x24), (3, .int x29), (4, .int v4), (5, .int x4), (6, .int x8), (7, .int x10), (8, .int y32), (9, .int x12), (10, .int x37), (11, .int v11), (12, .int v12)]) (st1 := [.int 1, .int v11]) rfl ⟨c92, trivial⟩ ?_
            rw [if_neg c91, if_neg c92] at K; exact q_wdn (by omega) (by omega) K
    · rw [if_neg c90] at hF
      refine q_go C tk_L_isWell [(124, 1)] [true] (pc1 := 265) (σ1 := τ) (lv1 := [(0, .ref 220), (1, .int x19), (2, .int x24), (3, .int x29), (4, .int v4), (5, .int x4), (6, .int x8), (7, .int x10), (8, .int y32), (9, .int x12), (10, .int x37), (11, .int v11), (12, .int v12)]) (st1 := []) rfl ⟨c90, trivial⟩ ?_
      refine q_wdn (k1 := T1) (k2 := T2) (by omega) (by omega) (q_lvpick [0, 1, 2, 3, 4, 5, 6, 7, 8, 9, 10, 11] (lv' := [(0, .ref 220), (1, .int x19), (2, .int x24), (3, .int x29), (4, .int v4), (5, .int x4), (6, .int x8), (7, .int x10), (8, .int y32), (9, .int x12), (10, .int x37), (11, .int v11)]) rfl ?_)
      exact hK _ hF.symm
def FL_L_isWell_9  : Nat → Int32 → Int32 → Int32 → Int32 → q_M → Int32
  | 0, v1, v2, v3, v4, τ => 0
  | nn + 1, v1, v2, v3, v4, τ => (q_L (F_X8_teamCount τ) (fun x1 : Int32 => (if v4 < x1 then (q_L (F_N8_legOf v4 τ) (fun x4 : Int32 => (q_L (F_X8_length τ) (fun x6 : Int32 => (q_L ((x4 + 1) * x6) (fun x8 : Int32 => (q_L (F_N8_positionOf v4 τ) (fun x10 : Int32 => (q_L (W_timeOf v4 τ) (fun x12 : Int32 => (q_L (F_N8_isRunning v4 τ) (fun x14 : Int32 => (q_L (if x14 = 0 then 0 else 1) (fun x17 : Int32 => (q_L (v1 + x17) (fun x19 : Int32 => (q_L (if x12 < 0 then 0 else 1) (fun x22 : Int32 => (q_L (v2 + x22) (fun x24 : Int32 => (q_L (if x12 < 0 then 0 else x12) (fun x27 : Int32 => (q_L (v3 + x27) (fun x29 : Int32 => (q_L (FL_L_isWell_103 x19 x24 x29 v4 x4 x8 x10 x12 5 0 0 τ) (fun y32 : Int32 => (q_L (if x4 < 3 then (if x10 < (x8 - 100) then 0 else (if (x8 + 100) < x10 then 0 else 1)) else 0) (fun x37 : Int32 => (q_L (FL_L_isWell_222 x19 x24 x29 v4 x4 x8 x10 y32 x12 x37 7 0 0 τ) (fun y40 : Int32 => (q_L (F_N8_isInZone v4 τ) (fun x42 : Int32 => (q_L (F_N8_splitSum v4 τ) (fun x46 : Int32 => (q_L (F_X8_clock τ) (fun x49 : Int32 => (q_L (F_N8_rankOf v4 τ) (fun x51 : Int32 => (q_L (W_teamAtRank y40 τ) (fun x53 : Int32 => (q_L (F_N8_laneOf v4 τ) (fun x55 : Int32 => (q_L (W_teamInLane x55 τ) (fun x57 : Int32 => (q_L (F_N8_penaltyOf v4 τ) (fun x59 : Int32 => (FL_L_isWell_9  nn x19 x24 x29 (v4 + 1) τ))))))))))))))))))))))))))))))))))))))))))))))) else (q_L (F_X8_runningCount τ) (fun x61 : Int32 => (q_L (F_X8_isFinished τ) (fun x63 : Int32 => (q_L (F_X8_isStarted τ) (fun x65 : Int32 => (q_L (if x65 = 0 then 0 else (if v1 = 0 then 1 else 0)) (fun x69 : Int32 => (if v2 = 0 then 1 else 1))))))))))))
def PL_L_isWell_9  : Nat → Int32 → Int32 → Int32 → Int32 → q_M → Prop
  | 0, v1, v2, v3, v4, τ => False
  | nn + 1, v1, v2, v3, v4, τ => ((P_X8_teamCount τ) ∧ (∀ x1 : Int32, (F_X8_teamCount τ) = x1 → ((v4 < x1 → ((P_N8_legOf v4 τ) ∧ (∀ x4 : Int32, (F_N8_legOf v4 τ) = x4 → (∀ x6 : Int32, (F_X8_length τ) = x6 → (∀ x8 : Int32, ((x4 + 1) * x6) = x8 → ((P_N8_positionOf v4 τ) ∧ (∀ x10 : Int32, (F_N8_positionOf v4 τ) = x10 → ((Q_timeOf v4 τ) ∧ (∀ x12 : Int32, (W_timeOf v4 τ) = x12 → ((P_N8_isRunning v4 τ) ∧ (∀ x14 : Int32, (F_N8_isRunning v4 τ) = x14 → (True ∧ (∀ x17 : Int32, (if x14 = 0 then 0 else 1) = x17 → (∀ x19 : Int32, (v1 + x17) = x19 → (True ∧ (∀ x22 : Int32, (if x12 < 0 then 0 else 1) = x22 → (∀ x24 : Int32, (v2 + x22) = x24 → (True ∧ (∀ x27 : Int32, (if x12 < 0 then 0 else x12) = x27 → (∀ x29 : Int32, (v3 + x27) = x29 → ((PL_L_isWell_103 x19 x24 x29 v4 x4 x8 x10 x12 5 0 0 τ) ∧ (∀ (y32 : Int32), (FL_L_isWell_103 x19 x24 x29 v4 x4 x8 x10 x12 5 0 0 τ) = y32 → (True ∧ (∀ x37 : Int32, (if x4 < 3 then (if x10 < (x8 - 100) then 0 else (if (x8 + 100) < x10 then 0 else 1)) else 0) = x37 → ((PL_L_isWell_222 x19 x24 x29 v4 x4 x8 x10 y32 x12 x37 7 0 0 τ) ∧ (∀ (y40 : Int32), (FL_L_isWell_222 x19 x24 x29 v4 x4 x8 x10 y32 x12 x37 7 0 0 τ) = y40 → ((P_N8_isInZone v4 τ) ∧ (∀ x42 : Int32, (F_N8_isInZone v4 τ) = x42 → (x42 = x37 ∧ (((x4 < 3 → (¬ (x8 + 300) < x10 ∧ True)) ∧ (¬ x4 < 3 → True)) ∧ (((0 < x4 → (¬ x10 < ((x8 - (F_X8_length τ)) - 100) ∧ True)) ∧ (¬ 0 < x4 → True)) ∧ ((P_N8_splitSum v4 τ) ∧ (∀ x46 : Int32, (F_N8_splitSum v4 τ) = x46 → (x46 = y32 ∧ (((x12 < 0 → True) ∧ (¬ x12 < 0 → (x12 = y32 ∧ (¬ x10 < x8 ∧ ((Q_resultOf v4 τ) ∧ ((P_N8_penaltyOf v4 τ) ∧ ((W_resultOf v4 τ) = (x12 + (F_N8_penaltyOf v4 τ)) ∧ True))))))) ∧ (∀ x49 : Int32, (F_X8_clock τ) = x49 → (¬ x49 < x12 ∧ ((P_N8_rankOf v4 τ) ∧ (∀ x51 : Int32, (F_N8_rankOf v4 τ) = x51 → (x51 = y40 ∧ ((Q_teamAtRank y40 τ) ∧ (∀ x53 : Int32, (W_teamAtRank y40 τ) = x53 → (x53 = v4 ∧ ((P_N8_laneOf v4 τ) ∧ (∀ x55 : Int32, (F_N8_laneOf v4 τ) = x55 → ((Q_teamInLane x55 τ) ∧ (∀ x57 : Int32, (W_teamInLane x55 τ) = x57 → (x57 = v4 ∧ ((P_N8_penaltyOf v4 τ) ∧ (∀ x59 : Int32, (F_N8_penaltyOf v4 τ) = x59 → ((x59 - x59 / 5 * 5) = 0 ∧ (PL_L_isWell_9  nn x19 x24 x29 (v4 + 1) τ)))))))))))))))))))))))))))))))))))))))))))))))))))) ∧ (¬ v4 < x1 → ((P_X8_runningCount τ) ∧ (∀ x61 : Int32, (F_X8_runningCount τ) = x61 → (v1 = x61 ∧ ((P_X8_isFinished τ) ∧ (∀ x63 : Int32, (F_X8_isFinished τ) = x63 → ((P_X8_isStarted τ) ∧ (∀ x65 : Int32, (F_X8_isStarted τ) = x65 → (True ∧ (∀ x69 : Int32, (if x65 = 0 then 0 else (if v1 = 0 then 1 else 0)) = x69 → (x63 = x69 ∧ ((v2 = 0 → True) ∧ (¬ v2 = 0 → ((P_N8_meanTime τ) ∧ ((Op.cmpValue (FP.dcmp (F_N8_meanTime τ) (FP.ddiv (FP.i2d v3) (FP.i2d v2))) .l) = 0 ∧ True))))))))))))))))))
set_option maxRecDepth 100000 in
theorem kl_L_isWell_9 {α β : Nat → Nat} {D : va_G} {κ : Nat → ClassId}  {p : Program} {l : Launch} {e : Env} {R : Room} {s : State} {m : MethodId} {args : Array Value} {below : List Frame} {meth : Method} {c : Code} {A : Nat → Prop} (hfl : l.flags = flags0) (C : q_Cx α β D κ p s m args meth c cL_isWell RL (fun _ => none) (fun _ => none) 13 A) (hr : meth.sig.returnType = (Option.some Jvm.ClassFile.FieldType.boolean)) (hRf : 12 ≤ R.frames) (hRl : 222 ≤ R.locals) (T1 T2 : Nat) (hT1 : T1 ≤ R.cells) (hT2 : T2 ≤ R.slots) (hM1 : T1 ≤ 945) (hM2 : T2 ≤ 5670) : ∀ (nn : Nat) (v1 : Int32) (v2 : Int32) (v3 : Int32) (v4 : Int32) (τ : q_M) (u1 u2 : Nat) (rr : Int32), u1 + 135 * nn ≤ T1 → u2 + 810 * nn ≤ T2 → PL_L_isWell_9  nn v1 v2 v3 v4 τ → FL_L_isWell_9  nn v1 v2 v3 v4 τ = rr → q_St α β D κ p l e R s m args below meth c 13 A (vx_MQ below (q_Qc α β D κ A (q_oi rr) τ) (q_XC α β D κ A (q_oi rr) τ) args s 945 5670 A) u1 u2 τ [(0, .ref 220), (1, .int v1), (2, .int v2), (3, .int v3), (4, .int v4)] 9 [] := by
  intro nn
  induction nn with
  | zero => intro v1 v2 v3 v4 τ u1 u2 rr hu1 hu2 hP; exact hP.elim
  | succ nn ih =>
    intro v1 v2 v3 v4 τ u1 u2 rr hu1 hu2 hP hF
    unfold FL_L_isWell_9 at hF
    refine q_go C tk_L_isWell [(8, 2)] [] (pc1 := 12) (σ1 := τ) (lv1 := [(0, .ref 220), (1, .int v1), (2, .int v2), (3, .int v3), (4, .int v4)]) (st1 := [.ref 220, .int v4]) rfl trivial ?_
    refine q_callV C hfl mw_X8_teamCount mi_X8_teamCount me_X8_teamCount lk_L_137 (k_X8_teamCount τ hP.1) (rest := [.int v4]) rfl rfl rfl (by decide) (by decide) rfl (q_dc (z := (12, .invokevirtual 137, 3, 0, 0)) tk_L_isWell 10 rfl) (Nat.le_of_ble_eq_true rfl) ⟨by omega, by omega⟩ ⟨by omega, by omega⟩ ?_
    refine q_nrm 15 [.int (F_X8_teamCount τ), .int v4] (u1 + 0) (u2 + 0) rfl rfl (by omega) (by omega) ?_
    refine q_nmI (fun x1 e2 => ?_)
    replace hF := q_let e2 hF
    by_cases c3 : v4 < x1
    · rw [if_pos c3] at hF
      refine q_go C tk_L_isWell [(11, 3)] [false] (pc1 := 21) (σ1 := τ) (lv1 := [(0, .ref 220), (1, .int v1), (2, .int v2), (3, .int v3), (4, .int v4)]) (st1 := [.int v4, .ref 220]) rfl ⟨c3, trivial⟩ ?_
      refine q_callV C hfl mw_X8_legOf mi_X8_legOf me_X8_legOf lk_L_198 (n_X8_legOf v4 τ ((hP.2 x1 e2).1 c3).1) (rest := []) rfl rfl rfl (by decide) (by decide) rfl (q_dc (z := (21, .invokevirtual 198, 3, 0, 0)) tk_L_isWell 14 rfl) (Nat.le_of_ble_eq_true rfl) ⟨by omega, by omega⟩ ⟨by omega, by omega⟩ ?_
      refine q_nrm 24 [.int (F_N8_legOf v4 τ)] (u1 + 1) (u2 + 6) rfl rfl (by omega) (by omega) ?_
      refine q_nmI (fun x4 e5 => ?_)
      replace hF := q_let e5 hF
      refine q_go C tk_L_isWell [(15, 5)] [] (pc1 := 31) (σ1 := τ) (lv1 := [(5, .int x4), (0, .ref 220), (1, .int v1), (2, .int v2), (3, .int v3), (4, .int v4)]) (st1 := [.ref 220, .int (x4 + 1)]) rfl trivial ?_
      refine q_callV C hfl mw_X8_length mi_X8_length me_X8_length lk_L_191 (k_X8_length τ) (rest := [.int (x4 + 1)]) rfl rfl rfl (by decide) (by decide) rfl (q_dc (z := (31, .invokevirtual 191, 3, 0, 0)) tk_L_isWell 20 rfl) (Nat.le_of_ble_eq_true rfl) ⟨by omega, by omega⟩ ⟨by omega, by omega⟩ ?_
      refine q_nrm 34 [.int (F_X8_length τ), .int (x4 + 1)] (u1 + 1) (u2 + 6) rfl rfl (by omega) (by omega) ?_
      refine q_nmI (fun x6 e7 => ?_)
      replace hF := q_let e7 hF
      refine q_go C tk_L_isWell [(21, 1)] [] (pc1 := 35) (σ1 := τ) (lv1 := [(5, .int x4), (0, .ref 220), (1, .int v1), (2, .int v2), (3, .int v3), (4, .int v4)]) (st1 := [.int ((x4 + 1) * x6)]) rfl trivial ?_
      refine q_nmI (fun x8 e9 => ?_)
      replace hF := q_let e9 hF
      refine q_go C tk_L_isWell [(22, 3)] [] (pc1 := 40) (σ1 := τ) (lv1 := [(6, .int x8), (5, .int x4), (0, .ref 220), (1, .int v1), (2, .int v2), (3, .int v3), (4, .int v4)]) (st1 := [.int v4, .ref 220]) rfl trivial ?_
      refine q_callV C hfl mw_X8_positionOf mi_X8_positionOf me_X8_positionOf lk_L_195 (n_X8_positionOf v4 τ (((((hP.2 x1 e2).1 c3).2 x4 e5) x6 e7) x8 e9).1) (rest := []) rfl rfl rfl (by decide) (by decide) rfl (q_dc (z := (40, .invokevirtual 195, 3, 0, 0)) tk_L_isWell 25 rfl) (Nat.le_of_ble_eq_true rfl) ⟨by omega, by omega⟩ ⟨by omega, by omega⟩ ?_
      refine q_nrm 43 [.int (F_N8_positionOf v4 τ)] (u1 + 2) (u2 + 12) rfl rfl (by omega) (by omega) ?_
      refine q_nmI (fun x10 e11 => ?_)
      replace hF := q_let e11 hF
      refine q_go C tk_L_isWell [(26, 5)] [] (pc1 := 51) (σ1 := τ) (lv1 := [(8, .int 0), (7, .int x10), (6, .int x8), (5, .int x4), (0, .ref 220), (1, .int v1), (2, .int v2), (3, .int v3), (4, .int v4)]) (st1 := [.int v4, .ref 220]) rfl trivial ?_
      refine q_callW (n := 2) C hfl cw_timeOf ⟨by decide +kernel, by decide +kernel, by decide +kernel⟩ q_init_QuillRelayLaw sw_timeOf lk_L_212 (kw_timeOf v4 τ ((((((hP.2 x1 e2).1 c3).2 x4 e5) x6 e7) x8 e9).2 x10 e11).1) (rest := []) rfl rfl (q_dc (z := (51, .invokestatic 212, 3, 0, 0)) tk_L_isWell 31 rfl) (Nat.le_of_ble_eq_true rfl) ⟨by omega, by omega⟩ ⟨by omega, by omega⟩ ?_
      refine q_nrm 54 [.int (W_timeOf v4 τ)] (u1 + 4) (u2 + 24) rfl rfl (by omega) (by omega) ?_
      refine q_nmI (fun x12 e13 => ?_)
      replace hF := q_let e13 hF
      refine q_go C tk_L_isWell [(32, 4)] [] (pc1 := 60) (σ1 := τ) (lv1 := [(9, .int x12), (8, .int 0), (7, .int x10), (6, .int x8), (5, .int x4), (0, .ref 220), (1, .int v1), (2, .int v2), (3, .int v3), (4, .int v4)]) (st1 := [.int v4, .ref 220, .int v1]) rfl trivial ?_
      refine q_callV C hfl mw_X8_isRunning mi_X8_isRunning me_X8_isRunning lk_L_201 (n_X8_isRunning v4 τ (((((((hP.2 x1 e2).1 c3).2 x4 e5) x6 e7) x8 e9).2 x10 e11).2 x12 e13).1) (rest := [.int v1]) rfl rfl rfl (by decide) (by decide) rfl (q_dc (z := (60, .invokevirtual 201, 3, 0, 0)) tk_L_isWell 36 rfl) (Nat.le_of_ble_eq_true rfl) ⟨by omega, by omega⟩ ⟨by omega, by omega⟩ ?_
      refine q_nrm 63 [.int (F_N8_isRunning v4 τ), .int v1] (u1 + 5) (u2 + 30) rfl rfl (by omega) (by omega) ?_
      refine q_nmI (fun x14 e15 => ?_)
      replace hF := q_let e15 hF
      refine q_mrgW (v := (if x14 = 0 then 0 else 1)) (M := 71) (σ1 := τ) (lv1 := [(9, .int x12), (8, .int 0), (7, .int x10), (6, .int x8), (5, .int x4), (0, .ref 220), (1, .int v1), (2, .int v2), (3, .int v3), (4, .int v4)]) (st1 := [.int v1]) (k1 := (u1 + 5)) (k2 := (u2 + 30)) (fun x17 e18 => ?_) (fun K => ?_)
      · replace hF := q_let e18 hF
        refine q_go C tk_L_isWell [(41, 1)] [] (pc1 := 72) (σ1 := τ) (lv1 := [(9, .int x12), (8, .int 0), (7, .int x10), (6, .int x8), (5, .int x4), (0, .ref 220), (1, .int v1), (2, .int v2), (3, .int v3), (4, .int v4)]) (st1 := [.int (v1 + x17)]) rfl trivial ?_
        refine q_nmI (fun x19 e20 => ?_)
        replace hF := q_let e20 hF
        refine q_go C tk_L_isWell [(42, 3)] [] (pc1 := 76) (σ1 := τ) (lv1 := [(1, .int x19), (9, .int x12), (8, .int 0), (7, .int x10), (6, .int x8), (5, .int x4), (0, .ref 220), (2, .int v2), (3, .int v3), (4, .int v4)]) (st1 := [.int x12, .int v2]) rfl trivial ?_
        refine q_mrgW (v := (if x12 < 0 then 0 else 1)) (M := 84) (σ1 := τ) (lv1 := [(1, .int x19), (9, .int x12), (8, .int 0), (7, .int x10), (6, .int x8), (5, .int x4), (0, .ref 220), (2, .int v2), (3, .int v3), (4, .int v4)]) (st1 := [.int v2]) (k1 := (u1 + 5)) (k2 := (u2 + 30)) (fun x22 e23 => ?_) (fun K => ?_)
        · replace hF := q_let e23 hF
          refine q_go C tk_L_isWell [(49, 1)] [] (pc1 := 85) (σ1 := τ) (lv1 := [(1, .int x19), (9, .int x12), (8, .int 0), (7, .int x10), (6, .int x8), (5, .int x4), (0, .ref 220), (2, .int v2), (3, .int v3), (4, .int v4)]) (st1 := [.int (v2 + x22)]) rfl trivial ?_
          refine q_nmI (fun x24 e25 => ?_)
          replace hF := q_let e25 hF
          refine q_go C tk_L_isWell [(50, 3)] [] (pc1 := 89) (σ1 := τ) (lv1 := [(2, .int x24), (1, .int x19), (9, .int x12), (8, .int 0), (7, .int x10), (6, .int x8), (5, .int x4), (0, .ref 220), (3, .int v3), (4, .int v4)]) (st1 := [.int x12, .int v3]) rfl trivial ?_
          refine q_mrgW (v := (if x12 < 0 then 0 else x12)) (M := 98) (σ1 := τ) (lv1 := [(2, .int x24), (1, .int x19), (9, .int x12), (8, .int 0), (7, .int x10), (6, .int x8), (5, .int x4), (0, .ref 220), (3, .int v3), (4, .int v4)]) (st1 := [.int v3]) (k1 := (u1 + 5)) (k2 := (u2 + 30)) (fun x27 e28 => ?_) (fun K => ?_)
          · replace hF := q_let e28 hF
            refine q_go C tk_L_isWell [(57, 1)] [] (pc1 := 99) (σ1 := τ) (lv1 := [(2, .int x24), (1, .int x19), (9, .int x12), (8, .int 0), (7, .int x10), (6, .int x8), (5, .int x4), (0, .ref 220), (3, .int v3), (4, .int v4)]) (st1 := [.int (v3 + x27)]) rfl trivial ?_
            refine q_nmI (fun x29 e30 => ?_)
            replace hF := q_let e30 hF
            refine q_go C tk_L_isWell [(58, 3)] [] (pc1 := 103) (σ1 := τ) (lv1 := [(10, .int 0), (3, .int x29), (2, .int x24), (1, .int x19), (9, .int x12), (8, .int 0), (7, .int x10), (6, .int x8), (5, .int x4), (0, .ref 220), (4, .int v4)]) (st1 := []) rfl trivial ?_
            refine q_lvpick [9, 3, 2, 1, 10, 8, 7, 6, 5, 4, 0] (lv' := [(0, .ref 220), (1, .int x19), (2, .int x24), (3, .int x29), (4, .int v4), (5, .int x4), (6, .int x8), (7, .int x10), (8, .int 0), (9, .int x12), (10, .int 0)]) rfl ?_
            refine kl_L_isWell_103 x19 x24 x29 v4 x4 x8 x10 x12  hfl C hRf hRl (u1 + 20) (u2 + 120) (by omega) (by omega) 5 0 0 τ (u1 + 5) (u2 + 30) (by omega) (by omega) ((((((((((((((hP.2 x1 e2).1 c3).2 x4 e5) x6 e7) x8 e9).2 x10 e11).2 x12 e13).2 x14 e15).2 x17 e18) x19 e20).2 x22 e23) x24 e25).2 x27 e28) x29 e30).1 (fun y32 e33 => ?_)
            replace hF := q_let e33 hF
            refine q_go C tk_L_isWell [(100, 2)] [] (pc1 := 186) (σ1 := τ) (lv1 := [(0, .ref 220), (1, .int x19), (2, .int x24), (3, .int x29), (4, .int v4), (5, .int x4), (6, .int x8), (7, .int x10), (9, .int x12), (8, .int y32)]) (st1 := [.int 3, .int x4]) rfl trivial ?_
            refine q_mrgW (v := (if x4 < 3 then (if x10 < (x8 - 100) then 0 else (if (x8 + 100) < x10 then 0 else 1)) else 0)) (M := 214) (σ1 := τ) (lv1 := [(0, .ref 220), (1, .int x19), (2, .int x24), (3, .int x29), (4, .int v4), (5, .int x4), (6, .int x8), (7, .int x10), (9, .int x12), (8, .int y32)]) (st1 := []) (k1 := (u1 + 20)) (k2 := (u2 + 120)) (fun x37 e38 => ?_) (fun K => ?_)
            · replace hF := q_let e38 hF
              refine q_go C tk_L_isWell [(116, 5)] [] (pc1 := 222) (σ1 := τ) (lv1 := [(12, .int 0), (11, .int 0), (10, .int x37), (0, .ref 220), (1, .int x19), (2, .int x24), (3, .int x29), (4, .int v4), (5, .int x4), (6, .int x8), (7, .int x10), (9, .int x12), (8, .int y32)]) (st1 := []) rfl trivial ?_
              refine q_lvpick [3, 4, 5, 6, 7, 8, 9, 10, 12, 11, 2, 1, 0] (lv' := [(0, .ref 220), (1, .int x19), (2, .int x24), (3, .int x29), (4, .int v4), (5, .int x4), (6, .int x8), (7, .int x10), (8, .int y32), (9, .int x12), (10, .int x37), (11, .int 0), (12, .int 0)]) rfl ?_
              refine kl_L_isWell_222 x19 x24 x29 v4 x4 x8 x10 y32 x12 x37  hfl C hRf hRl (u1 + 125) (u2 + 750) (by omega) (by omega) 7 0 0 τ (u1 + 20) (u2 + 120) (by omega) (by omega) ((((((((((((((((hP.2 x1 e2).1 c3).2 x4 e5) x6 e7) x8 e9).2 x10 e11).2 x12 e13).2 x14 e15).2 x17 e18) x19 e20).2 x22 e23) x24 e25).2 x27 e28) x29 e30).2 y32 e33).2 x37 e38).1 (fun y40 e41 => ?_)
              replace hF := q_let e41 hF
              refine q_go C tk_L_isWell [(141, 2)] [] (pc1 := 268) (σ1 := τ) (lv1 := [(0, .ref 220), (1, .int x19), (2, .int x24), (3, .int x29), (4, .int v4), (5, .int x4), (6, .int x8), (7, .int x10), (8, .int y32), (9, .int x12), (10, .int x37), (11, .int y40)]) (st1 := [.int v4, .ref 220]) rfl trivial ?_
              refine q_callV C hfl mw_X8_isInZone mi_X8_isInZone me_X8_isInZone lk_L_228 (n_X8_isInZone v4 τ (((((((((((((((((hP.2 x1 e2).1 c3).2 x4 e5) x6 e7) x8 e9).2 x10 e11).2 x12 e13).2 x14 e15).2 x17 e18) x19 e20).2 x22 e23) x24 e25).2 x27 e28) x29 e30).2 y32 e33).2 x37 e38).2 y40 e41).1) (rest := []) rfl rfl rfl (by decide) (by decide) rfl (q_dc (z := (268, .invokevirtual 228, 3, 0, 0)) tk_L_isWell 143 rfl) (Nat.le_of_ble_eq_true rfl) ⟨by omega, by omega⟩ ⟨by omega, by omega⟩ ?_
              refine q_nrm 271 [.int (F_N8_isInZone v4 τ)] (u1 + 126) (u2 + 756) rfl rfl (by omega) (by omega) ?_
              refine q_nmI (fun x42 e43 => ?_)
              replace hF := q_let e43 hF
              refine q_go C tk_L_isWell [(144, 1)] [] (pc1 := 273) (σ1 := τ) (lv1 := [(0, .ref 220), (1, .int x19), (2, .int x24), (3, .int x29), (4, .int v4), (5, .int x4), (6, .int x8), (7, .int x10), (8, .int y32), (9, .int x12), (10, .int x37), (11, .int y40)]) (st1 := [.int x37, .int x42]) rfl trivial ?_
              refine q_go C tk_L_isWell [(145, 1)] [false] (pc1 := 276) (σ1 := τ) (lv1 := [(0, .ref 220), (1, .int x19), (2, .int x24), (3, .int x29), (4, .int v4), (5, .int x4), (6, .int x8), (7, .int x10), (8, .int y32), (9, .int x12), (10, .int x37), (11, .int y40)]) (st1 := []) rfl ⟨((((((((((((((((((hP.2 x1 e2).1 c3).2 x4 e5) x6 e7) x8 e9).2 x10 e11).2 x12 e13).2 x14 e15).2 x17 e18) x19 e20).2 x22 e23) x24 e25).2 x27 e28) x29 e30).2 y32 e33).2 x37 e38).2 y40 e41).2 x42 e43).1, trivial⟩ ?_
              refine q_go C tk_L_isWell [(146, 2)] [] (pc1 := 279) (σ1 := τ) (lv1 := [(0, .ref 220), (1, .int x19), (2, .int x24), (3, .int x29), (4, .int v4), (5, .int x4), (6, .int x8), (7, .int x10), (8, .int y32), (9, .int x12), (10, .int x37), (11, .int y40)]) (st1 := [.int 3, .int x4]) rfl trivial ?_
              refine q_jn (M := 293) (σ1 := τ) (lv1 := [(0, .ref 220), (1, .int x19), (2, .int x24), (3, .int x29), (4, .int v4), (5, .int x4), (6, .int x8), (7, .int x10), (8, .int y32), (9, .int x12), (10, .int x37), (11, .int y40)]) (st1 := []) (k1 := (u1 + 126)) (k2 := (u2 + 756)) ?_ (fun K => ?_)
              · skip
                refine q_go C tk_L_isWell [(154, 1)] [] (pc1 := 295) (σ1 := τ) (lv1 := [(0, .ref 220), (1, .int x19), (2, .int x24), (3, .int x29), (4, .int v4), (5, .int x4), (6, .int x8), (7, .int x10), (8, .int y32), (9, .int x12), (10, .int x37), (11, .int y40)]) (st1 := [.int x4]) rfl trivial ?_
                refine q_jn (M := 313) (σ1 := τ) (lv1 := [(0, .ref 220), (1, .int x19), (2, .int x24), (3, .int x29), (4, .int v4), (5, .int x4), (6, .int x8), (7, .int x10), (8, .int y32), (9, .int x12), (10, .int x37), (11, .int y40)]) (st1 := []) (k1 := (u1 + 126)) (k2 := (u2 + 756)) ?_ (fun K => ?_)
                · skip
                  refine q_go C tk_L_isWell [(164, 2)] [] (pc1 := 316) (σ1 := τ) (lv1 := [(0, .ref 220), (1, .int x19), (2, .int x24), (3, .int x29), (4, .int v4), (5, .int x4), (6, .int x8), (7, .int x10), (8, .int y32), (9, .int x12), (10, .int x37), (11, .int y40)]) (st1 := [.int v4, .ref 220]) rfl trivial ?_
                  refine q_callV C hfl mw_X8_splitSum mi_X8_splitSum me_X8_splitSum lk_L_231 (n_X8_splitSum v4 τ ((((((((((((((((((hP.2 x1 e2).1 c3).2 x4 e5) x6 e7) x8 e9).2 x10 e11).2 x12 e13).2 x14 e15).2 x17 e18) x19 e20).2 x22 e23) x24 e25).2 x27 e28) x29 e30).2 y32 e33).2 x37 e38).2 y40 e41).2 x42 e43).2.2.2.1) (rest := []) rfl rfl rfl (by decide) (by decide) rfl (q_dc (z := (316, .invokevirtual 231, 3, 0, 0)) tk_L_isWell 166 rfl) (Nat.le_of_ble_eq_true rfl) ⟨by omega, by omega⟩ ⟨by omega, by omega⟩ ?_
                  refine q_nrm 319 [.int (F_N8_splitSum v4 τ)] (u1 + 127) (u2 + 762) rfl rfl (by omega) (by omega) ?_
                  refine q_nmI (fun x46 e47 => ?_)
                  replace hF := q_let e47 hF
                  refine q_go C tk_L_isWell [(167, 1)] [] (pc1 := 321) (σ1 := τ) (lv1 := [(0, .ref 220), (1, .int x19), (2, .int x24), (3, .int x29), (4, .int v4), (5, .int x4), (6, .int x8), (7, .int x10), (8, .int y32), (9, .int x12), (10, .int x37), (11, .int y40)]) (st1 := [.int y32, .int x46]) rfl trivial ?_
                  refine q_go C tk_L_isWell [(168, 1)] [false] (pc1 := 324) (σ1 := τ) (lv1 := [(0, .ref 220), (1, .int x19), (2, .int x24), (3, .int x29), (4, .int v4), (5, .int x4), (6, .int x8), (7, .int x10), (8, .int y32), (9, .int x12), (10, .int x37), (11, .int y40)]) (st1 := []) rfl ⟨(((((((((((((((((((hP.2 x1 e2).1 c3).2 x4 e5) x6 e7) x8 e9).2 x10 e11).2 x12 e13).2 x14 e15).2 x17 e18) x19 e20).2 x22 e23) x24 e25).2 x27 e28) x29 e30).2 y32 e33).2 x37 e38).2 y40 e41).2 x42 e43).2.2.2.2 x46 e47).1, trivial⟩ ?_
                  refine q_go C tk_L_isWell [(169, 1)] [] (pc1 := 326) (σ1 := τ) (lv1 := [(0, .ref 220), (1, .int x19), (2, .int x24), (3, .int x29), (4, .int v4), (5, .int x4), (6, .int x8), (7, .int x10), (8, .int y32), (9, .int x12), (10, .int x37), (11, .int y40)]) (st1 := [.int x12]) rfl trivial ?_
                  refine q_jn (M := 361) (σ1 := τ) (lv1 := [(0, .ref 220), (1, .int x19), (2, .int x24), (3, .int x29), (4, .int v4), (5, .int x4), (6, .int x8), (7, .int x10), (8, .int y32), (9, .int x12), (10, .int x37), (11, .int y40)]) (st1 := []) (k1 := (u1 + 130)) (k2 := (u2 + 780)) ?_ (fun K => ?_)
                  · skip
                    refine q_go C tk_L_isWell [(186, 2)] [] (pc1 := 364) (σ1 := τ) (lv1 := [(0, .ref 220), (1, .int x19), (2, .int x24), (3, .int x29), (4, .int v4), (5, .int x4), (6, .int x8), (7, .int x10), (8, .int y32), (9, .int x12), (10, .int x37), (11, .int y40)]) (st1 := [.ref 220, .int x12]) rfl trivial ?_
                    refine q_callV C hfl mw_X8_clock mi_X8_clock me_X8_clock lk_L_188 (k_X8_clock τ) (rest := [.int x12]) rfl rfl rfl (by decide) (by decide) rfl (q_dc (z := (364, .invokevirtual 188, 3, 0, 0)) tk_L_isWell 188 rfl) (Nat.le_of_ble_eq_true rfl) ⟨by omega, by omega⟩ ⟨by omega, by omega⟩ ?_
                    refine q_nrm 367 [.int (F_X8_clock τ), .int x12] (u1 + 130) (u2 + 780) rfl rfl (by omega) (by omega) ?_
                    refine q_nmI (fun x49 e50 => ?_)
                    replace hF := q_let e50 hF
                    refine q_go C tk_L_isWell [(189, 1)] [false] (pc1 := 370) (σ1 := τ) (lv1 := [(0, .ref 220), (1, .int x19), (2, .int x24), (3, .int x29), (4, .int v4), (5, .int x4), (6, .int x8), (7, .int x10), (8, .int y32), (9, .int x12), (10, .int x37), (11, .int y40)]) (st1 := []) rfl ⟨((((((((((((((((((((hP.2 x1 e2).1 c3).2 x4 e5) x6 e7) x8 e9).2 x10 e11).2 x12 e13).2 x14 e15).2 x17 e18) x19 e20).2 x22 e23) x24 e25).2 x27 e28) x29 e30).2 y32 e33).2 x37 e38).2 y40 e41).2 x42 e43).2.2.2.2 x46 e47).2.2 x49 e50).1, trivial⟩ ?_
                    refine q_go C tk_L_isWell [(190, 2)] [] (pc1 := 373) (σ1 := τ) (lv1 := [(0, .ref 220), (1, .int x19), (2, .int x24), (3, .int x29), (4, .int v4), (5, .int x4), (6, .int x8), (7, .int x10), (8, .int y32), (9, .int x12), (10, .int x37), (11, .int y40)]) (st1 := [.int v4, .ref 220]) rfl trivial ?_
                    refine q_callV C hfl mw_X8_rankOf mi_X8_rankOf me_X8_rankOf lk_L_234 (n_X8_rankOf v4 τ ((((((((((((((((((((hP.2 x1 e2).1 c3).2 x4 e5) x6 e7) x8 e9).2 x10 e11).2 x12 e13).2 x14 e15).2 x17 e18) x19 e20).2 x22 e23) x24 e25).2 x27 e28) x29 e30).2 y32 e33).2 x37 e38).2 y40 e41).2 x42 e43).2.2.2.2 x46 e47).2.2 x49 e50).2.1) (rest := []) rfl rfl rfl (by decide) (by decide) rfl (q_dc (z := (373, .invokevirtual 234, 3, 0, 0)) tk_L_isWell 192 rfl) (Nat.le_of_ble_eq_true rfl) ⟨by omega, by omega⟩ ⟨by omega, by omega⟩ ?_
                    refine q_nrm 376 [.int (F_N8_rankOf v4 τ)] (u1 + 131) (u2 + 786) rfl rfl (by omega) (by omega) ?_
                    refine q_nmI (fun x51 e52 => ?_)
                    replace hF := q_let e52 hF
                    refine q_go C tk_L_isWell [(193, 1)] [] (pc1 := 378) (σ1 := τ) (lv1 := [(0, .ref 220), (1, .int x19), (2, .int x24), (3, .int x29), (4, .int v4), (5, .int x4), (6, .int x8), (7, .int x10), (8, .int y32), (9, .int x12), (10, .int x37), (11, .int y40)]) (st1 := [.int y40, .int x51]) rfl trivial ?_
                    refine q_go C tk_L_isWell [(194, 1)] [false] (pc1 := 381) (σ1 := τ) (lv1 := [(0, .ref 220), (1, .int x19), (2, .int x24), (3, .int x29), (4, .int v4), (5, .int x4), (6, .int x8), (7, .int x10), (8, .int y32), (9, .int x12), (10, .int x37), (11, .int y40)]) (st1 := []) rfl ⟨(((((((((((((((((((((hP.2 x1 e2).1 c3).2 x4 e5) x6 e7) x8 e9).2 x10 e11).2 x12 e13).2 x14 e15).2 x17 e18) x19 e20).2 x22 e23) x24 e25).2 x27 e28) x29 e30).2 y32 e33).2 x37 e38).2 y40 e41).2 x42 e43).2.2.2.2 x46 e47).2.2 x49 e50).2.2 x51 e52).1, trivial⟩ ?_
                    refine q_go C tk_L_isWell [(195, 2)] [] (pc1 := 384) (σ1 := τ) (lv1 := [(0, .ref 220), (1, .int x19), (2, .int x24), (3, .int x29), (4, .int v4), (5, .int x4), (6, .int x8), (7, .int x10), (8, .int y32), (9, .int x12), (10, .int x37), (11, .int y40)]) (st1 := [.int y40, .ref 220]) rfl trivial ?_
                    refine q_callW (n := 2) C hfl cw_teamAtRank ⟨by decide +kernel, by decide +kernel, by decide +kernel⟩ q_init_QuillRelayLaw sw_teamAtRank lk_L_237 (kw_teamAtRank y40 τ (((((((((((((((((((((hP.2 x1 e2).1 c3).2 x4 e5) x6 e7) x8 e9).2 x10 e11).2 x12 e13).2 x14 e15).2 x17 e18) x19 e20).2 x22 e23) x24 e25).2 x27 e28) x29 e30).2 y32 e33).2 x37 e38).2 y40 e41).2 x42 e43).2.2.2.2 x46 e47).2.2 x49 e50).2.2 x51 e52).2.1) (rest := []) rfl rfl (q_dc (z := (384, .invokestatic 237, 3, 0, 0)) tk_L_isWell 197 rfl) (Nat.le_of_ble_eq_true rfl) ⟨by omega, by omega⟩ ⟨by omega, by omega⟩ ?_
                    refine q_nrm 387 [.int (W_teamAtRank y40 τ)] (u1 + 132) (u2 + 792) rfl rfl (by omega) (by omega) ?_
                    refine q_nmI (fun x53 e54 => ?_)
                    replace hF := q_let e54 hF
                    refine q_go C tk_L_isWell [(198, 1)] [] (pc1 := 389) (σ1 := τ) (lv1 := [(0, .ref 220), (1, .int x19), (2, .int x24), (3, .int x29), (4, .int v4), (5, .int x4), (6, .int x8), (7, .int x10), (8, .int y32), (9, .int x12), (10, .int x37), (11, .int y40)]) (st1 := [.int v4, .int x53]) rfl trivial ?_
                    refine q_go C tk_L_isWell [(199, 1)] [false] (pc1 := 392) (σ1 := τ) (lv1 := [(0, .ref 220), (1, .int x19), (2, .int x24), (3, .int x29), (4, .int v4), (5, .int x4), (6, .int x8), (7, .int x10), (8, .int y32), (9, .int x12), (10, .int x37), (11, .int y40)]) (st1 := []) rfl ⟨((((((((((((((((((((((hP.2 x1 e2).1 c3).2 x4 e5) x6 e7) x8 e9).2 x10 e11).2 x12 e13).2 x14 e15).2 x17 e18) x19 e20).2 x22 e23) x24 e25).2 x27 e28) x29 e30).2 y32 e33).2 x37 e38).2 y40 e41).2 x42 e43).2.2.2.2 x46 e47).2.2 x49 e50).2.2 x51 e52).2.2 x53 e54).1, trivial⟩ ?_
                    refine q_go C tk_L_isWell [(200, 3)] [] (pc1 := 396) (σ1 := τ) (lv1 := [(0, .ref 220), (1, .int x19), (2, .int x24), (3, .int x29), (4, .int v4), (5, .int x4), (6, .int x8), (7, .int x10), (8, .int y32), (9, .int x12), (10, .int x37), (11, .int y40)]) (st1 := [.int v4, .ref 220, .ref 220]) rfl trivial ?_
                    refine q_callV C hfl mw_X8_laneOf mi_X8_laneOf me_X8_laneOf lk_L_192 (n_X8_laneOf v4 τ ((((((((((((((((((((((hP.2 x1 e2).1 c3).2 x4 e5) x6 e7) x8 e9).2 x10 e11).2 x12 e13).2 x14 e15).2 x17 e18) x19 e20).2 x22 e23) x24 e25).2 x27 e28) x29 e30).2 y32 e33).2 x37 e38).2 y40 e41).2 x42 e43).2.2.2.2 x46 e47).2.2 x49 e50).2.2 x51 e52).2.2 x53 e54).2.1) (rest := [.ref 220]) rfl rfl rfl (by decide) (by decide) rfl (q_dc (z := (396, .invokevirtual 192, 3, 0, 0)) tk_L_isWell 203 rfl) (Nat.le_of_ble_eq_true rfl) ⟨by omega, by omega⟩ ⟨by omega, by omega⟩ ?_
                    refine q_nrm 399 [.int (F_N8_laneOf v4 τ), .ref 220] (u1 + 133) (u2 + 798) rfl rfl (by omega) (by omega) ?_
                    refine q_nmI (fun x55 e56 => ?_)
                    replace hF := q_let e56 hF
                    refine q_callW (n := 2) C hfl cw_teamInLane ⟨by decide +kernel, by decide +kernel, by decide +kernel⟩ q_init_QuillRelayLaw sw_teamInLane lk_L_239 (kw_teamInLane x55 τ (((((((((((((((((((((((hP.2 x1 e2).1 c3).2 x4 e5) x6 e7) x8 e9).2 x10 e11).2 x12 e13).2 x14 e15).2 x17 e18) x19 e20).2 x22 e23) x24 e25).2 x27 e28) x29 e30).2 y32 e33).2 x37 e38).2 y40 e41).2 x42 e43).2.2.2.2 x46 e47).2.2 x49 e50).2.2 x51 e52).2.2 x53 e54).2.2 x55 e56).1) (rest := []) rfl rfl (q_dc (z := (399, .invokestatic 239, 3, 0, 0)) tk_L_isWell 204 rfl) (Nat.le_of_ble_eq_true rfl) ⟨by omega, by omega⟩ ⟨by omega, by omega⟩ ?_
                    refine q_nrm 402 [.int (W_teamInLane x55 τ)] (u1 + 134) (u2 + 804) rfl rfl (by omega) (by omega) ?_
                    refine q_nmI (fun x57 e58 => ?_)
                    replace hF := q_let e58 hF
                    refine q_go C tk_L_isWell [(205, 1)] [] (pc1 := 404) (σ1 := τ) (lv1 := [(0, .ref 220), (1, .int x19), (2, .int x24), (3, .int x29), (4, .int v4), (5, .int x4), (6, .int x8), (7, .int x10), (8, .int y32), (9, .int x12), (10, .int x37), (11, .int y40)]) (st1 := [.int v4, .int x57]) rfl trivial ?_
                    refine q_go C tk_L_isWell [(206, 1)] [false] (pc1 := 407) (σ1 := τ) (lv1 := [(0, .ref 220), (1, .int x19), (2, .int x24), (3, .int x29), (4, .int v4), (5, .int x4), (6, .int x8), (7, .int x10), (8, .int y32), (9, .int x12), (10, .int x37), (11, .int y40)]) (st1 := []) rfl ⟨((((((((((((((((((((((((hP.2 x1 e2).1 c3).2 x4 e5) x6 e7) x8 e9).2 x10 e11).2 x12 e13).2 x14 e15).2 x17 e18) x19 e20).2 x22 e23) x24 e25).2 x27 e28) x29 e30).2 y32 e33).2 x37 e38).2 y40 e41).2 x42 e43).2.2.2.2 x46 e47).2.2 x49 e50).2.2 x51 e52).2.2 x53 e54).2.2 x55 e56).2 x57 e58).1, trivial⟩ ?_
                    refine q_go C tk_L_isWell [(207, 2)] [] (pc1 := 410) (σ1 := τ) (lv1 := [(0, .ref 220), (1, .int x19), (2, .int x24), (3, .int x29), (4, .int v4), (5, .int x4), (6, .int x8), (7, .int x10), (8, .int y32), (9, .int x12), (10, .int x37), (11, .int y40)]) (st1 := [.int v4, .ref 220]) rfl trivial ?_
                    refine q_callV C hfl mw_X8_penaltyOf mi_X8_penaltyOf me_X8_penaltyOf lk_L_205 (n_X8_penaltyOf v4 τ ((((((((((((((((((((((((hP.2 x1 e2).1 c3).2 x4 e5) x6 e7) x8 e9).2 x10 e11).2 x12 e13).2 x14 e15).2 x17 e18) x19 e20).2 x22 e23) x24 e25).2 x27 e28) x29 e30).2 y32 e33).2 x37 e38).2 y40 e41).2 x42 e43).2.2.2.2 x46 e47).2.2 x49 e50).2.2 x51 e52).2.2 x53 e54).2.2 x55 e56).2 x57 e58).2.1) (rest := []) rfl rfl rfl (by decide) (by decide) rfl (q_dc (z := (410, .invokevirtual 205, 3, 0, 0)) tk_L_isWell 209 rfl) (Nat.le_of_ble_eq_true rfl) ⟨by omega, by omega⟩ ⟨by omega, by omega⟩ ?_
                    refine q_nrm 413 [.int (F_N8_penaltyOf v4 τ)] (u1 + 135) (u2 + 810) rfl rfl (by omega) (by omega) ?_
                    refine q_nmI (fun x59 e60 => ?_)
                    replace hF := q_let e60 hF
                    refine q_go C tk_L_isWell [(210, 2)] [] (pc1 := 415) (σ1 := τ) (lv1 := [(0, .ref 220), (1, .int x19), (2, .int x24), (3, .int x29), (4, .int v4), (5, .int x4), (6, .int x8), (7, .int x10), (8, .int y32), (9, .int x12), (10, .int x37), (11, .int y40)]) (st1 := [.int (x59 - x59 / 5 * 5)]) rfl ⟨(by decide), trivial⟩ ?_
                    refine q_go C tk_L_isWell [(212, 1)] [true] (pc1 := 420) (σ1 := τ) (lv1 := [(0, .ref 220), (1, .int x19), (2, .int x24), (3, .int x29), (4, .int v4), (5, .int x4), (6, .int x8), (7, .int x10), (8, .int y32), (9, .int x12), (10, .int x37), (11, .int y40)]) (st1 := []) rfl ⟨(((((((((((((((((((((((((hP.2 x1 e2).1 c3).2 x4 e5) x6 e7) x8 e9).2 x10 e11).2 x12 e13).2 x14 e15).2 x17 e18) x19 e20).2 x22 e23) x24 e25).2 x27 e28) x29 e30).2 y32 e33).2 x37 e38).2 y40 e41).2 x42 e43).2.2.2.2 x46 e47).2.2 x49 e50).2.2 x51 e52).2.2 x53 e54).2.2 x55 e56).2 x57 e58).2.2 x59 e60).1, trivial⟩ ?_
                    refine q_go C tk_L_isWell [(215, 2)] [] (pc1 := 9) (σ1 := τ) (lv1 := [(4, .int (v4 + 1)), (0, .ref 220), (1, .int x19), (2, .int x24), (3, .int x29), (5, .int x4), (6, .int x8), (7, .int x10), (8, .int y32), (9, .int x12), (10, .int x37), (11, .int y40)]) (st1 := []) rfl trivial ?_
                    refine q_lvpick [1, 2, 3, 4, 0] (lv' := [(0, .ref 220), (1, .int x19), (2, .int x24), (3, .int x29), (4, .int (v4 + 1))]) rfl ?_
                    exact ih x19 x24 x29 (v4 + 1) τ (u1 + 135) (u2 + 810) rr (by omega) (by omega) (((((((((((((((((((((((((hP.2 x1 e2).1 c3).2 x4 e5) x6 e7) x8 e9).2 x10 e11).2 x12 e13).2 x14 e15).2 x17 e18) x19 e20).2 x22 e23) x24 e25).2 x27 e28) x29 e30).2 y32 e33).2 x37 e38).2 y40 e41).2 x42 e43).2.2.2.2 x46 e47).2.2 x49 e50).2.2 x51 e52).2.2 x53 e54).2.2 x55 e56).2 x57 e58).2.2 x59 e60).2 hF
                  · clear hF
                    by_cases c48 : x12 < 0
                    · skip
                      refine q_go C tk_L_isWell [(170, 1)] [true] (pc1 := 361) (σ1 := τ) (lv1 := [(0, .ref 220), (1, .int x19), (2, .int x24), (3, .int x29), (4, .int v4), (5, .int x4), (6, .int x8), (7, .int x10), (8, .int y32), (9, .int x12), (10, .int x37), (11, .int y40)]) (st1 := []) rfl ⟨c48, trivial⟩ ?_
                      exact q_wdn (by omega) (by omega) K
                    · skip
                      refine q_go C tk_L_isWell [(170, 3)] [false] (pc1 := 333) (σ1 := τ) (lv1 := [(0, .ref 220), (1, .int x19), (2, .int x24), (3, .int x29), (4, .int v4), (5, .int x4), (6, .int x8), (7, .int x10), (8, .int y32), (9, .int x12), (10, .int x37), (11, .int y40)]) (st1 := [.int y32, .int x12]) rfl ⟨c48, trivial⟩ ?_
                      refine q_go C tk_L_isWell [(173, 1)] [false] (pc1 := 336) (σ1 := τ) (lv1 := [(0, .ref 220), (1, .int x19), (2, .int x24), (3, .int x29), (4, .int v4), (5, .int x4), (6, .int x8), (7, .int x10), (8, .int y32), (9, .int x12), (10, .int x37), (11, .int y40)]) (st1 := []) rfl ⟨((((((((((((((((((((hP.2 x1 e2).1 c3).2 x4 e5) x6 e7) x8 e9).2 x10 e11).2 x12 e13).2 x14 e15).2 x17 e18) x19 e20).2 x22 e23) x24 e25).2 x27 e28) x29 e30).2 y32 e33).2 x37 e38).2 y40 e41).2 x42 e43).2.2.2.2 x46 e47).2.1.2 c48).1, trivial⟩ ?_
                      refine q_go C tk_L_isWell [(174, 2)] [] (pc1 := 340) (σ1 := τ) (lv1 := [(0, .ref 220), (1, .int x19), (2, .int x24), (3, .int x29), (4, .int v4), (5, .int x4), (6, .int x8), (7, .int x10), (8, .int y32), (9, .int x12), (10, .int x37), (11, .int y40)]) (st1 := [.int x8, .int x10]) rfl trivial ?_
                      refine q_go C tk_L_isWell [(176, 1)] [false] (pc1 := 343) (σ1 := τ) (lv1 := [(0, .ref 220), (1, .int x19), (2, .int x24), (3, .int x29), (4, .int v4), (5, .int x4), (6, .int x8), (7, .int x10), (8, .int y32), (9, .int x12), (10, .int x37), (11, .int y40)]) (st1 := []) rfl ⟨((((((((((((((((((((hP.2 x1 e2).1 c3).2 x4 e5) x6 e7) x8 e9).2 x10 e11).2 x12 e13).2 x14 e15).2 x17 e18) x19 e20).2 x22 e23) x24 e25).2 x27 e28) x29 e30).2 y32 e33).2 x37 e38).2 y40 e41).2 x42 e43).2.2.2.2 x46 e47).2.1.2 c48).2.1, trivial⟩ ?_
                      refine q_go C tk_L_isWell [(177, 2)] [] (pc1 := 346) (σ1 := τ) (lv1 := [(0, .ref 220), (1, .int x19), (2, .int x24), (3, .int x29), (4, .int v4), (5, .int x4), (6, .int x8), (7, .int x10), (8, .int y32), (9, .int x12), (10, .int x37), (11, .int y40)]) (st1 := [.int v4, .ref 220]) rfl trivial ?_
                      refine q_callW (n := 2) C hfl cw_resultOf ⟨by decide +kernel, by decide +kernel, by decide +kernel⟩ q_init_QuillRelayLaw sw_resultOf lk_L_222 (kw_resultOf v4 τ ((((((((((((((((((((hP.2 x1 e2).1 c3).2 x4 e5) x6 e7) x8 e9).2 x10 e11).2 x12 e13).2 x14 e15).2 x17 e18) x19 e20).2 x22 e23) x24 e25).2 x27 e28) x29 e30).2 y32 e33).2 x37 e38).2 y40 e41).2 x42 e43).2.2.2.2 x46 e47).2.1.2 c48).2.2.1) (rest := []) rfl rfl (q_dc (z := (346, .invokestatic 222, 3, 0, 0)) tk_L_isWell 179 rfl) (Nat.le_of_ble_eq_true rfl) ⟨by omega, by omega⟩ ⟨by omega, by omega⟩ ?_
                      refine q_nrm 349 [.int (W_resultOf v4 τ)] (u1 + 129) (u2 + 774) rfl rfl (by omega) (by omega) ?_
                      refine q_go C tk_L_isWell [(180, 3)] [] (pc1 := 354) (σ1 := τ) (lv1 := [(0, .ref 220), (1, .int x19), (2, .int x24), (3, .int x29), (4, .int v4), (5, .int x4), (6, .int x8), (7, .int x10), (8, .int y32), (9, .int x12), (10, .int x37), (11, .int y40)]) (st1 := [.int v4, .ref 220, .int x12, .int (W_resultOf v4 τ)]) rfl trivial ?_
                      refine q_callV C hfl mw_X8_penaltyOf mi_X8_penaltyOf me_X8_penaltyOf lk_L_205 (n_X8_penaltyOf v4 τ ((((((((((((((((((((hP.2 x1 e2).1 c3).2 x4 e5) x6 e7) x8 e9).2 x10 e11).2 x12 e13).2 x14 e15).2 x17 e18) x19 e20).2 x22 e23) x24 e25).2 x27 e28) x29 e30).2 y32 e33).2 x37 e38).2 y40 e41).2 x42 e43).2.2.2.2 x46 e47).2.1.2 c48).2.2.2.1) (rest := [.int x12, .int (W_resultOf v4 τ)]) rfl rfl rfl (by decide) (by decide) rfl (q_dc (z := (354, .invokevirtual 205, 3, 0, 0)) tk_L_isWell 183 rfl) (Nat.le_of_ble_eq_true rfl) ⟨by omega, by omega⟩ ⟨by omega, by omega⟩ ?_
                      refine q_nrm 357 [.int (F_N8_penaltyOf v4 τ), .int x12, .int (W_resultOf v4 τ)] (u1 + 130) (u2 + 780) rfl rfl (by omega) (by omega) ?_
                      refine q_go C tk_L_isWell [(184, 1)] [] (pc1 := 358) (σ1 := τ) (lv1 := [(0, .ref 220), (1, .int x19), (2, .int x24), (3, .int x29), (4, .int v4), (5, .int x4), (6, .int x8), (7, .int x10), (8, .int y32), (9, .int x12), (10, .int x37), (11, .int y40)]) (st1 := [.int (x12 + (F_N8_penaltyOf v4 τ)), .int (W_resultOf v4 τ)]) rfl trivial ?_
                      refine q_go C tk_L_isWell [(185, 1)] [false] (pc1 := 361) (σ1 := τ) (lv1 := [(0, .ref 220), (1, .int x19), (2, .int x24), (3, .int x29), (4, .int v4), (5, .int x4), (6, .int x8), (7, .int x10), (8, .int y32), (9, .int x12), (10, .int x37), (11, .int y40)]) (st1 := []) rfl ⟨((((((((((((((((((((hP.2 x1 e2).1 c3).2 x4 e5) x6 e7) x8 e9).2 x10 e11).2 x12 e13).2 x14 e15).2 x17 e18) x19 e20).2 x22 e23) x24 e25).2 x27 e28) x29 e30).2 y32 e33).2 x37 e38).2 y40 e41).2 x42 e43).2.2.2.2 x46 e47).2.1.2 c48).2.2.2.2.1, trivial⟩ ?_
                      exact q_wdn (by omega) (by omega) K
                · clear hF
                  by_cases c45 : 0 < x4
                  · skip
                    refine q_go C tk_L_isWell [(155, 4)] [false] (pc1 := 303) (σ1 := τ) (lv1 := [(0, .ref 220), (1, .int x19), (2, .int x24), (3, .int x29), (4, .int v4), (5, .int x4), (6, .int x8), (7, .int x10), (8, .int y32), (9, .int x12), (10, .int x37), (11, .int y40)]) (st1 := [.ref 220, .int x8, .int x10]) rfl ⟨c45, trivial⟩ ?_
                    refine q_callV C hfl mw_X8_length mi_X8_length me_X8_length lk_L_191 (k_X8_length τ) (rest := [.int x8, .int x10]) rfl rfl rfl (by decide) (by decide) rfl (q_dc (z := (303, .invokevirtual 191, 3, 0, 0)) tk_L_isWell 159 rfl) (Nat.le_of_ble_eq_true rfl) ⟨by omega, by omega⟩ ⟨by omega, by omega⟩ ?_
                    refine q_nrm 306 [.int (F_X8_length τ), .int x8, .int x10] (u1 + 126) (u2 + 756) rfl rfl (by omega) (by omega) ?_
                    refine q_go C tk_L_isWell [(160, 3)] [] (pc1 := 310) (σ1 := τ) (lv1 := [(0, .ref 220), (1, .int x19), (2, .int x24), (3, .int x29), (4, .int v4), (5, .int x4), (6, .int x8), (7, .int x10), (8, .int y32), (9, .int x12), (10, .int x37), (11, .int y40)]) (st1 := [.int ((x8 - (F_X8_length τ)) - 100), .int x10]) rfl trivial ?_
                    refine q_go C tk_L_isWell [(163, 1)] [false] (pc1 := 313) (σ1 := τ) (lv1 := [(0, .ref 220), (1, .int x19), (2, .int x24), (3, .int x29), (4, .int v4), (5, .int x4), (6, .int x8), (7, .int x10), (8, .int y32), (9, .int x12), (10, .int x37), (11, .int y40)]) (st1 := []) rfl ⟨(((((((((((((((((((hP.2 x1 e2).1 c3).2 x4 e5) x6 e7) x8 e9).2 x10 e11).2 x12 e13).2 x14 e15).2 x17 e18) x19 e20).2 x22 e23) x24 e25).2 x27 e28) x29 e30).2 y32 e33).2 x37 e38).2 y40 e41).2 x42 e43).2.2.1.1 c45).1, trivial⟩ ?_
                    exact q_wdn (by omega) (by omega) K
                  · skip
                    refine q_go C tk_L_isWell [(155, 1)] [true] (pc1 := 313) (σ1 := τ) (lv1 := [(0, .ref 220), (1, .int x19), (2, .int x24), (3, .int x29), (4, .int v4), (5, .int x4), (6, .int x8), (7, .int x10), (8, .int y32), (9, .int x12), (10, .int x37), (11, .int y40)]) (st1 := []) rfl ⟨c45, trivial⟩ ?_
                    exact q_wdn (by omega) (by omega) K
              · clear hF
                by_cases c44 : x4 < 3
                · skip
                  refine q_go C tk_L_isWell [(148, 5)] [false] (pc1 := 290) (σ1 := τ) (lv1 := [(0, .ref 220), (1, .int x19), (2, .int x24), (3, .int x29), (4, .int v4), (5, .int x4), (6, .int x8), (7, .int x10), (8, .int y32), (9, .int x12), (10, .int x37), (11, .int y40)]) (st1 := [.int (x8 + 300), .int x10]) rfl ⟨c44, trivial⟩ ?_
                  refine q_go C tk_L_isWell [(153, 1)] [false] (pc1 := 293) (σ1 := τ) (lv1 := [(0, .ref 220), (1, .int x19), (2, .int x24), (3, .int x29), (4, .int v4), (5, .int x4), (6, .int x8), (7, .int x10), (8, .int y32), (9, .int x12), (10, .int x37), (11, .int y40)]) (st1 := []) rfl ⟨(((((((((((((((((((hP.2 x1 e2).1 c3).2 x4 e5) x6 e7) x8 e9).2 x10 e11).2 x12 e13).2 x14 e15).2 x17 e18) x19 e20).2 x22 e23) x24 e25).2 x27 e28) x29 e30).2 y32 e33).2 x37 e38).2 y40 e41).2 x42 e43).2.1.1 c44).1, trivial⟩ ?_
                  exact q_wdn (by omega) (by omega) K
                · skip
                  refine q_go C tk_L_isWell [(148, 1)] [true] (pc1 := 293) (σ1 := τ) (lv1 := [(0, .ref 220), (1, .int x19), (2, .int x24), (3, .int x29), (4, .int v4), (5, .int x4), (6, .int x8), (7, .int x10), (8, .int y32), (9, .int x12), (10, .int x37), (11, .int y40)]) (st1 := []) rfl ⟨c44, trivial⟩ ?_
                  exact q_wdn (by omega) (by omega) K
            · clear hF
              by_cases c34 : x4 < 3
              · skip
                refine q_go C tk_L_isWell [(102, 5)] [false] (pc1 := 196) (σ1 := τ) (lv1 := [(0, .ref 220), (1, .int x19), (2, .int x24), (3, .int x29), (4, .int v4), (5, .int x4), (6, .int x8), (7, .int x10), (9, .int x12), (8, .int y32)]) (st1 := [.int (x8 - 100), .int x10]) rfl ⟨c34, trivial⟩ ?_
                by_cases c35 : x10 < (x8 - 100)
                · skip
                  refine q_go C tk_L_isWell [(107, 1), (115, 1)] [true] (pc1 := 214) (σ1 := τ) (lv1 := [(0, .ref 220), (1, .int x19), (2, .int x24), (3, .int x29), (4, .int v4), (5, .int x4), (6, .int x8), (7, .int x10), (9, .int x12), (8, .int y32)]) (st1 := [.int 0]) rfl ⟨c35, trivial⟩ ?_
                  rw [if_pos c34, if_pos c35] at K; exact q_wdn (by omega) (by omega) K
                · skip
                  refine q_go C tk_L_isWell [(107, 5)] [false] (pc1 := 206) (σ1 := τ) (lv1 := [(0, .ref 220), (1, .int x19), (2, .int x24), (3, .int x29), (4, .int v4), (5, .int x4), (6, .int x8), (7, .int x10), (9, .int x12), (8, .int y32)]) (st1 := [.int (x8 + 100), .int x10]) rfl ⟨c35, trivial⟩ ?_
                  by_cases c36 : (x8 + 100) < x10
                  · skip
                    refine q_go C tk_L_isWell [(112, 1), (115, 1)] [true] (pc1 := 214) (σ1 := τ) (lv1 := [(0, .ref 220), (1, .int x19), (2, .int x24), (3, .int x29), (4, .int v4), (5, .int x4), (6, .int x8), (7, .int x10), (9, .int x12), (8, .int y32)]) (st1 := [.int 0]) rfl ⟨c36, trivial⟩ ?_
                    rw [if_pos c34, if_neg c35, if_pos c36] at K; exact q_wdn (by omega) (by omega) K
                  · skip
                    refine q_go C tk_L_isWell [(112, 3)] [false] (pc1 := 214) (σ1 := τ) (lv1 := [(0, .ref 220), (1, .int x19), (2, .int x24), (3, .int x29), (4, .int v4), (5, .int x4), (6, .int x8), (7, .int x10), (9, .int x12), (8, .int y32)]) (st1 := [.int 1]) rfl ⟨c36, trivial⟩ ?_
                    rw [if_pos c34, if_neg c35, if_neg c36] at K; exact q_wdn (by omega) (by omega) K
              · skip
                refine q_go C tk_L_isWell [(102, 1), (115, 1)] [true] (pc1 := 214) (σ1 := τ) (lv1 := [(0, .ref 220), (1, .int x19), (2, .int x24), (3, .int x29), (4, .int v4), (5, .int x4), (6, .int x8), (7, .int x10), (9, .int x12), (8, .int y32)]) (st1 := [.int 0]) rfl ⟨c34, trivial⟩ ?_
                rw [if_neg c34] at K; exact q_wdn (by omega) (by omega) K
          · clear hF
            by_cases c26 : x12 < 0
            · skip
              refine q_go C tk_L_isWell [(53, 1), (56, 1)] [true] (pc1 := 98) (σ1 := τ) (lv1 := [(2, .int x24), (1, .int x19), (9, .int x12), (8, .int 0), (7, .int x10), (6, .int x8), (5, .int x4), (0, .ref 220), (3, .int v3), (4, .int v4)]) (st1 := [.int 0, .int v3]) rfl ⟨c26, trivial⟩ ?_
              rw [if_pos c26] at K; exact q_wdn (by omega) (by omega) K
            · skip
              refine q_go C tk_L_isWell [(53, 3)] [false] (pc1 := 98) (σ1 := τ) (lv1 := [(2, .int x24), (1, .int x19), (9, .int x12), (8, .int 0), (7, .int x10), (6, .int x8), (5, .int x4), (0, .ref 220), (3, .int v3), (4, .int v4)]) (st1 := [.int x12, .int v3]) rfl ⟨c26, trivial⟩ ?_
              rw [if_neg c26] at K; exact q_wdn (by omega) (by omega) K
        · clear hF
          by_cases c21 : x12 < 0
          · skip
            refine q_go C tk_L_isWell [(45, 1), (48, 1)] [true] (pc1 := 84) (σ1 := τ) (lv1 := [(1, .int x19), (9, .int x12), (8, .int 0), (7, .int x10), (6, .int x8), (5, .int x4), (0, .ref 220), (2, .int v2), (3, .int v3), (4, .int v4)]) (st1 := [.int 0, .int v2]) rfl ⟨c21, trivial⟩ ?_
            rw [if_pos c21] at K; exact q_wdn (by omega) (by omega) K
          · skip
            refine q_go C tk_L_isWell [(45, 3)] [false] (pc1 := 84) (σ1 := τ) (lv1 := [(1, .int x19), (9, .int x12), (8, .int 0), (7, .int x10), (6, .int x8), (5, .int x4), (0, .ref 220), (2, .int v2), (3, .int v3), (4, .int v4)]) (st1 := [.int 1, .int v2]) rfl ⟨c21, trivial⟩ ?_
            rw [if_neg c21] at K; exact q_wdn (by omega) (by omega) K
      · clear hF
        by_cases c16 : x14 = 0
        · skip
          refine q_go C tk_L_isWell [(37, 1), (40, 1)] [true] (pc1 := 71) (σ1 := τ) (lv1 := [(9, .int x12), (8, .int 0), (7, .int x10), (6, .int x8), (5, .int x4), (0, .ref 220), (1, .int v1), (2, .int v2), (3, .int v3), (4, .int v4)]) (st1 := [.int 0, .int v1]) rfl ⟨c16, trivial⟩ ?_
          rw [if_pos c16] at K; exact q_wdn (by omega) (by omega) K
        · skip
          refine q_go C tk_L_isWell [(37, 3)] [false] (pc1 := 71) (σ1 := τ) (lv1 := [(9, .int x12), (8, .int 0), (7, .int x10), (6, .int x8), (5, .int x4), (0, .ref 220), (1, .int v1), (2, .int v2), (3, .int v3), (4, .int v4)]) (st1 := [.int 1, .int v1]) rfl ⟨c16, trivial⟩ ?_
          rw [if_neg c16] at K; exact q_wdn (by omega) (by omega) K
    · rw [if_neg c3] at hF
      refine q_go C tk_L_isWell [(11, 1), (217, 2)] [true] (pc1 := 428) (σ1 := τ) (lv1 := [(0, .ref 220), (1, .int v1), (2, .int v2), (3, .int v3), (4, .int v4)]) (st1 := [.ref 220, .int v1]) rfl ⟨c3, trivial⟩ ?_
      refine q_callV C hfl mw_X8_runningCount mi_X8_runningCount me_X8_runningCount lk_L_241 (k_X8_runningCount τ ((hP.2 x1 e2).2 c3).1) (rest := [.int v1]) rfl rfl rfl (by decide) (by decide) rfl (q_dc (z := (428, .invokevirtual 241, 3, 0, 0)) tk_L_isWell 219 rfl) (Nat.le_of_ble_eq_true rfl) ⟨by omega, by omega⟩ ⟨by omega, by omega⟩ ?_
      refine q_nrm 431 [.int (F_X8_runningCount τ), .int v1] (u1 + 0) (u2 + 0) rfl rfl (by omega) (by omega) ?_
      refine q_nmI (fun x61 e62 => ?_)
      replace hF := q_let e62 hF
      refine q_go C tk_L_isWell [(220, 1)] [false] (pc1 := 434) (σ1 := τ) (lv1 := [(0, .ref 220), (1, .int v1), (2, .int v2), (3, .int v3), (4, .int v4)]) (st1 := []) rfl ⟨(((hP.2 x1 e2).2 c3).2 x61 e62).1, trivial⟩ ?_
      refine q_go C tk_L_isWell [(221, 1)] [] (pc1 := 435) (σ1 := τ) (lv1 := [(0, .ref 220), (1, .int v1), (2, .int v2), (3, .int v3), (4, .int v4)]) (st1 := [.ref 220]) rfl trivial ?_
      refine q_callV C hfl mw_X8_isFinished mi_X8_isFinished me_X8_isFinished lk_L_244 (k_X8_isFinished τ (((hP.2 x1 e2).2 c3).2 x61 e62).2.1) (rest := []) rfl rfl rfl (by decide) (by decide) rfl (q_dc (z := (435, .invokevirtual 244, 3, 0, 0)) tk_L_isWell 222 rfl) (Nat.le_of_ble_eq_true rfl) ⟨by omega, by omega⟩ ⟨by omega, by omega⟩ ?_
      refine q_nrm 438 [.int (F_X8_isFinished τ)] (u1 + 0) (u2 + 0) rfl rfl (by omega) (by omega) ?_
      refine q_nmI (fun x63 e64 => ?_)
      replace hF := q_let e64 hF
      refine q_go C tk_L_isWell [(223, 1)] [] (pc1 := 439) (σ1 := τ) (lv1 := [(0, .ref 220), (1, .int v1), (2, .int v2), (3, .int v3), (4, .int v4)]) (st1 := [.ref 220, .int x63]) rfl trivial ?_
      refine q_callV C hfl mw_X8_isStarted mi_X8_isStarted me_X8_isStarted lk_L_133 (k_X8_isStarted τ ((((hP.2 x1 e2).2 c3).2 x61 e62).2.2 x63 e64).1) (rest := [.int x63]) rfl rfl rfl (by decide) (by decide) rfl (q_dc (z := (439, .invokevirtual 133, 3, 0, 0)) tk_L_isWell 224 rfl) (Nat.le_of_ble_eq_true rfl) ⟨by omega, by omega⟩ ⟨by omega, by omega⟩ ?_
      refine q_nrm 442 [.int (F_X8_isStarted τ), .int x63] (u1 + 0) (u2 + 0) rfl rfl (by omega) (by omega) ?_
      refine q_nmI (fun x65 e66 => ?_)
      replace hF := q_let e66 hF
      refine q_mrgW (v := (if x65 = 0 then 0 else (if v1 = 0 then 1 else 0))) (M := 454) (σ1 := τ) (lv1 := [(0, .ref 220), (1, .int v1), (2, .int v2), (3, .int v3), (4, .int v4)]) (st1 := [.int x63]) (k1 := (u1 + 0)) (k2 := (u2 + 0)) (fun x69 e70 => ?_) (fun K => ?_)
      · replace hF := q_let e70 hF
        refine q_go C tk_L_isWell [(231, 1)] [false] (pc1 := 457) (σ1 := τ) (lv1 := [(0, .ref 220), (1, .int v1), (2, .int v2), (3, .int v3), (4, .int v4)]) (st1 := []) rfl ⟨((((((hP.2 x1 e2).2 c3).2 x61 e62).2.2 x63 e64).2 x65 e66).2 x69 e70).1, trivial⟩ ?_
        refine q_go C tk_L_isWell [(232, 1)] [] (pc1 := 458) (σ1 := τ) (lv1 := [(0, .ref 220), (1, .int v1), (2, .int v2), (3, .int v3), (4, .int v4)]) (st1 := [.int v2]) rfl trivial ?_
        by_cases c71 : v2 = 0
        · rw [if_pos c71] at hF
          refine q_go C tk_L_isWell [(233, 1), (243, 2)] [true] (pc1 := 479) (σ1 := τ) (lv1 := [(0, .ref 220), (1, .int v1), (2, .int v2), (3, .int v3), (4, .int v4)]) (st1 := [.int 1]) rfl ⟨c71, trivial⟩ ?_
          exact q_zret C hr (q_dc (z := (479, .ireturn, 1, 0, 0)) tk_L_isWell 246 rfl) (by decide +kernel) rfl (congrArg q_oi hF.symm) (by omega) (by omega)
        · rw [if_neg c71] at hF
          refine q_go C tk_L_isWell [(233, 2)] [false] (pc1 := 462) (σ1 := τ) (lv1 := [(0, .ref 220), (1, .int v1), (2, .int v2), (3, .int v3), (4, .int v4)]) (st1 := [.ref 220]) rfl ⟨c71, trivial⟩ ?_
          refine q_callV C hfl mw_X8_meanTime mi_X8_meanTime me_X8_meanTime lk_L_247 (n_X8_meanTime τ (((((((hP.2 x1 e2).2 c3).2 x61 e62).2.2 x63 e64).2 x65 e66).2 x69 e70).2.2 c71).1) (rest := []) rfl rfl rfl (by decide) (by decide) rfl (q_dc (z := (462, .invokevirtual 247, 3, 0, 0)) tk_L_isWell 235 rfl) (Nat.le_of_ble_eq_true rfl) ⟨by omega, by omega⟩ ⟨by omega, by omega⟩ ?_
          refine q_nrm 465 [.double (F_N8_meanTime τ)] (u1 + 1) (u2 + 6) rfl rfl (by omega) (by omega) ?_
          refine q_go C tk_L_isWell [(236, 4)] [] (pc1 := 469) (σ1 := τ) (lv1 := [(0, .ref 220), (1, .int v1), (2, .int v2), (3, .int v3), (4, .int v4)]) (st1 := [.double (FP.i2d v2), .double (FP.i2d v3), .double (F_N8_meanTime τ)]) rfl trivial ?_
          refine q_ddiv C c71 (q_dc (z := (469, .ddiv, 1, 0, 0)) tk_L_isWell 240 rfl) ?_
          refine q_nrm 470 [.double (FP.ddiv (FP.i2d v3) (FP.i2d v2)), .double (F_N8_meanTime τ)] (u1 + 1) (u2 + 6) rfl rfl (by omega) (by omega) ?_
          refine q_dcmp C (q_dc (z := (470, .dcmp .l, 1, 0, 0)) tk_L_isWell 241 rfl) ?_
          refine q_nrm 471 [.int (Op.cmpValue (FP.dcmp (F_N8_meanTime τ) (FP.ddiv (FP.i2d v3) (FP.i2d v2))) .l)] (u1 + 1) (u2 + 6) rfl rfl (by omega) (by omega) ?_
          refine q_go C tk_L_isWell [(242, 1)] [false] (pc1 := 474) (σ1 := τ) (lv1 := [(0, .ref 220), (1, .int v1), (2, .int v2), (3, .int v3), (4, .int v4)]) (st1 := []) rfl ⟨(((((((hP.2 x1 e2).2 c3).2 x61 e62).2.2 x63 e64).2 x65 e66).2 x69 e70).2.2 c71).2.1, trivial⟩ ?_
          refine q_go C tk_L_isWell [(243, 2)] [] (pc1 := 479) (σ1 := τ) (lv1 := [(0, .ref 220), (1, .int v1), (2, .int v2), (3, .int v3), (4, .int v4)]) (st1 := [.int 1]) rfl trivial ?_
          exact q_zret C hr (q_dc (z := (479, .ireturn, 1, 0, 0)) tk_L_isWell 246 rfl) (by decide +kernel) rfl (congrArg q_oi hF.symm) (by omega) (by omega)
      · clear hF
        by_cases c67 : x65 = 0
        · skip
          refine q_go C tk_L_isWell [(225, 1), (230, 1)] [true] (pc1 := 454) (σ1 := τ) (lv1 := [(0, .ref 220), (1, .int v1), (2, .int v2), (3, .int v3), (4, .int v4)]) (st1 := [.int 0, .int x63]) rfl ⟨c67, trivial⟩ ?_
          rw [if_pos c67] at K; exact q_wdn (by omega) (by omega) K
        · skip
          refine q_go C tk_L_isWell [(225, 2)] [false] (pc1 := 446) (σ1 := τ) (lv1 := [(0, .ref 220), (1, .int v1), (2, .int v2), (3, .int v3), (4, .int v4)]) (st1 := [.int v1, .int x63]) rfl ⟨c67, trivial⟩ ?_
          by_cases c68 : v1 = 0
          · skip
            refine q_go C tk_L_isWell [(227, 3)] [false] (pc1 := 454) (σ1 := τ) (lv1 := [(0, .ref 220), (1, .int v1), (2, .int v2), (3, .int v3), (4, .int v4)]) (st1 := [.int 1, .int x63]) rfl ⟨c68, trivial⟩ ?_
            rw [if_neg c67, if_pos c68] at K; exact q_wdn (by omega) (by omega) K
          · skip
            refine q_go C tk_L_isWell [(227, 1), (230, 1)] [true] (pc1 := 454) (σ1 := τ) (lv1 := [(0, .ref 220), (1, .int v1), (2, .int v2), (3, .int v3), (4, .int v4)]) (st1 := [.int 0, .int x63]) rfl ⟨c68, trivial⟩ ?_
            rw [if_neg c67, if_neg c68] at K; exact q_wdn (by omega) (by omega) K
def F_L_isWell (σ : q_M) : Int32 := (FL_L_isWell_9  7 0 0 0 0 σ)
def P_L_isWell (σ : q_M) : Prop := (PL_L_isWell_9  7 0 0 0 0 σ)
set_option maxRecDepth 100000 in
theorem k_L_isWell {α β : Nat → Nat} {D : va_G} {κ : Nat → ClassId} (σ : q_M) (hP : P_L_isWell σ) : q_C α β D κ yL_isWell cL_isWell 13 (Option.some Jvm.ClassFile.FieldType.boolean) 12 222 945 5670 [.ref 220] σ (q_oi (F_L_isWell σ)) σ := by
  refine q_enter (own := RL) (F := fun _ => none) (G := fun _ => none) (by decide +kernel) rfl Fok_L Gok_L (Nat.le_of_ble_eq_true rfl) (fun p l e s m args below meth c A hfl C hr hT => ?_)
  generalize hRR : ({ frames := 12, cells := 945, slots := 5670, locals := 222 } : Room) = R
  have hRf : 12 ≤ R.frames := by rw [← hRR]; exact Nat.le_refl _
  have hRc : 945 ≤ R.cells := by rw [← hRR]; exact Nat.le_refl _
  have hRs : 5670 ≤ R.slots := by rw [← hRR]; exact Nat.le_refl _
  have hRl : 222 ≤ R.locals := by rw [← hRR]; exact Nat.le_refl _
  generalize hF : F_L_isWell σ = rr
  unfold F_L_isWell at hF
  unfold P_L_isWell at hP
  refine q_go C tk_L_isWell [(0, 8)] [] (pc1 := 9) (σ1 := σ) (lv1 := [(4, .int 0), (3, .int 0), (2, .int 0), (1, .int 0), (0, .ref 220)]) (st1 := []) rfl trivial ?_
  refine q_lvpick [4, 3, 2, 1, 0] (lv' := [(0, .ref 220), (1, .int 0), (2, .int 0), (3, .int 0), (4, .int 0)]) rfl ?_
  exact kl_L_isWell_9   hfl C hr hRf hRl 945 5670 (by omega) (by omega) (by omega) (by omega) 7 0 0 0 0 σ 0 0 rr (by omega) (by omega) hP hF
