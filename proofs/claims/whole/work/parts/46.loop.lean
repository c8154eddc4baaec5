/-! The law's loop. -/
def tb_lwh : List q_E := [(28, .iload 5, 2, 0, 0), (30, .aload_n 0, 1, 0, 0), (31, .arraylength, 1, 0, 20), (32, .iconst 4, 1, 4, 0), (33, .isub, 1, 0, 0), (34, .if_icmp .gt 2626, 3, 0, 2660), (37, .aload_n 0, 1, 0, 0), (38, .iload 5, 2, 0, 0), (40, .iaload, 1, 0, 0), (41, .bipush 63, 2, 63, 0), (43, .iand, 1, 0, 0), (44, .tableswitch 2610 0 46 #[204, 248, 328, 384, 440, 484, 540, 596, 664, 720, 807, 820, 833, 846, 859, 872, 885, 941, 997, 1065, 1121, 1177, 1240, 1303, 1359, 1415, 1490, 1558, 1614, 1670, 1726, 1782, 1838, 1903, 1983, 2063, 2119, 2163, 2207, 2263, 2319, 2377, 2421, 2465, 2509, 2553, 2566], 204, 0, 0), (2654, .iinc 5 4, 3, 4, 0), (2657, .goto (-2629), 3, 0, 28), (2660, .iconst 1, 1, 1, 0), (2661, .ireturn, 1, 0, 0)]
set_option maxRecDepth 100000 in
theorem tk_lwh : q_tb code 9 tb_lwh = true := by decide +kernel
abbrev so_addTeam (Inv : Nat → q_M → Prop) (k : Nat) (σ : q_M) : Prop := (sim_addTeam σ ∧ Inv (k + 1) (to_addTeam σ))
abbrev so_setSpeed (Inv : Nat → q_M → Prop) (k : Nat) (σ : q_M) : Prop := (∀ g0 g1 g2 : Int32, sim_setSpeed g0 g1 g2 σ ∧ Inv (k + 1) (to_setSpeed g0 g1 g2 σ))
abbrev so_setLength (Inv : Nat → q_M → Prop) (k : Nat) (σ : q_M) : Prop := (∀ g0 : Int32, sim_setLength g0 σ ∧ Inv (k + 1) (to_setLength g0 σ))
abbrev so_drawLanes (Inv : Nat → q_M → Prop) (k : Nat) (σ : q_M) : Prop := (∀ g0 : Int32, sim_drawLanes g0 σ ∧ Inv (k + 1) (to_drawLanes g0 σ))
abbrev so_start (Inv : Nat → q_M → Prop) (k : Nat) (σ : q_M) : Prop := (sim_start σ ∧ Inv (k + 1) (to_start σ))
abbrev so_run (Inv : Nat → q_M → Prop) (k : Nat) (σ : q_M) : Prop := (∀ g0 : Int32, sim_run g0 σ ∧ Inv (k + 1) (to_run g0 σ))
abbrev so_pass (Inv : Nat → q_M → Prop) (k : Nat) (σ : q_M) : Prop := (∀ g0 : Int32, sim_pass g0 σ ∧ Inv (k + 1) (to_pass g0 σ))
abbrev so_drop (Inv : Nat → q_M → Prop) (k : Nat) (σ : q_M) : Prop := (∀ g0 g1 : Int32, sim_drop g0 g1 σ ∧ Inv (k + 1) (to_drop g0 g1 σ))
abbrev so_withdraw (Inv : Nat → q_M → Prop) (k : Nat) (σ : q_M) : Prop := (∀ g0 : Int32, sim_withdraw g0 σ ∧ Inv (k + 1) (to_withdraw g0 σ))
abbrev so_protest (Inv : Nat → q_M → Prop) (k : Nat) (σ : q_M) : Prop := (∀ g0 g1 g2 : Int32, sim_protest g0 g1 g2 σ ∧ Inv (k + 1) (to_protest g0 g1 g2 σ))
abbrev so_teamCount (Inv : Nat → q_M → Prop) (k : Nat) (σ : q_M) : Prop := (sim_teamCount σ ∧ Inv (k + 1) (to_teamCount σ))
abbrev so_runningCount (Inv : Nat → q_M → Prop) (k : Nat) (σ : q_M) : Prop := (sim_runningCount σ ∧ Inv (k + 1) (to_runningCount σ))
abbrev so_isStarted (Inv : Nat → q_M → Prop) (k : Nat) (σ : q_M) : Prop := (sim_isStarted σ ∧ Inv (k + 1) (to_isStarted σ))
abbrev so_isFinished (Inv : Nat → q_M → Prop) (k : Nat) (σ : q_M) : Prop := (sim_isFinished σ ∧ Inv (k + 1) (to_isFinished σ))
abbrev so_clock (Inv : Nat → q_M → Prop) (k : Nat) (σ : q_M) : Prop := (sim_clock σ ∧ Inv (k + 1) (to_clock σ))
abbrev so_length (Inv : Nat → q_M → Prop) (k : Nat) (σ : q_M) : Prop := (sim_length σ ∧ Inv (k + 1) (to_length σ))
abbrev so_laneOf (Inv : Nat → q_M → Prop) (k : Nat) (σ : q_M) : Prop := (∀ g0 : Int32, sim_laneOf g0 σ ∧ Inv (k + 1) (to_laneOf g0 σ))
abbrev so_teamInLane (Inv : Nat → q_M → Prop) (k : Nat) (σ : q_M) : Prop := (∀ g0 : Int32, sim_teamInLane g0 σ ∧ Inv (k + 1) (to_teamInLane g0 σ))
abbrev so_speedOf (Inv : Nat → q_M → Prop) (k : Nat) (σ : q_M) : Prop := (∀ g0 g1 : Int32, sim_speedOf g0 g1 σ ∧ Inv (k + 1) (to_speedOf g0 g1 σ))
abbrev so_positionOf (Inv : Nat → q_M → Prop) (k : Nat) (σ : q_M) : Prop := (∀ g0 : Int32, sim_positionOf g0 σ ∧ Inv (k + 1) (to_positionOf g0 σ))
abbrev so_legOf (Inv : Nat → q_M → Prop) (k : Nat) (σ : q_M) : Prop := (∀ g0 : Int32, sim_legOf g0 σ ∧ Inv (k + 1) (to_legOf g0 σ))
abbrev so_isRunning (Inv : Nat → q_M → Prop) (k : Nat) (σ : q_M) : Prop := (∀ g0 : Int32, sim_isRunning g0 σ ∧ Inv (k + 1) (to_isRunning g0 σ))
abbrev so_isInZone (Inv : Nat → q_M → Prop) (k : Nat) (σ : q_M) : Prop := (∀ g0 : Int32, sim_isInZone g0 σ ∧ Inv (k + 1) (to_isInZone g0 σ))
abbrev so_standingOf (Inv : Nat → q_M → Prop) (k : Nat) (σ : q_M) : Prop := (∀ g0 : Int32, sim_standingOf g0 σ ∧ Inv (k + 1) (to_standingOf g0 σ))
abbrev so_penaltyOf (Inv : Nat → q_M → Prop) (k : Nat) (σ : q_M) : Prop := (∀ g0 : Int32, sim_penaltyOf g0 σ ∧ Inv (k + 1) (to_penaltyOf g0 σ))
abbrev so_hasFoul (Inv : Nat → q_M → Prop) (k : Nat) (σ : q_M) : Prop := (∀ g0 g1 : Int32, sim_hasFoul g0 g1 σ ∧ Inv (k + 1) (to_hasFoul g0 g1 σ))
abbrev so_splitOf (Inv : Nat → q_M → Prop) (k : Nat) (σ : q_M) : Prop := (∀ g0 g1 : Int32, sim_splitOf g0 g1 σ ∧ Inv (k + 1) (to_splitOf g0 g1 σ))
abbrev so_splitSum (Inv : Nat → q_M → Prop) (k : Nat) (σ : q_M) : Prop := (∀ g0 : Int32, sim_splitSum g0 σ ∧ Inv (k + 1) (to_splitSum g0 σ))
abbrev so_timeOf (Inv : Nat → q_M → Prop) (k : Nat) (σ : q_M) : Prop := (∀ g0 : Int32, sim_timeOf g0 σ ∧ Inv (k + 1) (to_timeOf g0 σ))
abbrev so_resultOf (Inv : Nat → q_M → Prop) (k : Nat) (σ : q_M) : Prop := (∀ g0 : Int32, sim_resultOf g0 σ ∧ Inv (k + 1) (to_resultOf g0 σ))
abbrev so_teamAtRank (Inv : Nat → q_M → Prop) (k : Nat) (σ : q_M) : Prop := (∀ g0 : Int32, sim_teamAtRank g0 σ ∧ Inv (k + 1) (to_teamAtRank g0 σ))
abbrev so_rankOf (Inv : Nat → q_M → Prop) (k : Nat) (σ : q_M) : Prop := (∀ g0 : Int32, sim_rankOf g0 σ ∧ Inv (k + 1) (to_rankOf g0 σ))
abbrev so_meanTime (Inv : Nat → q_M → Prop) (k : Nat) (σ : q_M) : Prop := (sim_meanTime σ ∧ Inv (k + 1) (to_meanTime σ))
abbrev so_reach (Inv : Nat → q_M → Prop) (k : Nat) (σ : q_M) : Prop := (∀ g0 g1 g2 : Int32, sim_reach g0 g1 g2 σ ∧ Inv (k + 1) (to_reach g0 g1 g2 σ))
abbrev so_reachByStretches (Inv : Nat → q_M → Prop) (k : Nat) (σ : q_M) : Prop := (∀ g0 g1 g2 : Int32, sim_reachByStretches g0 g1 g2 σ ∧ Inv (k + 1) (to_reachByStretches g0 g1 g2 σ))
abbrev so_secondsToZone (Inv : Nat → q_M → Prop) (k : Nat) (σ : q_M) : Prop := (∀ g0 : Int32, sim_secondsToZone g0 σ ∧ Inv (k + 1) (to_secondsToZone g0 σ))
abbrev so_refusalReason (Inv : Nat → q_M → Prop) (k : Nat) (σ : q_M) : Prop := (sim_refusalReason σ ∧ Inv (k + 1) (to_refusalReason σ))
abbrev so_refusedTeam (Inv : Nat → q_M → Prop) (k : Nat) (σ : q_M) : Prop := (sim_refusedTeam σ ∧ Inv (k + 1) (to_refusedTeam σ))
abbrev so_writeBanner (Inv : Nat → q_M → Prop) (k : Nat) (σ : q_M) : Prop := (∀ g0 : Int32, sim_writeBanner g0 σ ∧ Inv (k + 1) (to_writeBanner g0 σ))
abbrev so_bannerAt (Inv : Nat → q_M → Prop) (k : Nat) (σ : q_M) : Prop := (∀ g0 : Int32, sim_bannerAt g0 σ ∧ Inv (k + 1) (to_bannerAt g0 σ))
abbrev so_type (Inv : Nat → q_M → Prop) (k : Nat) (σ : q_M) : Prop := (∀ x : Int32, sim_type ((x.toUInt32 % 65536).toInt32) σ ∧ Inv (k + 1) (to_type ((x.toUInt32 % 65536).toInt32) σ))
abbrev so_execute (Inv : Nat → q_M → Prop) (k : Nat) (σ : q_M) : Prop := (sim_execute σ ∧ Inv (k + 1) (to_execute σ))
abbrev so_errorPosition (Inv : Nat → q_M → Prop) (k : Nat) (σ : q_M) : Prop := (sim_errorPosition σ ∧ Inv (k + 1) (to_errorPosition σ))
abbrev so_failedCommand (Inv : Nat → q_M → Prop) (k : Nat) (σ : q_M) : Prop := (sim_failedCommand σ ∧ Inv (k + 1) (to_failedCommand σ))
abbrev so_undo (Inv : Nat → q_M → Prop) (k : Nat) (σ : q_M) : Prop := (sim_undo σ ∧ Inv (k + 1) (to_undo σ))
abbrev so_save (Inv : Nat → q_M → Prop) (k : Nat) (σ : q_M) : Prop := (sim_save σ ∧ Inv (k + 1) (to_save σ))
abbrev so_restore (Inv : Nat → q_M → Prop) (k : Nat) (σ : q_M) : Prop := (sim_restore σ ∧ Inv (k + 1) (to_restore σ))
def q_stepOK (Inv : Nat → q_M → Prop) : Prop := ∀ (k : Nat) (σ : q_M), k < 512 → Inv k σ → so_addTeam Inv k σ ∧ so_setSpeed Inv k σ ∧ so_setLength Inv k σ ∧ so_drawLanes Inv k σ ∧ so_start Inv k σ ∧ so_run Inv k σ ∧ so_pass Inv k σ ∧ so_drop Inv k σ ∧ so_withdraw Inv k σ ∧ so_protest Inv k σ ∧ so_teamCount Inv k σ ∧ so_runningCount Inv k σ ∧ so_isStarted Inv k σ ∧ so_isFinished Inv k σ ∧ so_clock Inv k σ ∧ so_length Inv k σ ∧ so_laneOf Inv k σ ∧ so_teamInLane Inv k σ ∧ so_speedOf Inv k σ ∧ so_positionOf Inv k σ ∧ so_legOf Inv k σ ∧ so_isRunning Inv k σ ∧ so_isInZone Inv k σ ∧ so_standingOf Inv k σ ∧ so_penaltyOf Inv k σ ∧ so_hasFoul Inv k σ ∧ so_splitOf Inv k σ ∧ so_splitSum Inv k σ ∧ so_timeOf Inv k σ ∧ so_resultOf Inv k σ ∧ so_teamAtRank Inv k σ ∧ so_rankOf Inv k σ ∧ so_meanTime Inv k σ ∧ so_reach Inv k σ ∧ so_reachByStretches Inv k σ ∧ so_secondsToZone Inv k σ ∧ so_refusalReason Inv k σ ∧ so_refusedTeam Inv k σ ∧ so_writeBanner Inv k σ ∧ so_bannerAt Inv k σ ∧ so_type Inv k σ ∧ so_execute Inv k σ ∧ so_errorPosition Inv k σ ∧ so_failedCommand Inv k σ ∧ so_undo Inv k σ ∧ so_save Inv k σ ∧ so_restore Inv k σ ∧ Inv (k + 1) σ
set_option maxRecDepth 100000 in
set_option maxHeartbeats 8000000 in
theorem lw_loop {α β : Nat → Nat} {D : va_G} {κ : Nat → ClassId} {p : Program} {l : Launch} {e : Env} {s : State} {m : MethodId} {args : Array Value} {below : List Frame} {meth : Method} {c : Code} {A : Nat → Prop} {Q : State → Prop} (C : q_Cx α β D κ p s m args meth c code RL (fun _ => none) (fun _ => none) 9 A) (hfl : l.flags = flags0) {L : Nat} {xs : Nat → Int32} (hX : q_scr α s A L xs) (hL : L ≤ 2048) (Inv : Nat → q_M → Prop) (hstep : q_stepOK Inv) (hend : ∀ (σ : q_M) (k n1 n2 : Nat), n1 ≤ 600000 → n2 ≤ 7000000 → q_St α β D κ p l e room_1 s m args below meth c 9 A Q n1 n2 σ [(0, .ref 239), (1, .ref 220), (2, .ref 229), (3, .ref 237), (4, .ref 238), (5, .int (nI (4 * k)))] 2660 []) :
    ∀ (n k : Nat) (σ : q_M), k + n = 513 → Inv k σ → q_St α β D κ p l e room_1 s m args below meth c 9 A Q (300 + 12 * k) (20000 + 2000 * k) σ [(0, .ref 239), (1, .ref 220), (2, .ref 229), (3, .ref 237), (4, .ref 238), (5, .int (nI (4 * k)))] 28 [] := by
  intro n
  induction n with
  | zero =>
    intro k σ hk hI
    have hk9 : k = 513 := by omega
    refine q_go C tk_lwh [(0, 2)] [] (pc1 := 31) (σ1 := σ) (lv1 := [(0, .ref 239), (1, .ref 220), (2, .ref 229), (3, .ref 237), (4, .ref 238), (5, .int (nI (4 * k)))]) (st1 := [.ref 239, .int (nI (4 * k))]) rfl trivial ?_
    refine q_slen C hX (q_dc (z := (31, .arraylength, 1, 0, 20)) tk_lwh 2 rfl) ?_
    refine q_go C tk_lwh [(3, 2)] [] (pc1 := 34) (σ1 := σ) (lv1 := [(0, .ref 239), (1, .ref 220), (2, .ref 229), (3, .ref 237), (4, .ref 238), (5, .int (nI (4 * k)))]) (st1 := [.int (nI L - 4), .int (nI (4 * k))]) rfl trivial ?_
    have e1 : (nI L - nI 4).toInt = (L : Int) - 4 := pk_sub_toInt (by omega) (by decide)
    have e2 : (nI (4 * k)).toInt = ((4 * k : Nat) : Int) := nI_toInt (by omega)
    refine q_go C tk_lwh [(5, 1)] [true] (pc1 := 2660) (σ1 := σ) (lv1 := [(0, .ref 239), (1, .ref 220), (2, .ref 229), (3, .ref 237), (4, .ref 238), (5, .int (nI (4 * k)))]) (st1 := []) rfl ⟨(show nI L - nI 4 < nI (4 * k) from by rw [Int32.lt_iff_toInt_lt, e1, e2]; omega), trivial⟩ ?_
    exact hend σ k _ _ (by omega) (by omega)
  | succ n ih =>
    intro k σ hk hI
    refine q_go C tk_lwh [(0, 2)] [] (pc1 := 31) (σ1 := σ) (lv1 := [(0, .ref 239), (1, .ref 220), (2, .ref 229), (3, .ref 237), (4, .ref 238), (5, .int (nI (4 * k)))]) (st1 := [.ref 239, .int (nI (4 * k))]) rfl trivial ?_
    refine q_slen C hX (q_dc (z := (31, .arraylength, 1, 0, 20)) tk_lwh 2 rfl) ?_
    refine q_go C tk_lwh [(3, 2)] [] (pc1 := 34) (σ1 := σ) (lv1 := [(0, .ref 239), (1, .ref 220), (2, .ref 229), (3, .ref 237), (4, .ref 238), (5, .int (nI (4 * k)))]) (st1 := [.int (nI L - 4), .int (nI (4 * k))]) rfl trivial ?_
    have e1 : (nI L - nI 4).toInt = (L : Int) - 4 := pk_sub_toInt (by omega) (by decide)
    have e2 : (nI (4 * k)).toInt = ((4 * k : Nat) : Int) := nI_toInt (by omega)
    by_cases hlt : L < 4 * k + 4
    · refine q_go C tk_lwh [(5, 1)] [true] (pc1 := 2660) (σ1 := σ) (lv1 := [(0, .ref 239), (1, .ref 220), (2, .ref 229), (3, .ref 237), (4, .ref 238), (5, .int (nI (4 * k)))]) (st1 := []) rfl ⟨(show nI L - nI 4 < nI (4 * k) from by rw [Int32.lt_iff_toInt_lt, e1, e2]; omega), trivial⟩ ?_
      exact hend σ k _ _ (by omega) (by omega)
    have hk5 : k < 512 := by omega
    refine q_go C tk_lwh [(5, 3)] [false] (pc1 := 40) (σ1 := σ) (lv1 := [(0, .ref 239), (1, .ref 220), (2, .ref 229), (3, .ref 237), (4, .ref 238), (5, .int (nI (4 * k)))]) (st1 := [.int (nI (4 * k)), .ref 239]) rfl ⟨(show ¬ nI L - nI 4 < nI (4 * k) from by rw [Int32.lt_iff_toInt_lt, e1, e2]; omega), trivial⟩ ?_
    refine q_sld C hX (j := 4 * k) rfl (by omega) hL (q_dc (z := (40, .iaload, 1, 0, 0)) tk_lwh 8 rfl) ?_
    refine q_go C tk_lwh [(9, 2)] [] (pc1 := 44) (σ1 := σ) (lv1 := [(0, .ref 239), (1, .ref 220), (2, .ref 229), (3, .ref 237), (4, .ref 238), (5, .int (nI (4 * k)))]) (st1 := [.int (xs (4 * k) &&& 63)]) rfl trivial ?_
    have next : ∀ τ : q_M, Inv (k + 1) τ → q_St α β D κ p l e room_1 s m args below meth c 9 A Q (300 + 12 * k + 12) (20000 + 2000 * k + 2000) τ [(0, .ref 239), (1, .ref 220), (2, .ref 229), (3, .ref 237), (4, .ref 238), (5, .int (nI (4 * k)))] 2654 [] := by
      intro τ hτ
      refine q_go C tk_lwh [(12, 2)] [] (pc1 := 28) (σ1 := τ) (lv1 := (5, .int (nI (4 * k) + 4)) :: [(0, .ref 239), (1, .ref 220), (2, .ref 229), (3, .ref 237), (4, .ref 238)]) (st1 := []) rfl trivial ?_
      have h9 := ih (k + 1) τ (by omega) hτ
      rw [show 4 * (k + 1) = 4 * k + 4 by omega, ← nI_add (4 * k) 4] at h9
      rw [show 300 + 12 * (k + 1) = 300 + 12 * k + 12 by omega, show 20000 + 2000 * (k + 1) = 20000 + 2000 * k + 2000 by omega] at h9
      exact q_lvpick [1, 2, 3, 4, 5, 0] rfl h9
    obtain ⟨j, hj, ej⟩ := pk_andE (xs (4 * k)) (m := 63) 6 (by decide +kernel)
    rw [ej]
    have hs := hstep k σ hk5 hI
    have hi : 4 * k + 4 ≤ L := by omega
    have hn : 300 + 12 * k + 12 ≤ 600000 := by omega
    have hn2 : 20000 + 2000 * k + 2000 ≤ 7000000 := by omega
    by_cases c0 : j = 0
    · subst c0
      have h9 := hs.1
      refine q_tabIn (tgt := 248) C (q_dc (z := (44, .tableswitch 2610 0 46 #[204, 248, 328, 384, 440, 484, 540, 596, 664, 720, 807, 820, 833, 846, 859, 872, 885, 941, 997, 1065, 1121, 1177, 1240, 1303, 1359, 1415, 1490, 1558, 1614, 1670, 1726, 1782, 1838, 1903, 1983, 2063, 2119, 2163, 2207, 2263, 2319, 2377, 2421, 2465, 2509, 2553, 2566], 204, 0, 0)) tk_lwh 11 rfl) (by decide +kernel) (by decide +kernel) rfl (by decide) ?_
      exact lw_addTeam (i := 4 * k) C hfl hX hi hL hn hn2 σ (h9).1 (next _ (h9).2)
    by_cases c1 : j = 1
    · subst c1
      have h9 := hs.2.1
      refine q_tabIn (tgt := 292) C (q_dc (z := (44, .tableswitch 2610 0 46 #[204, 248, 328, 384, 440, 484, 540, 596, 664, 720, 807, 820, 833, 846, 859, 872, 885, 941, 997, 1065, 1121, 1177, 1240, 1303, 1359, 1415, 1490, 1558, 1614, 1670, 1726, 1782, 1838, 1903, 1983, 2063, 2119, 2163, 2207, 2263, 2319, 2377, 2421, 2465, 2509, 2553, 2566], 204, 0, 0)) tk_lwh 11 rfl) (by decide +kernel) (by decide +kernel) rfl (by decide) ?_
      exact lw_setSpeed (i := 4 * k) C hfl hX hi hL hn hn2 σ (h9 (xs (4 * k + 1)) (xs (4 * k + 2)) (xs (4 * k + 3))).1 (next _ (h9 (xs (4 * k + 1)) (xs (4 * k + 2)) (xs (4 * k + 3))).2)
    by_cases c2 : j = 2
    · subst c2
      have h9 := hs.2.2.1
      refine q_tabIn (tgt := 372) C (q_dc (z := (44, .tableswitch 2610 0 46 #[204, 248, 328, 384, 440, 484, 540, 596, 664, 720, 807, 820, 833, 846, 859, 872, 885, 941, 997, 1065, 1121, 1177, 1240, 1303, 1359, 1415, 1490, 1558, 1614, 1670, 1726, 1782, 1838, 1903, 1983, 2063, 2119, 2163, 2207, 2263, 2319, 2377, 2421, 2465, 2509, 2553, 2566], 204, 0, 0)) tk_lwh 11 rfl) (by decide +kernel) (by decide +kernel) rfl (by decide) ?_
      exact lw_setLength (i := 4 * k) C hfl hX hi hL hn hn2 σ (h9 (xs (4 * k + 1))).1 (next _ (h9 (xs (4 * k + 1))).2)
    by_cases c3 : j = 3
    · subst c3
      have h9 := hs.2.2.2.1
      refine q_tabIn (tgt := 428) C (q_dc (z := (44, .tableswitch 2610 0 46 #[204, 248, 328, 384, 440, 484, 540, 596, 664, 720, 807, 820, 833, 846, 859, 872, 885, 941, 997, 1065, 1121, 1177, 1240, 1303, 1359, 1415, 1490, 1558, 1614, 1670, 1726, 1782, 1838, 1903, 1983, 2063, 2119, 2163, 2207, 2263, 2319, 2377, 2421, 2465, 2509, 2553, 2566], 204, 0, 0)) tk_lwh 11 rfl) (by decide +kernel) (by decide +kernel) rfl (by decide) ?_
      exact lw_drawLanes (i := 4 * k) C hfl hX hi hL hn hn2 σ (h9 (xs (4 * k + 1))).1 (next _ (h9 (xs (4 * k + 1))).2)
    by_cases c4 : j = 4
    · subst c4
      have h9 := hs.2.2.2.2.1
      refine q_tabIn (tgt := 484) C (q_dc (z := (44, .tableswitch 2610 0 46 #[204, 248, 328, 384, 440, 484, 540, 596, 664, 720, 807, 820, 833, 846, 859, 872, 885, 941, 997, 1065, 1121, 1177, 1240, 1303, 1359, 1415, 1490, 1558, 1614, 1670, 1726, 1782, 1838, 1903, 1983, 2063, 2119, 2163, 2207, 2263, 2319, 2377, 2421, 2465, 2509, 2553, 2566], 204, 0, 0)) tk_lwh 11 rfl) (by decide +kernel) (by decide +kernel) rfl (by decide) ?_
      exact lw_start (i := 4 * k) C hfl hX hi hL hn hn2 σ (h9).1 (next _ (h9).2)
    by_cases c5 : j = 5
    · subst c5
      have h9 := hs.2.2.2.2.2.1
      refine q_tabIn (tgt := 528) C (q_dc (z := (44, .tableswitch 2610 0 46 #[204, 248, 328, 384, 440, 484, 540, 596, 664, 720, 807, 820, 833, 846, 859, 872, 885, 941, 997, 1065, 1121, 1177, 1240, 1303, 1359, 1415, 1490, 1558, 1614, 1670, 1726, 1782, 1838, 1903, 1983, 2063, 2119, 2163, 2207, 2263, 2319, 2377, 2421, 2465, 2509, 2553, 2566], 204, 0, 0)) tk_lwh 11 rfl) (by decide +kernel) (by decide +kernel) rfl (by decide) ?_
      exact lw_run (i := 4 * k) C hfl hX hi hL hn hn2 σ (h9 (xs (4 * k + 1))).1 (next _ (h9 (xs (4 * k + 1))).2)
    by_cases c6 : j = 6
    · subst c6
      have h9 := hs.2.2.2.2.2.2.1
      refine q_tabIn (tgt := 584) C (q_dc (z := (44, .tableswitch 2610 0 46 #[204, 248, 328, 384, 440, 484, 540, 596, 664, 720, 807, 820, 833, 846, 859, 872, 885, 941, 997, 1065, 1121, 1177, 1240, 1303, 1359, 1415, 1490, 1558, 1614, 1670, 1726, 1782, 1838, 1903, 1983, 2063, 2119, 2163, 2207, 2263, 2319, 2377, 2421, 2465, 2509, 2553, 2566], 204, 0, 0)) tk_lwh 11 rfl) (by decide +kernel) (by decide +kernel) rfl (by decide) ?_
      exact lw_pass (i := 4 * k) C hfl hX hi hL hn hn2 σ (h9 (xs (4 * k + 1))).1 (next _ (h9 (xs (4 * k + 1))).2)
    by_cases c7 : j = 7
    · subst c7
      have h9 := hs.2.2.2.2.2.2.2.1
      refine q_tabIn (tgt := 640) C (q_dc (z := (44, .tableswitch 2610 0 46 #[204, 248, 328, 384, 440, 484, 540, 596, 664, 720, 807, 820, 833, 846, 859, 872, 885, 941, 997, 1065, 1121, 1177, 1240, 1303, 1359, 1415, 1490, 1558, 1614, 1670, 1726, 1782, 1838, 1903, 1983, 2063, 2119, 2163, 2207, 2263, 2319, 2377, 2421, 2465, 2509, 2553, 2566], 204, 0, 0)) tk_lwh 11 rfl) (by decide +kernel) (by decide +kernel) rfl (by decide) ?_
      exact lw_drop (i := 4 * k) C hfl hX hi hL hn hn2 σ (h9 (xs (4 * k + 1)) (xs (4 * k + 2))).1 (next _ (h9 (xs (4 * k + 1)) (xs (4 * k + 2))).2)
    by_cases c8 : j = 8
    · subst c8
      have h9 := hs.2.2.2.2.2.2.2.2.1
      refine q_tabIn (tgt := 708) C (q_dc (z := (44, .tableswitch 2610 0 46 #[204, 248, 328, 384, 440, 484, 540, 596, 664, 720, 807, 820, 833, 846, 859, 872, 885, 941, 997, 1065, 1121, 1177, 1240, 1303, 1359, 1415, 1490, 1558, 1614, 1670, 1726, 1782, 1838, 1903, 1983, 2063, 2119, 2163, 2207, 2263, 2319, 2377, 2421, 2465, 2509, 2553, 2566], 204, 0, 0)) tk_lwh 11 rfl) (by decide +kernel) (by decide +kernel) rfl (by decide) ?_
      exact lw_withdraw (i := 4 * k) C hfl hX hi hL hn hn2 σ (h9 (xs (4 * k + 1))).1 (next _ (h9 (xs (4 * k + 1))).2)
    by_cases c9 : j = 9
    · subst c9
      have h9 := hs.2.2.2.2.2.2.2.2.2.1
      refine q_tabIn (tgt := 764) C (q_dc (z := (44, .tableswitch 2610 0 46 #[204, 248, 328, 384, 440, 484, 540, 596, 664, 720, 807, 820, 833, 846, 859, 872, 885, 941, 997, 1065, 1121, 1177, 1240, 1303, 1359, 1415, 1490, 1558, 1614, 1670, 1726, 1782, 1838, 1903, 1983, 2063, 2119, 2163, 2207, 2263, 2319, 2377, 2421, 2465, 2509, 2553, 2566], 204, 0, 0)) tk_lwh 11 rfl) (by decide +kernel) (by decide +kernel) rfl (by decide) ?_
      exact lw_protest (i := 4 * k) C hfl hX hi hL hn hn2 σ (h9 (xs (4 * k + 1)) (xs (4 * k + 2)) (xs (4 * k + 3))).1 (next _ (h9 (xs (4 * k + 1)) (xs (4 * k + 2)) (xs (4 * k + 3))).2)
    by_cases c10 : j = 10
    · subst c10
      have h9 := hs.2.2.2.2.2.2.2.2.2.2.1
      refine q_tabIn (tgt := 851) C (q_dc (z := (44, .tableswitch 2610 0 46 #[204, 248, 328, 384, 440, 484, 540, 596, 664, 720, 807, 820, 833, 846, 859, 872, 885, 941, 997, 1065, 1121, 1177, 1240, 1303, 1359, 1415, 1490, 1558, 1614, 1670, 1726, 1782, 1838, 1903, 1983, 2063, 2119, 2163, 2207, 2263, 2319, 2377, 2421, 2465, 2509, 2553, 2566], 204, 0, 0)) tk_lwh 11 rfl) (by decide +kernel) (by decide +kernel) rfl (by decide) ?_
      exact lw_teamCount (i := 4 * k) C hfl hn hn2 σ (h9).1 (next _ (h9).2)
    by_cases c11 : j = 11
    · subst c11
      have h9 := hs.2.2.2.2.2.2.2.2.2.2.2.1
      refine q_tabIn (tgt := 864) C (q_dc (z := (44, .tableswitch 2610 0 46 #[204, 248, 328, 384, 440, 484, 540, 596, 664, 720, 807, 820, 833, 846, 859, 872, 885, 941, 997, 1065, 1121, 1177, 1240, 1303, 1359, 1415, 1490, 1558, 1614, 1670, 1726, 1782, 1838, 1903, 1983, 2063, 2119, 2163, 2207, 2263, 2319, 2377, 2421, 2465, 2509, 2553, 2566], 204, 0, 0)) tk_lwh 11 rfl) (by decide +kernel) (by decide +kernel) rfl (by decide) ?_
      exact lw_runningCount (i := 4 * k) C hfl hn hn2 σ (h9).1 (next _ (h9).2)
    by_cases c12 : j = 12
    · subst c12
      have h9 := hs.2.2.2.2.2.2.2.2.2.2.2.2.1
      refine q_tabIn (tgt := 877) C (q_dc (z := (44, .tableswitch 2610 0 46 #[204, 248, 328, 384, 440, 484, 540, 596, 664, 720, 807, 820, 833, 846, 859, 872, 885, 941, 997, 1065, 1121, 1177, 1240, 1303, 1359, 1415, 1490, 1558, 1614, 1670, 1726, 1782, 1838, 1903, 1983, 2063, 2119, 2163, 2207, 2263, 2319, 2377, 2421, 2465, 2509, 2553, 2566], 204, 0, 0)) tk_lwh 11 rfl) (by decide +kernel) (by decide +kernel) rfl (by decide) ?_
      exact lw_isStarted (i := 4 * k) C hfl hn hn2 σ (h9).1 (next _ (h9).2)
    by_cases c13 : j = 13
    · subst c13
      have h9 := hs.2.2.2.2.2.2.2.2.2.2.2.2.2.1
      refine q_tabIn (tgt := 890) C (q_dc (z := (44, .tableswitch 2610 0 46 #[204, 248, 328, 384, 440, 484, 540, 596, 664, 720, 807, 820, 833, 846, 859, 872, 885, 941, 997, 1065, 1121, 1177, 1240, 1303, 1359, 1415, 1490, 1558, 1614, 1670, 1726, 1782, 1838, 1903, 1983, 2063, 2119, 2163, 2207, 2263, 2319, 2377, 2421, 2465, 2509, 2553, 2566], 204, 0, 0)) tk_lwh 11 rfl) (by decide +kernel) (by decide +kernel) rfl (by decide) ?_
      exact lw_isFinished (i := 4 * k) C hfl hn hn2 σ (h9).1 (next _ (h9).2)
    by_cases c14 : j = 14
    · subst c14
      have h9 := hs.2.2.2.2.2.2.2.2.2.2.2.2.2.2.1
      refine q_tabIn (tgt := 903) C (q_dc (z := (44, .tableswitch 2610 0 46 #[204, 248, 328, 384, 440, 484, 540, 596, 664, 720, 807, 820, 833, 846, 859, 872, 885, 941, 997, 1065, 1121, 1177, 1240, 1303, 1359, 1415, 1490, 1558, 1614, 1670, 1726, 1782, 1838, 1903, 1983, 2063, 2119, 2163, 2207, 2263, 2319, 2377, 2421, 2465, 2509, 2553, 2566], 204, 0, 0)) tk_lwh 11 rfl) (by decide +kernel) (by decide +kernel) rfl (by decide) ?_
      exact lw_clock (i := 4 * k) C hfl hn hn2 σ (h9).1 (next _ (h9).2)
    by_cases c15 : j = 15
    · subst c15
      have h9 := hs.2.2.2.2.2.2.2.2.2.2.2.2.2.2.2.1
      refine q_tabIn (tgt := 916) C (q_dc (z := (44, .tableswitch 2610 0 46 #[204, 248, 328, 384, 440, 484, 540, 596, 664, 720, 807, 820, 833, 846, 859, 872, 885, 941, 997, 1065, 1121, 1177, 1240, 1303, 1359, 1415, 1490, 1558, 1614, 1670, 1726, 1782, 1838, 1903, 1983, 2063, 2119, 2163, 2207, 2263, 2319, 2377, 2421, 2465, 2509, 2553, 2566], 204, 0, 0)) tk_lwh 11 rfl) (by decide +kernel) (by decide +kernel) rfl (by decide) ?_
      exact lw_length (i := 4 * k) C hfl hn hn2 σ (h9).1 (next _ (h9).2)
    by_cases c16 : j = 16
    · subst c16
      have h9 := hs.2.2.2.2.2.2.2.2.2.2.2.2.2.2.2.2.1
      refine q_tabIn (tgt := 929) C (q_dc (z := (44, .tableswitch 2610 0 46 #[204, 248, 328, 384, 440, 484, 540, 596, 664, 720, 807, 820, 833, 846, 859, 872, 885, 941, 997, 1065, 1121, 1177, 1240, 1303, 1359, 1415, 1490, 1558, 1614, 1670, 1726, 1782, 1838, 1903, 1983, 2063, 2119, 2163, 2207, 2263, 2319, 2377, 2421, 2465, 2509, 2553, 2566], 204, 0, 0)) tk_lwh 11 rfl) (by decide +kernel) (by decide +kernel) rfl (by decide) ?_
      exact lw_laneOf (i := 4 * k) C hfl hX hi hL hn hn2 σ (h9 (xs (4 * k + 1))).1 (next _ (h9 (xs (4 * k + 1))).2)
    by_cases c17 : j = 17
    · subst c17
      have h9 := hs.2.2.2.2.2.2.2.2.2.2.2.2.2.2.2.2.2.1
      refine q_tabIn (tgt := 985) C (q_dc (z := (44, .tableswitch 2610 0 46 #[204, 248, 328, 384, 440, 484, 540, 596, 664, 720, 807, 820, 833, 846, 859, 872, 885, 941, 997, 1065, 1121, 1177, 1240, 1303, 1359, 1415, 1490, 1558, 1614, 1670, 1726, 1782, 1838, 1903, 1983, 2063, 2119, 2163, 2207, 2263, 2319, 2377, 2421, 2465, 2509, 2553, 2566], 204, 0, 0)) tk_lwh 11 rfl) (by decide +kernel) (by decide +kernel) rfl (by decide) ?_
      exact lw_teamInLane (i := 4 * k) C hfl hX hi hL hn hn2 σ (h9 (xs (4 * k + 1))).1 (next _ (h9 (xs (4 * k + 1))).2)
    by_cases c18 : j = 18
    · subst c18
      have h9 := hs.2.2.2.2.2.2.2.2.2.2.2.2.2.2.2.2.2.2.1
      refine q_tabIn (tgt := 1041) C (q_dc (z := (44, .tableswitch 2610 0 46 #[204, 248, 328, 384, 440, 484, 540, 596, 664, 720, 807, 820, 833, 846, 859, 872, 885, 941, 997, 1065, 1121, 1177, 1240, 1303, 1359, 1415, 1490, 1558, 1614, 1670, 1726, 1782, 1838, 1903, 1983, 2063, 2119, 2163, 2207, 2263, 2319, 2377, 2421, 2465, 2509, 2553, 2566], 204, 0, 0)) tk_lwh 11 rfl) (by decide +kernel) (by decide +kernel) rfl (by decide) ?_
      exact lw_speedOf (i := 4 * k) C hfl hX hi hL hn hn2 σ (h9 (xs (4 * k + 1)) (xs (4 * k + 2))).1 (next _ (h9 (xs (4 * k + 1)) (xs (4 * k + 2))).2)
    by_cases c19 : j = 19
    · subst c19
      have h9 := hs.2.2.2.2.2.2.2.2.2.2.2.2.2.2.2.2.2.2.2.1
      refine q_tabIn (tgt := 1109) C (q_dc (z := (44, .tableswitch 2610 0 46 #[204, 248, 328, 384, 440, 484, 540, 596, 664, 720, 807, 820, 833, 846, 859, 872, 885, 941, 997, 1065, 1121, 1177, 1240, 1303, 1359, 1415, 1490, 1558, 1614, 1670, 1726, 1782, 1838, 1903, 1983, 2063, 2119, 2163, 2207, 2263, 2319, 2377, 2421, 2465, 2509, 2553, 2566], 204, 0, 0)) tk_lwh 11 rfl) (by decide +kernel) (by decide +kernel) rfl (by decide) ?_
      exact lw_positionOf (i := 4 * k) C hfl hX hi hL hn hn2 σ (h9 (xs (4 * k + 1))).1 (next _ (h9 (xs (4 * k + 1))).2)
    by_cases c20 : j = 20
    · subst c20
      have h9 := hs.2.2.2.2.2.2.2.2.2.2.2.2.2.2.2.2.2.2.2.2.1
      refine q_tabIn (tgt := 1165) C (q_dc (z := (44, .tableswitch 2610 0 46 #[204, 248, 328, 384, 440, 484, 540, 596, 664, 720, 807, 820, 833, 846, 859, 872, 885, 941, 997, 1065, 1121, 1177, 1240, 1303, 1359, 1415, 1490, 1558, 1614, 1670, 1726, 1782, 1838, 1903, 1983, 2063, 2119, 2163, 2207, 2263, 2319, 2377, 2421, 2465, 2509, 2553, 2566], 204, 0, 0)) tk_lwh 11 rfl) (by decide +kernel) (by decide +kernel) rfl (by decide) ?_
      exact lw_legOf (i := 4 * k) C hfl hX hi hL hn hn2 σ (h9 (xs (4 * k + 1))).1 (next _ (h9 (xs (4 * k + 1))).2)
    by_cases c21 : j = 21
    · subst c21
      have h9 := hs.2.2.2.2.2.2.2.2.2.2.2.2.2.2.2.2.2.2.2.2.2.1
      refine q_tabIn (tgt := 1221) C (q_dc (z := (44, .tableswitch 2610 0 46 #[204, 248, 328, 384, 440, 484, 540, 596, 664, 720, 807, 820, 833, 846, 859, 872, 885, 941, 997, 1065, 1121, 1177, 1240, 1303, 1359, 1415, 1490, 1558, 1614, 1670, 1726, 1782, 1838, 1903, 1983, 2063, 2119, 2163, 2207, 2263, 2319, 2377, 2421, 2465, 2509, 2553, 2566], 204, 0, 0)) tk_lwh 11 rfl) (by decide +kernel) (by decide +kernel) rfl (by decide) ?_
      exact lw_isRunning (i := 4 * k) C hfl hX hi hL hn hn2 σ (h9 (xs (4 * k + 1))).1 (next _ (h9 (xs (4 * k + 1))).2)
    by_cases c22 : j = 22
    · subst c22
      have h9 := hs.2.2.2.2.2.2.2.2.2.2.2.2.2.2.2.2.2.2.2.2.2.2.1
      refine q_tabIn (tgt := 1284) C (q_dc (z := (44, .tableswitch 2610 0 46 #[204, 248, 328, 384, 440, 484, 540, 596, 664, 720, 807, 820, 833, 846, 859, 872, 885, 941, 997, 1065, 1121, 1177, 1240, 1303, 1359, 1415, 1490, 1558, 1614, 1670, 1726, 1782, 1838, 1903, 1983, 2063, 2119, 2163, 2207, 2263, 2319, 2377, 2421, 2465, 2509, 2553, 2566], 204, 0, 0)) tk_lwh 11 rfl) (by decide +kernel) (by decide +kernel) rfl (by decide) ?_
      exact lw_isInZone (i := 4 * k) C hfl hX hi hL hn hn2 σ (h9 (xs (4 * k + 1))).1 (next _ (h9 (xs (4 * k + 1))).2)
    by_cases c23 : j = 23
    · subst c23
      have h9 := hs.2.2.2.2.2.2.2.2.2.2.2.2.2.2.2.2.2.2.2.2.2.2.2.1
      refine q_tabIn (tgt := 1347) C (q_dc (z := (44, .tableswitch 2610 0 46 #[204, 248, 328, 384, 440, 484, 540, 596, 664, 720, 807, 820, 833, 846, 859, 872, 885, 941, 997, 1065, 1121, 1177, 1240, 1303, 1359, 1415, 1490, 1558, 1614, 1670, 1726, 1782, 1838, 1903, 1983, 2063, 2119, 2163, 2207, 2263, 2319, 2377, 2421, 2465, 2509, 2553, 2566], 204, 0, 0)) tk_lwh 11 rfl) (by decide +kernel) (by decide +kernel) rfl (by decide) ?_
      exact lw_standingOf (i := 4 * k) C hfl hX hi hL hn hn2 σ (h9 (xs (4 * k + 1))).1 (next _ (h9 (xs (4 * k + 1))).2)
    by_cases c24 : j = 24
    · subst c24
      have h9 := hs.2.2.2.2.2.2.2.2.2.2.2.2.2.2.2.2.2.2.2.2.2.2.2.2.1
      refine q_tabIn (tgt := 1403) C (q_dc (z := (44, .tableswitch 2610 0 46 #[204, 248, 328, 384, 440, 484, 540, 596, 664, 720, 807, 820, 833, 846, 859, 872, 885, 941, 997, 1065, 1121, 1177, 1240, 1303, 1359, 1415, 1490, 1558, 1614, 1670, 1726, 1782, 1838, 1903, 1983, 2063, 2119, 2163, 2207, 2263, 2319, 2377, 2421, 2465, 2509, 2553, 2566], 204, 0, 0)) tk_lwh 11 rfl) (by decide +kernel) (by decide +kernel) rfl (by decide) ?_
      exact lw_penaltyOf (i := 4 * k) C hfl hX hi hL hn hn2 σ (h9 (xs (4 * k + 1))).1 (next _ (h9 (xs (4 * k + 1))).2)
    by_cases c25 : j = 25
    · subst c25
      have h9 := hs.2.2.2.2.2.2.2.2.2.2.2.2.2.2.2.2.2.2.2.2.2.2.2.2.2.1
      refine q_tabIn (tgt := 1459) C (q_dc (z := (44, .tableswitch 2610 0 46 #[204, 248, 328, 384, 440, 484, 540, 596, 664, 720, 807, 820, 833, 846, 859, 872, 885, 941, 997, 1065, 1121, 1177, 1240, 1303, 1359, 1415, 1490, 1558, 1614, 1670, 1726, 1782, 1838, 1903, 1983, 2063, 2119, 2163, 2207, 2263, 2319, 2377, 2421, 2465, 2509, 2553, 2566], 204, 0, 0)) tk_lwh 11 rfl) (by decide +kernel) (by decide +kernel) rfl (by decide) ?_
      exact lw_hasFoul (i := 4 * k) C hfl hX hi hL hn hn2 σ (h9 (xs (4 * k + 1)) (xs (4 * k + 2))).1 (next _ (h9 (xs (4 * k + 1)) (xs (4 * k + 2))).2)
    by_cases c26 : j = 26
    · subst c26
      have h9 := hs.2.2.2.2.2.2.2.2.2.2.2.2.2.2.2.2.2.2.2.2.2.2.2.2.2.2.1
      refine q_tabIn (tgt := 1534) C (q_dc (z := (44, .tableswitch 2610 0 46 #[204, 248, 328, 384, 440, 484, 540, 596, 664, 720, 807, 820, 833, 846, 859, 872, 885, 941, 997, 1065, 1121, 1177, 1240, 1303, 1359, 1415, 1490, 1558, 1614, 1670, 1726, 1782, 1838, 1903, 1983, 2063, 2119, 2163, 2207, 2263, 2319, 2377, 2421, 2465, 2509, 2553, 2566], 204, 0, 0)) tk_lwh 11 rfl) (by decide +kernel) (by decide +kernel) rfl (by decide) ?_
      exact lw_splitOf (i := 4 * k) C hfl hX hi hL hn hn2 σ (h9 (xs (4 * k + 1)) (xs (4 * k + 2))).1 (next _ (h9 (xs (4 * k + 1)) (xs (4 * k + 2))).2)
    by_cases c27 : j = 27
    · subst c27
      have h9 := hs.2.2.2.2.2.2.2.2.2.2.2.2.2.2.2.2.2.2.2.2.2.2.2.2.2.2.2.1
      refine q_tabIn (tgt := 1602) C (q_dc (z := (44, .tableswitch 2610 0 46 #[204, 248, 328, 384, 440, 484, 540, 596, 664, 720, 807, 820, 833, 846, 859, 872, 885, 941, 997, 1065, 1121, 1177, 1240, 1303, 1359, 1415, 1490, 1558, 1614, 1670, 1726, 1782, 1838, 1903, 1983, 2063, 2119, 2163, 2207, 2263, 2319, 2377, 2421, 2465, 2509, 2553, 2566], 204, 0, 0)) tk_lwh 11 rfl) (by decide +kernel) (by decide +kernel) rfl (by decide) ?_
      exact lw_splitSum (i := 4 * k) C hfl hX hi hL hn hn2 σ (h9 (xs (4 * k + 1))).1 (next _ (h9 (xs (4 * k + 1))).2)
    by_cases c28 : j = 28
    · subst c28
      have h9 := hs.2.2.2.2.2.2.2.2.2.2.2.2.2.2.2.2.2.2.2.2.2.2.2.2.2.2.2.2.1
      refine q_tabIn (tgt := 1658) C (q_dc (z := (44, .tableswitch 2610 0 46 #[204, 248, 328, 384, 440, 484, 540, 596, 664, 720, 807, 820, 833, 846, 859, 872, 885, 941, 997, 1065, 1121, 1177, 1240, 1303, 1359, 1415, 1490, 1558, 1614, 1670, 1726, 1782, 1838, 1903, 1983, 2063, 2119, 2163, 2207, 2263, 2319, 2377, 2421, 2465, 2509, 2553, 2566], 204, 0, 0)) tk_lwh 11 rfl) (by decide +kernel) (by decide +kernel) rfl (by decide) ?_
      exact lw_timeOf (i := 4 * k) C hfl hX hi hL hn hn2 σ (h9 (xs (4 * k + 1))).1 (next _ (h9 (xs (4 * k + 1))).2)
    by_cases c29 : j = 29
    · subst c29
      have h9 := hs.2.2.2.2.2.2.2.2.2.2.2.2.2.2.2.2.2.2.2.2.2.2.2.2.2.2.2.2.2.1
      refine q_tabIn (tgt := 1714) C (q_dc (z := (44, .tableswitch 2610 0 46 #[204, 248, 328, 384, 440, 484, 540, 596, 664, 720, 807, 820, 833, 846, 859, 872, 885, 941, 997, 1065, 1121, 1177, 1240, 1303, 1359, 1415, 1490, 1558, 1614, 1670, 1726, 1782, 1838, 1903, 1983, 2063, 2119, 2163, 2207, 2263, 2319, 2377, 2421, 2465, 2509, 2553, 2566], 204, 0, 0)) tk_lwh 11 rfl) (by decide +kernel) (by decide +kernel) rfl (by decide) ?_
      exact lw_resultOf (i := 4 * k) C hfl hX hi hL hn hn2 σ (h9 (xs (4 * k + 1))).1 (next _ (h9 (xs (4 * k + 1))).2)
    by_cases c30 : j = 30
    · subst c30
      have h9 := hs.2.2.2.2.2.2.2.2.2.2.2.2.2.2.2.2.2.2.2.2.2.2.2.2.2.2.2.2.2.2.1
      refine q_tabIn (tgt := 1770) C (q_dc (z := (44, .tableswitch 2610 0 46 #[204, 248, 328, 384, 440, 484, 540, 596, 664, 720, 807, 820, 833, 846, 859, 872, 885, 941, 997, 1065, 1121, 1177, 1240, 1303, 1359, 1415, 1490, 1558, 1614, 1670, 1726, 1782, 1838, 1903, 1983, 2063, 2119, 2163, 2207, 2263, 2319, 2377, 2421, 2465, 2509, 2553, 2566], 204, 0, 0)) tk_lwh 11 rfl) (by decide +kernel) (by decide +kernel) rfl (by decide) ?_
      exact lw_teamAtRank (i := 4 * k) C hfl hX hi hL hn hn2 σ (h9 (xs (4 * k + 1))).1 (next _ (h9 (xs (4 * k + 1))).2)
    by_cases c31 : j = 31
    · subst c31
      have h9 := hs.2.2.2.2.2.2.2.2.2.2.2.2.2.2.2.2.2.2.2.2.2.2.2.2.2.2.2.2.2.2.2.1
      refine q_tabIn (tgt := 1826) C (q_dc (z := (44, .tableswitch 2610 0 46 #[204, 248, 328, 384, 440, 484, 540, 596, 664, 720, 807, 820, 833, 846, 859, 872, 885, 941, 997, 1065, 1121, 1177, 1240, 1303, 1359, 1415, 1490, 1558, 1614, 1670, 1726, 1782, 1838, 1903, 1983, 2063, 2119, 2163, 2207, 2263, 2319, 2377, 2421, 2465, 2509, 2553, 2566], 204, 0, 0)) tk_lwh 11 rfl) (by decide +kernel) (by decide +kernel) rfl (by decide) ?_
      exact lw_rankOf (i := 4 * k) C hfl hX hi hL hn hn2 σ (h9 (xs (4 * k + 1))).1 (next _ (h9 (xs (4 * k + 1))).2)
    by_cases c32 : j = 32
    · subst c32
      have h9 := hs.2.2.2.2.2.2.2.2.2.2.2.2.2.2.2.2.2.2.2.2.2.2.2.2.2.2.2.2.2.2.2.2.1
      refine q_tabIn (tgt := 1882) C (q_dc (z := (44, .tableswitch 2610 0 46 #[204, 248, 328, 384, 440, 484, 540, 596, 664, 720, 807, 820, 833, 846, 859, 872, 885, 941, 997, 1065, 1121, 1177, 1240, 1303, 1359, 1415, 1490, 1558, 1614, 1670, 1726, 1782, 1838, 1903, 1983, 2063, 2119, 2163, 2207, 2263, 2319, 2377, 2421, 2465, 2509, 2553, 2566], 204, 0, 0)) tk_lwh 11 rfl) (by decide +kernel) (by decide +kernel) rfl (by decide) ?_
      exact lw_meanTime (i := 4 * k) C hfl hn hn2 σ (h9).1 (next _ (h9).2)
    by_cases c33 : j = 33
    · subst c33
      have h9 := hs.2.2.2.2.2.2.2.2.2.2.2.2.2.2.2.2.2.2.2.2.2.2.2.2.2.2.2.2.2.2.2.2.2.1
      refine q_tabIn (tgt := 1947) C (q_dc (z := (44, .tableswitch 2610 0 46 #[204, 248, 328, 384, 440, 484, 540, 596, 664, 720, 807, 820, 833, 846, 859, 872, 885, 941, 997, 1065, 1121, 1177, 1240, 1303, 1359, 1415, 1490, 1558, 1614, 1670, 1726, 1782, 1838, 1903, 1983, 2063, 2119, 2163, 2207, 2263, 2319, 2377, 2421, 2465, 2509, 2553, 2566], 204, 0, 0)) tk_lwh 11 rfl) (by decide +kernel) (by decide +kernel) rfl (by decide) ?_
      exact lw_reach (i := 4 * k) C hfl hX hi hL hn hn2 σ (h9 (xs (4 * k + 1)) (xs (4 * k + 2)) (xs (4 * k + 3))).1 (next _ (h9 (xs (4 * k + 1)) (xs (4 * k + 2)) (xs (4 * k + 3))).2)
    by_cases c34 : j = 34
    · subst c34
      have h9 := hs.2.2.2.2.2.2.2.2.2.2.2.2.2.2.2.2.2.2.2.2.2.2.2.2.2.2.2.2.2.2.2.2.2.2.1
      refine q_tabIn (tgt := 2027) C (q_dc (z := (44, .tableswitch 2610 0 46 #[204, 248, 328, 384, 440, 484, 540, 596, 664, 720, 807, 820, 833, 846, 859, 872, 885, 941, 997, 1065, 1121, 1177, 1240, 1303, 1359, 1415, 1490, 1558, 1614, 1670, 1726, 1782, 1838, 1903, 1983, 2063, 2119, 2163, 2207, 2263, 2319, 2377, 2421, 2465, 2509, 2553, 2566], 204, 0, 0)) tk_lwh 11 rfl) (by decide +kernel) (by decide +kernel) rfl (by decide) ?_
      exact lw_reachByStretches (i := 4 * k) C hfl hX hi hL hn hn2 σ (h9 (xs (4 * k + 1)) (xs (4 * k + 2)) (xs (4 * k + 3))).1 (next _ (h9 (xs (4 * k + 1)) (xs (4 * k + 2)) (xs (4 * k + 3))).2)
    by_cases c35 : j = 35
    · subst c35
      have h9 := hs.2.2.2.2.2.2.2.2.2.2.2.2.2.2.2.2.2.2.2.2.2.2.2.2.2.2.2.2.2.2.2.2.2.2.2.1
      refine q_tabIn (tgt := 2107) C (q_dc (z := (44, .tableswitch 2610 0 46 #[204, 248, 328, 384, 440, 484, 540, 596, 664, 720, 807, 820, 833, 846, 859, 872, 885, 941, 997, 1065, 1121, 1177, 1240, 1303, 1359, 1415, 1490, 1558, 1614, 1670, 1726, 1782, 1838, 1903, 1983, 2063, 2119, 2163, 2207, 2263, 2319, 2377, 2421, 2465, 2509, 2553, 2566], 204, 0, 0)) tk_lwh 11 rfl) (by decide +kernel) (by decide +kernel) rfl (by decide) ?_
      exact lw_secondsToZone (i := 4 * k) C hfl hX hi hL hn hn2 σ (h9 (xs (4 * k + 1))).1 (next _ (h9 (xs (4 * k + 1))).2)
    by_cases c36 : j = 36
    · subst c36
      have h9 := hs.2.2.2.2.2.2.2.2.2.2.2.2.2.2.2.2.2.2.2.2.2.2.2.2.2.2.2.2.2.2.2.2.2.2.2.2.1
      refine q_tabIn (tgt := 2163) C (q_dc (z := (44, .tableswitch 2610 0 46 #[204, 248, 328, 384, 440, 484, 540, 596, 664, 720, 807, 820, 833, 846, 859, 872, 885, 941, 997, 1065, 1121, 1177, 1240, 1303, 1359, 1415, 1490, 1558, 1614, 1670, 1726, 1782, 1838, 1903, 1983, 2063, 2119, 2163, 2207, 2263, 2319, 2377, 2421, 2465, 2509, 2553, 2566], 204, 0, 0)) tk_lwh 11 rfl) (by decide +kernel) (by decide +kernel) rfl (by decide) ?_
      exact lw_refusalReason (i := 4 * k) C hfl hX hi hL hn hn2 σ (h9).1 (next _ (h9).2)
    by_cases c37 : j = 37
    · subst c37
      have h9 := hs.2.2.2.2.2.2.2.2.2.2.2.2.2.2.2.2.2.2.2.2.2.2.2.2.2.2.2.2.2.2.2.2.2.2.2.2.2.1
      refine q_tabIn (tgt := 2207) C (q_dc (z := (44, .tableswitch 2610 0 46 #[204, 248, 328, 384, 440, 484, 540, 596, 664, 720, 807, 820, 833, 846, 859, 872, 885, 941, 997, 1065, 1121, 1177, 1240, 1303, 1359, 1415, 1490, 1558, 1614, 1670, 1726, 1782, 1838, 1903, 1983, 2063, 2119, 2163, 2207, 2263, 2319, 2377, 2421, 2465, 2509, 2553, 2566], 204, 0, 0)) tk_lwh 11 rfl) (by decide +kernel) (by decide +kernel) rfl (by decide) ?_
      exact lw_refusedTeam (i := 4 * k) C hfl hX hi hL hn hn2 σ (h9).1 (next _ (h9).2)
    by_cases c38 : j = 38
    · subst c38
      have h9 := hs.2.2.2.2.2.2.2.2.2.2.2.2.2.2.2.2.2.2.2.2.2.2.2.2.2.2.2.2.2.2.2.2.2.2.2.2.2.2.1
      refine q_tabIn (tgt := 2251) C (q_dc (z := (44, .tableswitch 2610 0 46 #[204, 248, 328, 384, 440, 484, 540, 596, 664, 720, 807, 820, 833, 846, 859, 872, 885, 941, 997, 1065, 1121, 1177, 1240, 1303, 1359, 1415, 1490, 1558, 1614, 1670, 1726, 1782, 1838, 1903, 1983, 2063, 2119, 2163, 2207, 2263, 2319, 2377, 2421, 2465, 2509, 2553, 2566], 204, 0, 0)) tk_lwh 11 rfl) (by decide +kernel) (by decide +kernel) rfl (by decide) ?_
      exact lw_writeBanner (i := 4 * k) C hfl hX hi hL hn hn2 σ (h9 (xs (4 * k + 1))).1 (next _ (h9 (xs (4 * k + 1))).2)
    by_cases c39 : j = 39
    · subst c39
      have h9 := hs.2.2.2.2.2.2.2.2.2.2.2.2.2.2.2.2.2.2.2.2.2.2.2.2.2.2.2.2.2.2.2.2.2.2.2.2.2.2.2.1
      refine q_tabIn (tgt := 2307) C (q_dc (z := (44, .tableswitch 2610 0 46 #[204, 248, 328, 384, 440, 484, 540, 596, 664, 720, 807, 820, 833, 846, 859, 872, 885, 941, 997, 1065, 1121, 1177, 1240, 1303, 1359, 1415, 1490, 1558, 1614, 1670, 1726, 1782, 1838, 1903, 1983, 2063, 2119, 2163, 2207, 2263, 2319, 2377, 2421, 2465, 2509, 2553, 2566], 204, 0, 0)) tk_lwh 11 rfl) (by decide +kernel) (by decide +kernel) rfl (by decide) ?_
      exact lw_bannerAt (i := 4 * k) C hfl hX hi hL hn hn2 σ (h9 (xs (4 * k + 1))).1 (next _ (h9 (xs (4 * k + 1))).2)
    by_cases c40 : j = 40
    · subst c40
      have h9 := hs.2.2.2.2.2.2.2.2.2.2.2.2.2.2.2.2.2.2.2.2.2.2.2.2.2.2.2.2.2.2.2.2.2.2.2.2.2.2.2.2.1
      refine q_tabIn (tgt := 2363) C (q_dc (z := (44, .tableswitch 2610 0 46 #[204, 248, 328, 384, 440, 484, 540, 596, 664, 720, 807, 820, 833, 846, 859, 872, 885, 941, 997, 1065, 1121, 1177, 1240, 1303, 1359, 1415, 1490, 1558, 1614, 1670, 1726, 1782, 1838, 1903, 1983, 2063, 2119, 2163, 2207, 2263, 2319, 2377, 2421, 2465, 2509, 2553, 2566], 204, 0, 0)) tk_lwh 11 rfl) (by decide +kernel) (by decide +kernel) rfl (by decide) ?_
      exact lw_type (i := 4 * k) C hfl hX hi hL hn hn2 σ (h9 (xs (4 * k + 1))).1 (next _ (h9 (xs (4 * k + 1))).2)
    by_cases c41 : j = 41
    · subst c41
      have h9 := hs.2.2.2.2.2.2.2.2.2.2.2.2.2.2.2.2.2.2.2.2.2.2.2.2.2.2.2.2.2.2.2.2.2.2.2.2.2.2.2.2.2.1
      refine q_tabIn (tgt := 2421) C (q_dc (z := (44, .tableswitch 2610 0 46 #[204, 248, 328, 384, 440, 484, 540, 596, 664, 720, 807, 820, 833, 846, 859, 872, 885, 941, 997, 1065, 1121, 1177, 1240, 1303, 1359, 1415, 1490, 1558, 1614, 1670, 1726, 1782, 1838, 1903, 1983, 2063, 2119, 2163, 2207, 2263, 2319, 2377, 2421, 2465, 2509, 2553, 2566], 204, 0, 0)) tk_lwh 11 rfl) (by decide +kernel) (by decide +kernel) rfl (by decide) ?_
      exact lw_execute (i := 4 * k) C hfl hX hi hL hn hn2 σ (h9).1 (next _ (h9).2)
    by_cases c42 : j = 42
    · subst c42
      have h9 := hs.2.2.2.2.2.2.2.2.2.2.2.2.2.2.2.2.2.2.2.2.2.2.2.2.2.2.2.2.2.2.2.2.2.2.2.2.2.2.2.2.2.2.1
      refine q_tabIn (tgt := 2465) C (q_dc (z := (44, .tableswitch 2610 0 46 #[204, 248, 328, 384, 440, 484, 540, 596, 664, 720, 807, 820, 833, 846, 859, 872, 885, 941, 997, 1065, 1121, 1177, 1240, 1303, 1359, 1415, 1490, 1558, 1614, 1670, 1726, 1782, 1838, 1903, 1983, 2063, 2119, 2163, 2207, 2263, 2319, 2377, 2421, 2465, 2509, 2553, 2566], 204, 0, 0)) tk_lwh 11 rfl) (by decide +kernel) (by decide +kernel) rfl (by decide) ?_
      exact lw_errorPosition (i := 4 * k) C hfl hX hi hL hn hn2 σ (h9).1 (next _ (h9).2)
    by_cases c43 : j = 43
    · subst c43
      have h9 := hs.2.2.2.2.2.2.2.2.2.2.2.2.2.2.2.2.2.2.2.2.2.2.2.2.2.2.2.2.2.2.2.2.2.2.2.2.2.2.2.2.2.2.2.1
      refine q_tabIn (tgt := 2509) C (q_dc (z := (44, .tableswitch 2610 0 46 #[204, 248, 328, 384, 440, 484, 540, 596, 664, 720, 807, 820, 833, 846, 859, 872, 885, 941, 997, 1065, 1121, 1177, 1240, 1303, 1359, 1415, 1490, 1558, 1614, 1670, 1726, 1782, 1838, 1903, 1983, 2063, 2119, 2163, 2207, 2263, 2319, 2377, 2421, 2465, 2509, 2553, 2566], 204, 0, 0)) tk_lwh 11 rfl) (by decide +kernel) (by decide +kernel) rfl (by decide) ?_
      exact lw_failedCommand (i := 4 * k) C hfl hX hi hL hn hn2 σ (h9).1 (next _ (h9).2)
    by_cases c44 : j = 44
    · subst c44
      have h9 := hs.2.2.2.2.2.2.2.2.2.2.2.2.2.2.2.2.2.2.2.2.2.2.2.2.2.2.2.2.2.2.2.2.2.2.2.2.2.2.2.2.2.2.2.2.1
      refine q_tabIn (tgt := 2553) C (q_dc (z := (44, .tableswitch 2610 0 46 #[204, 248, 328, 384, 440, 484, 540, 596, 664, 720, 807, 820, 833, 846, 859, 872, 885, 941, 997, 1065, 1121, 1177, 1240, 1303, 1359, 1415, 1490, 1558, 1614, 1670, 1726, 1782, 1838, 1903, 1983, 2063, 2119, 2163, 2207, 2263, 2319, 2377, 2421, 2465, 2509, 2553, 2566], 204, 0, 0)) tk_lwh 11 rfl) (by decide +kernel) (by decide +kernel) rfl (by decide) ?_
      exact lw_undo (i := 4 * k) C hfl hX hi hL hn hn2 σ (h9).1 (next _ (h9).2)
    by_cases c45 : j = 45
    · subst c45
      have h9 := hs.2.2.2.2.2.2.2.2.2.2.2.2.2.2.2.2.2.2.2.2.2.2.2.2.2.2.2.2.2.2.2.2.2.2.2.2.2.2.2.2.2.2.2.2.2.1
      refine q_tabIn (tgt := 2597) C (q_dc (z := (44, .tableswitch 2610 0 46 #[204, 248, 328, 384, 440, 484, 540, 596, 664, 720, 807, 820, 833, 846, 859, 872, 885, 941, 997, 1065, 1121, 1177, 1240, 1303, 1359, 1415, 1490, 1558, 1614, 1670, 1726, 1782, 1838, 1903, 1983, 2063, 2119, 2163, 2207, 2263, 2319, 2377, 2421, 2465, 2509, 2553, 2566], 204, 0, 0)) tk_lwh 11 rfl) (by decide +kernel) (by decide +kernel) rfl (by decide) ?_
      exact lw_save (i := 4 * k) C hfl hn hn2 σ (h9).1 (next _ (h9).2)
    by_cases c46 : j = 46
    · subst c46
      have h9 := hs.2.2.2.2.2.2.2.2.2.2.2.2.2.2.2.2.2.2.2.2.2.2.2.2.2.2.2.2.2.2.2.2.2.2.2.2.2.2.2.2.2.2.2.2.2.2.1
      refine q_tabIn (tgt := 2610) C (q_dc (z := (44, .tableswitch 2610 0 46 #[204, 248, 328, 384, 440, 484, 540, 596, 664, 720, 807, 820, 833, 846, 859, 872, 885, 941, 997, 1065, 1121, 1177, 1240, 1303, 1359, 1415, 1490, 1558, 1614, 1670, 1726, 1782, 1838, 1903, 1983, 2063, 2119, 2163, 2207, 2263, 2319, 2377, 2421, 2465, 2509, 2553, 2566], 204, 0, 0)) tk_lwh 11 rfl) (by decide +kernel) (by decide +kernel) rfl (by decide) ?_
      exact lw_restore (i := 4 * k) C hfl hX hi hL hn hn2 σ (h9).1 (next _ (h9).2)
    refine q_tabOut (tgt := 2654) C (q_dc (z := (44, .tableswitch 2610 0 46 #[204, 248, 328, 384, 440, 484, 540, 596, 664, 720, 807, 820, 833, 846, 859, 872, 885, 941, 997, 1065, 1121, 1177, 1240, 1303, 1359, 1415, 1490, 1558, 1614, 1670, 1726, 1782, 1838, 1903, 1983, 2063, 2119, 2163, 2207, 2263, 2319, 2377, 2421, 2465, 2509, 2553, 2566], 204, 0, 0)) tk_lwh 11 rfl) (Or.inr (show (46 : Int) < (nI j).toInt from by rw [nI_toInt (by omega)]; omega)) (by decide) ?_
    refine q_widen (k := 300 + 12 * k + 12) (n := 20000 + 2000 * k + 2000) (by omega) (by omega) ?_
    exact next σ hs.2.2.2.2.2.2.2.2.2.2.2.2.2.2.2.2.2.2.2.2.2.2.2.2.2.2.2.2.2.2.2.2.2.2.2.2.2.2.2.2.2.2.2.2.2.2.2
