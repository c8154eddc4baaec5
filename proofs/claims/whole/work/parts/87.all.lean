/-! The start; every call. -/
theorem z_s0t {r w j : Nat} (hr : r % 20 = 0) (h2 : r + 20 ≤ 220) (hw : w < 6) : q_s0 (r + 2 + 3 * w) j = if j = 0 then nI w else if j = 4 then nI (w + 1) else 0 := by
  have e0 : (r + 2 + 3 * w) % 20 = 2 + 3 * w := by
    rcases (show w = 0 ∨ w = 1 ∨ w = 2 ∨ w = 3 ∨ w = 4 ∨ w = 5 by omega) with e | e | e | e | e | e <;> rw [e] <;> omega
  unfold q_s0
  rw [if_pos (by omega), if_neg (by omega), if_neg (by omega), if_pos (by omega), show ((r + 2 + 3 * w) % 20 - 2) / 3 = w by omega]
theorem z_s0s {r w j : Nat} (hr : r % 20 = 0) (h2 : r + 20 ≤ 220) (hw : w < 6) : q_s0 (r + 2 + 3 * w + 1) j = nI 60 := by
  have e0 : (r + 2 + 3 * w + 1) % 20 = 3 + 3 * w := by
    rcases (show w = 0 ∨ w = 1 ∨ w = 2 ∨ w = 3 ∨ w = 4 ∨ w = 5 by omega) with e | e | e | e | e | e <;> rw [e] <;> omega
  unfold q_s0
  rw [if_pos (by omega), if_neg (by omega), if_neg (by omega), if_neg (by omega), if_pos (by omega)]
  rfl
theorem z_s0p {r w j : Nat} (hr : r % 20 = 0) (h2 : r + 20 ≤ 220) (hw : w < 6) : q_s0 (r + 2 + 3 * w + 2) j = 0 := by
  unfold q_s0
  by_cases e : (r + 2 + 3 * w + 2) % 20 = 0
  · omega
  · rw [if_pos (by omega), if_neg e, if_neg (by omega), if_neg (by omega), if_neg (by omega)]
theorem z_s0N {r w : Nat} (hr : r % 20 = 0) (h2 : r + 20 ≤ 220) (hw : w < 6) : z_N q_s0 (r + 2 + 3 * w) w := by
  refine ⟨?_, ?_, ?_, fun j j1 j2 => ?_, fun j _ => z_s0s hr h2 hw, fun j _ => z_s0p hr h2 hw⟩
  · rw [z_s0t hr h2 hw, if_pos rfl]
  · rw [z_s0t hr h2 hw, if_neg (by decide), if_neg (by decide)]
  · rw [z_s0t hr h2 hw, if_neg (by decide), if_pos rfl]
  · rw [z_s0t hr h2 hw, if_neg (by omega), if_neg (by omega)]
theorem z_s0n {r : Nat} (hr : r % 20 = 0) (h2 : r + 20 ≤ 220) : z_no q_s0 r := fun _ hw => (z_s0N hr h2 hw).no
theorem z_s030 : ∀ j, q_s0 230 (j + 1) = 0 := fun _ => rfl
theorem z_s0 : z_Inv 0 q_s0 := by
  refine ⟨fun j => if j = 0 then 1000 else 0, fun _ _ => 0, 0, 0, fun _ _ => 0, fun _ _ _ => 0, fun _ => 0, fun _ _ => 0, ⟨rfl, rfl, rfl, fun w hw h => absurd h (Nat.not_lt_zero w), fun w hw _ => z_s0N rfl (by decide) hw⟩, z_s0n rfl (by decide), z_s0n rfl (by decide), ⟨fun j hj => ?_, fun w hw j hj => ?_⟩, ⟨by decide, by decide, by decide, by decide, by decide, fun w h => absurd h (Nat.not_lt_zero w), fun _ _ _ _ _ => rfl⟩, fun i hi => absurd hi (Nat.not_lt_zero i), ⟨rfl, rfl, by decide, by decide, fun i hi => absurd hi (Nat.not_lt_zero i), fun i hi => z_s0n (by omega) (by omega)⟩, ⟨rfl, by decide, fun i hi => absurd hi (Nat.not_lt_zero i)⟩, .inl ⟨rfl, rfl⟩, ⟨rfl, fun h => absurd rfl h⟩, ⟨rfl, rfl, .inl rfl, .inl rfl⟩, ⟨0, by decide, rfl, rfl, fun i hi => absurd hi (Nat.not_lt_zero i)⟩, ⟨0, fun _ => 0, by decide, rfl, rfl, fun i hi => absurd hi (Nat.not_lt_zero i)⟩⟩
  · rcases (show j = 0 ∨ j = 1 ∨ j = 2 ∨ j = 3 by omega) with rfl | rfl | rfl | rfl <;> rfl
  · rw [show 4 + 19 * w + j = (3 + 19 * w + j) + 1 by omega]
    exact z_s030 _
theorem z_stepA : q_stepOK z_Inv := by
  intro k σ hk hI
  refine ⟨sq_addTeam hk hI, fun g0 g1 g2 => sq_setSpeed hk hI g0 g1 g2, fun g0 => sq_setLength hk hI g0, fun g0 => sq_drawLanes hk hI g0, sq_start hk hI, fun g0 => sq_run hk hI g0, fun g0 => sq_pass hk hI g0, fun g0 g1 => sq_drop hk hI g0 g1, fun g0 => sq_withdraw hk hI g0, fun g0 g1 g2 => sq_protest hk hI g0 g1 g2, sq_teamCount hk hI, sq_runningCount hk hI, sq_isStarted hk hI, sq_isFinished hk hI, sq_clock hk hI, sq_length hk hI, fun g0 => sq_laneOf hk hI g0, fun g0 => sq_teamInLane hk hI g0, fun g0 g1 => sq_speedOf hk hI g0 g1, fun g0 => sq_positionOf hk hI g0, fun g0 => sq_legOf hk hI g0, fun g0 => sq_isRunning hk hI g0, fun g0 => sq_isInZone hk hI g0, fun g0 => sq_standingOf hk hI g0, fun g0 => sq_penaltyOf hk hI g0, fun g0 g1 => sq_hasFoul hk hI g0 g1, fun g0 g1 => sq_splitOf hk hI g0 g1, fun g0 => sq_splitSum hk hI g0, fun g0 => sq_timeOf hk hI g0, fun g0 => sq_resultOf hk hI g0, fun g0 => sq_teamAtRank hk hI g0, fun g0 => sq_rankOf hk hI g0, sq_meanTime hk hI, fun g0 g1 g2 => sq_reach hk hI g0 g1 g2, fun g0 g1 g2 => sq_reachByStretches hk hI g0 g1 g2, fun g0 => sq_secondsToZone hk hI g0, sq_refusalReason hk hI, sq_refusedTeam hk hI, fun g0 => sq_writeBanner hk hI g0, fun g0 => sq_bannerAt hk hI g0, fun x => sq_type hk hI ((x.toUInt32 % 65536).toInt32), sq_execute hk hI, sq_errorPosition hk hI, sq_failedCommand hk hI, sq_undo hk hI, sq_save hk hI, sq_restore hk hI, ?_⟩
  obtain ⟨b, t, nw, sz, hb, ht, sb, st, hJ⟩ := hI
  exact ⟨b, t, nw, sz, hb, ht, sb, st, hJ.sm (by omega) (fun _ _ _ _ _ _ _ => rfl) (fun _ _ _ _ _ => rfl)⟩
