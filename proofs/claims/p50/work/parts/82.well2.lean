/-! isWell holds. -/
theorem z_sm_s (f : Nat → Nat) (w : Nat) : z_sm f 0 (w + 1) = z_sm f 0 w + f w := by
  rw [z_sm_sp, Nat.zero_add]
  show _ + (f w + 0) = _
  omega
theorem z_nng {n : Nat} (h : n < 2 ^ 31) : ¬ nI n < -900002 := fun q => by
  rw [Int32.lt_iff_toInt_lt, nI_toInt h] at q
  have e : (-900002 : Int32).toInt = -900002 := by decide
  omega
theorem a_mean {k : Nat} {σ : q_M} {b : Nat → Nat} {t : Nat → Nat → Nat} (hR : z_R σ 0 b t) (hV : z_V k b t) (hk : k ≤ 20000) (hn : ¬ z_sm (z_is t 2) 0 (b 3) = 0) : P_N8_meanTime σ ∧ F_N8_meanTime σ = FP.ddiv (FP.i2d (nI (z_sm (z_tt t) 0 (b 3)))) (FP.i2d (nI (z_sm (z_is t 2) 0 (b 3)))) := by
  obtain ⟨p1, e1⟩ := z_finished hV.n6 hV.stt hR
  obtain ⟨p2, e2⟩ := z_sumC hR hV 10 0 0 (by decide) (by decide)
  have hb := z_sm_le (f := z_is t 2) 1 (b 3) 0 (fun i _ _ => by unfold z_is; split <;> omega)
  have n6 := hV.n6
  have e3 : z_sm (fun i => if i < b 3 then z_tt t i else 0) 0 6 = z_sm (z_tt t) 0 (b 3) := by
    rw [z_sm_n n6 (fun i a _ => if_neg (by omega))]
    exact z_sm_cg (b 3) 0 (fun i _ a => if_pos (by omega))
  have e2 : F_X4_sumOfTimes 0 σ = nI (z_sm (z_tt t) 0 (b 3)) := by
    refine e2.trans ?_
    rw [Nat.zero_add]
    exact congrArg nI e3
  have n0 : ¬ nI (z_sm (z_is t 2) 0 (b 3)) = 0 := nI_ne0 (by omega) (by omega)
  have e : F_X8_meanTime σ = .inl (FP.ddiv (FP.i2d (nI (z_sm (z_tt t) 0 (b 3)))) (FP.i2d (nI (z_sm (z_is t 2) 0 (b 3))))) := by
    refine (q_Lr e1).trans ((if_neg n0).trans ?_)
    rw [e2]
  refine ⟨⟨⟨p1, fun x1 h1 => ⟨fun _ => trivial, fun _ => ⟨p2, trivial⟩⟩⟩, _, e⟩, ?_⟩
  unfold F_N8_meanTime
  rw [e]
  rfl
theorem w_9 {k : Nat} {σ : q_M} {b : Nat → Nat} {t : Nat → Nat → Nat} (hR : z_R σ 0 b t) (hV : z_V k b t) (hk : k ≤ 20000) : ∀ (nn w : Nat), nn + w = 7 → w ≤ b 3 → PL_L_isWell_9 nn (nI (z_sm (z_is t 1) 0 w)) (nI (z_sm (z_is t 2) 0 w)) (nI (z_sm (z_tt t) 0 w)) (nI w) σ ∧ FL_L_isWell_9 nn (nI (z_sm (z_is t 1) 0 w)) (nI (z_sm (z_is t 2) 0 w)) (nI (z_sm (z_tt t) 0 w)) (nI w) σ = 1 := by
  have n6 := hV.n6
  have l0 := hV.l0
  have l1 := hV.l1
  have hck := hV.ck
  intro nn
  induction nn with
  | zero => intro w h1 h2; omega
  | succ nn ih =>
    intro w h1 h2
    obtain ⟨pc, ec⟩ := a_count hR hV
    rcases Nat.lt_or_ge w (b 3) with hw | hw
    · have c : nI w < nI (b 3) := nI_lt hw (by omega)
      have hW := hV.te w hw
      have h8 := hW.lg
      have hst := hW.st
      have hE := z_mE h8 l1
      have hEm : (t w 8 + 1) * b 0 = t w 8 * b 0 + b 0 := Nat.succ_mul _ _
      have hps := hW.ps
      have h18 := hW.tm
      have hfi := hW.fi
      obtain ⟨x1, x2, -, x5, x7, -⟩ := hW.2
      have hpn := hW.pn
      obtain ⟨pleg, eleg⟩ := a_legOf hR hV hw
      have elen : F_X8_length σ = nI (b 0) := hR.ll
      have eck : F_X8_clock σ = nI (b 2) := hR.ck
      have e8 : (nI (t w 8) + 1) * nI (b 0) = nI ((t w 8 + 1) * b 0) := by rw [z_l1, z_add, z_mul]
      obtain ⟨ppos, epos⟩ := a_positionOf hR hV hw
      obtain ⟨ptm, etm⟩ := a_timeOf hR hV hw
      have tl := w_tl hR hV hk hw
      obtain ⟨pru, eru⟩ := a_isRunning hR hV hw
      obtain ⟨pz, ez⟩ := a_isInZone hR hV hw
      obtain ⟨psp, esp⟩ := a_splitSum hR hV hw
      obtain ⟨ppn, epn⟩ := a_penaltyOf hR hV hw
      obtain ⟨prk, erk⟩ := a_rankOf hR hV hk hw
      obtain ⟨pat, eat⟩ := a_atRank hR hV hk hw
      obtain ⟨pln, eln⟩ := a_laneOf hR hV hw
      obtain ⟨pil, eil⟩ := a_inLane hR hV hw
      have e19 : nI (z_sm (z_is t 1) 0 w) + (if F_N8_isRunning (nI w) σ = 0 then 0 else 1) = nI (z_sm (z_is t 1) 0 (w + 1)) := by
        rw [eru, z_sm_s, ← z_add]
        unfold z_is
        by_cases q : t w 6 = 1
        · rw [if_pos q, if_pos q]; rfl
        · rw [if_neg q, if_neg q]; rfl
      have e24 : nI (z_sm (z_is t 2) 0 w) + (if W_timeOf (nI w) σ < 0 then 0 else 1) = nI (z_sm (z_is t 2) 0 (w + 1)) := by
        rw [z_sm_s, ← z_add]
        unfold z_is
        by_cases q : t w 6 = 2
        · rw [if_neg (by rw [tl]; exact fun z => z q), if_pos q]; rfl
        · rw [if_pos (by rw [tl]; exact q), if_neg q]; rfl
      have e29 : nI (z_sm (z_tt t) 0 w) + (if W_timeOf (nI w) σ < 0 then 0 else W_timeOf (nI w) σ) = nI (z_sm (z_tt t) 0 (w + 1)) := by
        rw [z_sm_s, ← z_add]
        unfold z_tt
        by_cases q : t w 6 = 2
        · rw [if_neg (by rw [tl]; exact fun z => z q), etm, if_pos q, if_pos q]
        · rw [if_pos (by rw [tl]; exact q), if_neg q]; rfl
      have w1 := fun a b c d e => w_103 hR hV hk hw a b c d e 5 0 0 rfl (by decide)
      have w2 := fun a b c d e f g h i => w_222 hR hV hk hw a b c d e f g h i 7 0 0 rfl (Nat.zero_le _)
      rw [Nat.zero_add] at w1 w2
      have w1 : ∀ (x19 x24 x29 x8 x10 : Int32), PL_L_isWell_103 x19 x24 x29 (nI w) (nI (t w 8)) x8 x10 (W_timeOf (nI w) σ) 5 0 0 σ ∧ FL_L_isWell_103 x19 x24 x29 (nI w) (nI (t w 8)) x8 x10 (W_timeOf (nI w) σ) 5 0 0 σ = nI (z_sm (z_sp (t w)) 0 4) := w1
      have w2 : ∀ (x19 x24 x29 x4 x8 x10 y32 x12 x37 : Int32), PL_L_isWell_222 x19 x24 x29 (nI w) x4 x8 x10 y32 x12 x37 7 0 0 σ ∧ FL_L_isWell_222 x19 x24 x29 (nI w) x4 x8 x10 y32 x12 x37 7 0 0 σ = nI (z_rk t (b 3) w) := w2
      have es4 : z_sm (z_sp (t w)) 0 4 = (t w 14 - 1) + (t w 15 - 1) + (t w 16 - 1) + (t w 17 - 1) := by
        show (t w (14 + 0) - 1) + ((t w (14 + (0 + 1)) - 1) + ((t w (14 + (0 + 1 + 1)) - 1) + ((t w (14 + (0 + 1 + 1 + 1)) - 1) + 0))) = _
        show (t w 14 - 1) + ((t w 15 - 1) + ((t w 16 - 1) + ((t w 17 - 1) + 0))) = _
        omega
      rw [← es4] at x2
      obtain ⟨q1, q2⟩ := ih (w + 1) (by omega) (by omega)
      constructor
      · refine ⟨pc, fun x1 h1 => ?_⟩
        rw [ec] at h1
        subst h1
        refine ⟨fun _ => ⟨pleg, fun x4 h4 => ?_⟩, fun q => absurd c q⟩
        rw [eleg] at h4
        subst h4
        intro x6 h6
        rw [elen] at h6
        subst h6
        intro y8 h8'
        rw [e8] at h8'
        subst h8'
        refine ⟨ppos, fun x10 h10 => ?_⟩
        rw [epos] at h10
        subst h10
        refine ⟨ptm, fun x12 h12 => ?_⟩
        subst h12
        refine ⟨pru, fun x14 h14 => ⟨trivial, fun x17 h17 => ?_⟩⟩
        subst h14
        subst h17
        intro x19 h19
        rw [e19] at h19
        subst h19
        refine ⟨trivial, fun x22 h22 => ?_⟩
        subst h22
        intro x24 h24
        rw [e24] at h24
        subst h24
        refine ⟨trivial, fun x27 h27 => ?_⟩
        subst h27
        intro x29 h29
        rw [e29] at h29
        subst h29
        refine ⟨(w1 _ _ _ _ _).1, fun y32 h32 => ⟨trivial, fun x37 h37 => ⟨(w2 _ _ _ _ _ _ _ _ _).1, fun y40 h40 => ?_⟩⟩⟩
        rw [(w1 _ _ _ _ _).2] at h32
        rw [(w2 _ _ _ _ _ _ _ _ _).2] at h40
        subst h32
        subst h40
        refine ⟨pz, fun x42 h42 => ⟨?_, ⟨fun q => ⟨?_, trivial⟩, fun _ => trivial⟩, ⟨fun q => ⟨?_, trivial⟩, fun _ => trivial⟩, psp, fun x46 h46 => ⟨?_, ⟨fun _ => trivial, fun q => ?_⟩, fun x49 h49 => ⟨?_, prk, fun x51 h51 => ⟨?_, pat, fun x53 h53 => ⟨?_, pln, fun x55 h55 => ?_⟩⟩⟩⟩⟩⟩
        · rw [← h42, ← h37, ez]
          have a3 : (nI (t w 8) < 3) = (t w 8 < 3) := by rw [z_l3, z_lt (by omega) (by decide)]
          have s1 : nI ((t w 8 + 1) * b 0) - 100 = nI ((t w 8 + 1) * b 0 - 100) := by rw [z_l100, z_sub (by omega)]
          have s2 : nI ((t w 8 + 1) * b 0) + 100 = nI ((t w 8 + 1) * b 0 + 100) := by rw [z_l100, z_add]
          have a4 : (nI (t w 7) < nI ((t w 8 + 1) * b 0) - 100) = (t w 7 < (t w 8 + 1) * b 0 - 100) := by rw [s1, z_lt (by omega) (by omega)]
          have a5 : (nI ((t w 8 + 1) * b 0) + 100 < nI (t w 7)) = ((t w 8 + 1) * b 0 + 100 < t w 7) := by rw [s2, z_lt (by omega) (by omega)]
          refine Eq.symm ?_
          by_cases k3 : t w 8 < 3
          · rw [if_pos (by rw [a3]; exact k3)]
            by_cases k4 : t w 7 < (t w 8 + 1) * b 0 - 100
            · rw [if_pos (by rw [a4]; exact k4), if_neg (fun z => by have := z.2.1; omega)]
              rfl
            · rw [if_neg (by rw [a4]; exact k4)]
              by_cases k5 : (t w 8 + 1) * b 0 + 100 < t w 7
              · rw [if_pos (by rw [a5]; exact k5), if_neg (fun z => by have := z.2.2; omega)]
                rfl
              · rw [if_neg (by rw [a5]; exact k5), if_pos ⟨k3, by omega, by omega⟩]
                rfl
          · rw [if_neg (by rw [a3]; exact k3), if_neg (fun z => k3 z.1)]
            rfl
        · rw [z_l300, z_add, z_lt (by omega) (by omega)]
          omega
        · have q : 0 < t w 8 := by
            have := q
            rw [z_l0, z_lt (by decide) (by omega)] at this
            exact this
          have hm : 1 * b 0 ≤ t w 8 * b 0 := Nat.mul_le_mul_right _ q
          have s1 : nI ((t w 8 + 1) * b 0) - F_X8_length σ - 100 = nI (t w 8 * b 0 - 100) := by
            rw [elen, z_sub (by omega), z_l100, z_sub (by omega), show (t w 8 + 1) * b 0 - b 0 = t w 8 * b 0 by omega]
          rw [s1, z_lt (by omega) (by omega)]
          omega
        · rw [← h46, esp]
        · have q : t w 6 = 2 := by
            rw [tl] at q
            exact Decidable.not_not.mp q
          have f3 := hfi q
          have f7 := x7 q
          rw [etm, if_pos q, x2 q]
          refine ⟨rfl, ?_, (a_resultOf hR hV hw q).1, ppn, ?_, trivial⟩
          · rw [z_lt (by omega) (by omega), f3]
            omega
          · rw [(a_resultOf hR hV hw q).2, epn, z_add]
        · rw [← h49, eck, etm]
          by_cases q : t w 6 = 2
          · rw [if_pos q, z_lt (by omega) (by omega)]
            omega
          · rw [if_neg q]
            exact z_nng (by omega)
        · rw [← h51, erk]
        · rw [← h53, eat]
        · rw [eln] at h55
          subst h55
          refine ⟨pil, fun x57 h57 => ⟨?_, ppn, fun x59 h59 => ⟨?_, ?_⟩⟩⟩
          · rw [← h57, eil]
          · rw [← h59, epn, z_l5, pk_rem (by omega) (by decide) (by decide), x5]
            rfl
          · rw [nI_1]
            exact q1
      · refine (q_Lr ec).trans ((if_pos c).trans ((q_Lr eleg).trans ((q_Lr elen).trans ((q_Lr e8).trans ((q_Lr epos).trans ((q_Lr rfl).trans ((q_Lr rfl).trans ((q_Lr rfl).trans ((q_Lr e19).trans ((q_Lr rfl).trans ((q_Lr e24).trans ((q_Lr rfl).trans ((q_Lr e29).trans ((q_Lr rfl).trans ((q_Lr rfl).trans ((q_Lr rfl).trans ((q_Lr rfl).trans ((q_Lr rfl).trans ((q_Lr rfl).trans ((q_Lr rfl).trans ((q_Lr rfl).trans ((q_Lr rfl).trans ((q_Lr rfl).trans ((q_Lr rfl).trans ?_))))))))))))))))))))))))
        rw [nI_1]
        exact q2
    · obtain rfl : w = b 3 := by omega
      have c : ¬ nI (b 3) < nI (b 3) := nI_nlt (Nat.le_refl _) (by omega)
      obtain ⟨pr, er⟩ := a_running hR hV
      obtain ⟨ps, es⟩ := a_started hR hV
      have hb := hV.bg
      have er' : F_X4_countRunning 0 σ = nI (z_sm (z_is t 1) 0 (b 3)) := er
      constructor
      · refine ⟨pc, fun x1 h1 => ?_⟩
        rw [ec] at h1
        subst h1
        refine ⟨fun q => absurd q c, fun _ => ⟨pr, fun x61 h61 => ⟨h61.symm.trans er |>.symm, ⟨fun _ => trivial, fun _ => ⟨pr.1, trivial⟩⟩, fun x63 h63 => ⟨ps, fun x65 h65 => ⟨trivial, fun x69 h69 => ⟨?_, fun _ => trivial, fun q => ?_⟩⟩⟩⟩⟩⟩
        · rw [← h63, ← h69, ← h65]
          show (if σ 0 1 = 0 then (0 : Int32) else (if F_X4_countRunning 0 σ = 0 then 1 else 0)) = (if σ 0 1 = 0 then 0 else _)
          rw [er']
        · have hn : ¬ z_sm (z_is t 2) 0 (b 3) = 0 := fun z => q (by rw [z]; rfl)
          obtain ⟨m1, m2⟩ := a_mean hR hV hk hn
          have hbd := z_sm_le (f := z_is t 2) 1 (b 3) 0 (fun i _ _ => by unfold z_is; split <;> omega)
          refine ⟨m1, ?_, trivial⟩
          rw [m2, z_self q]
          rfl
      · refine (q_Lr ec).trans ((if_neg c).trans ((q_Lr rfl).trans ((q_Lr rfl).trans ((q_Lr rfl).trans ((q_Lr rfl).trans ?_)))))
        split <;> rfl
theorem w_isWell {k : Nat} {σ : q_M} {b : Nat → Nat} {t : Nat → Nat → Nat} (hR : z_R σ 0 b t) (hV : z_V k b t) (hk : k ≤ 20000) : P_L_isWell σ ∧ F_L_isWell σ = 1 := w_9 hR hV hk 7 0 rfl (Nat.zero_le _)
