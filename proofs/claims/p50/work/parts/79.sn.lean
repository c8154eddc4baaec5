/-! seen: its row says the numbers alone. -/
theorem q_Lr {α β : Type} {X x : α} {f : α → β} (e : X = x) : q_L X f = f x := congrArg f e
theorem z_R.u {σ : q_M} {b : Nat → Nat} {t : Nat → Nat → Nat} {z i : Nat} {v : Int32} (hR : z_R σ 0 b t) (hz : 229 ≤ z) : z_R (q_up σ z i v) 0 b t := hR.off (fun a _ a2 => q_up_off (by omega))
theorem z_cl {o i : Nat} (h : o + i < 2 ^ 31) : (nI o + nI i).toNatClampNeg = o + i := by rw [z_add, nI_clamp h]
theorem z_cv {o i : Nat} (h : o + i < 130) : vp_in (nI o + nI i) 130 := by rw [z_add]; exact vp_in_nI h (by decide)
def z_8 (z o : Nat) (v : Nat → Int32) (τ : q_M) : q_M := q_up (q_up (q_up (q_up (q_up (q_up (q_up (q_up τ z o (v 0)) z (o + 1) (v 1)) z (o + 2) (v 2)) z (o + 3) (v 3)) z (o + 4) (v 4)) z (o + 5) (v 5)) z (o + 6) (v 6)) z (o + 7) (v 7)
theorem z_8_off {z o a : Nat} {v : Nat → Int32} {τ : q_M} (h : a ≠ z) : z_8 z o v τ a = τ a := by
  unfold z_8
  rw [q_up_off h, q_up_off h, q_up_off h, q_up_off h, q_up_off h, q_up_off h, q_up_off h, q_up_off h]
theorem z_8_row {z o : Nat} {v : Nat → Int32} {τ τ' : q_M} (h : τ z = τ' z) : z_8 z o v τ z = z_8 z o v τ' z := by
  unfold z_8
  rw [q_up_row, q_up_row, q_up_row, q_up_row, q_up_row, q_up_row, q_up_row, q_up_row, h, q_up_row, q_up_row, q_up_row, q_up_row, q_up_row, q_up_row, q_up_row, q_up_row]
def z_sv (b : Nat → Nat) (x : Nat → Nat) (j : Nat) : Int32 := if 1 ≤ x (14 + j) then nI (x (14 + j) - 1) else -900002
def z_v8 (x : Nat → Nat) : Nat → Int32
  | 0 => nI (x 4)
  | 1 => nI (x 7)
  | 2 => nI (x 8)
  | 3 => if (if x 6 = 1 then (1 : Int32) else 0) = 0 then 0 else 1
  | 4 => nI (x 10)
  | 5 => nI (x 5)
  | 6 => (if nI (x 11) = 0 then (0 : Int32) else 1) + (if nI (x 12) = 0 then (0 : Int32) else 2)
  | _ => if x 6 = 2 then nI (x 18) else -900002
section q79
variable {k z : Nat} {b : Nat → Nat} {t : Nat → Nat → Nat}
theorem s_in (hV : z_V k b t) (hz : 229 ≤ z) {w : Nat} (hw : w < b 3) : ∀ (nn j : Nat), nn + j = 5 → j ≤ 4 → ∀ τ : q_M, z_R τ 0 b t → PL_L_seen_175 z (nI w) (nI (6 + 20 * w)) nn (nI j) τ ∧ (∀ a, a ≠ z → FL_L_seen_175 z (nI w) (nI (6 + 20 * w)) nn (nI j) τ a = τ a) ∧ ∀ τ' : q_M, z_R τ' 0 b t → τ z = τ' z → FL_L_seen_175 z (nI w) (nI (6 + 20 * w)) nn (nI j) τ z = FL_L_seen_175 z (nI w) (nI (6 + 20 * w)) nn (nI j) τ' z := by
  have n6 := hV.n6
  intro nn
  induction nn with
  | zero => intro j h1 h2; omega
  | succ nn ih =>
    intro j h1 h2 τ hR
    have e4 : (4 : Int32) = nI 4 := rfl
    rcases Nat.lt_or_ge j 4 with hj | hj
    · have c : nI j < 4 := by rw [e4]; exact nI_lt hj (by decide)
      have i1 : ((nI (6 + 20 * w) + 8) + nI j).toNatClampNeg = 6 + 20 * w + 8 + j := by
        show ((nI (6 + 20 * w) + nI 8) + nI j).toNatClampNeg = _
        rw [z_add, z_cl (by omega)]
      have i2 : ((nI (6 + 20 * w) + 12) + nI j).toNatClampNeg = 6 + 20 * w + 12 + j := by
        show ((nI (6 + 20 * w) + nI 12) + nI j).toNatClampNeg = _
        rw [z_add, z_cl (by omega)]
      have p1 : vp_in ((nI (6 + 20 * w) + 8) + nI j) 130 := by
        show vp_in ((nI (6 + 20 * w) + nI 8) + nI j) 130
        rw [z_add]; exact z_cv (by omega)
      have p2 : vp_in ((nI (6 + 20 * w) + 12) + nI j) 130 := by
        show vp_in ((nI (6 + 20 * w) + nI 12) + nI j) 130
        rw [z_add]; exact z_cv (by omega)
      have key : ∀ τ : q_M, z_R τ 0 b t → FL_L_seen_175 z (nI w) (nI (6 + 20 * w)) (nn + 1) (nI j) τ = FL_L_seen_175 z (nI w) (nI (6 + 20 * w)) nn (nI (j + 1)) (q_up (q_up τ z (6 + 20 * w + 8 + j) (z_sv b (t w) j)) z (6 + 20 * w + 12 + j) (nI (t w j))) := by
        intro τ hR
        refine (if_pos c).trans ?_
        refine (q_Lr (a_splitOf hR hV hw hj).2).trans ?_
        refine (q_Lr (congrArg (fun i => q_up τ z i (z_sv b (t w) j)) i1)).trans ?_
        refine (q_Lr (a_speedOf (hR.u hz) hV hw hj).2).trans ?_
        refine (q_Lr (congrArg (fun i => q_up (q_up τ z (6 + 20 * w + 8 + j) (z_sv b (t w) j)) z i (nI (t w j))) i2)).trans ?_
        rw [nI_1]
      obtain ⟨q1, q2, q3⟩ := ih (j + 1) (by omega) (by omega) _ ((hR.u (i := 6 + 20 * w + 8 + j) (v := z_sv b (t w) j) hz).u (i := 6 + 20 * w + 12 + j) (v := nI (t w j)) hz)
      refine ⟨⟨fun _ => ⟨(a_splitOf hR hV hw hj).1, fun x73 h73 => ⟨p1, fun σ75 h75 => ?_⟩⟩, fun q => absurd c q⟩, fun a ha => ?_, fun τ' hR' hr => ?_⟩
      · rw [(a_splitOf hR hV hw hj).2] at h73
        rw [i1, ← h73] at h75
        subst h75
        refine ⟨(a_speedOf (hR.u hz) hV hw hj).1, fun x77 h77 => ⟨p2, fun σ79 h79 => ?_⟩⟩
        rw [(a_speedOf (hR.u hz) hV hw hj).2] at h77
        rw [i2, ← h77] at h79
        subst h79
        rw [nI_1]
        exact q1
      · rw [key τ hR, q2 a ha, q_up_off ha, q_up_off ha]
      · rw [key τ hR, key τ' hR']
        exact q3 _ ((hR'.u hz).u hz) (by rw [q_up_row, q_up_row, q_up_row, q_up_row, hr])
    · obtain rfl : j = 4 := by omega
      have c : ¬ nI 4 < 4 := by rw [e4]; exact nI_nlt (Nat.le_refl _) (by decide)
      have key : ∀ τ : q_M, FL_L_seen_175 z (nI w) (nI (6 + 20 * w)) (nn + 1) (nI 4) τ = τ := fun τ => if_neg c
      exact ⟨⟨fun q => absurd q c, fun _ => trivial⟩, fun a _ => by rw [key], fun τ' _ hr => by rw [key, key]; exact hr⟩
theorem s_out (hV : z_V k b t) (hz : 229 ≤ z) : ∀ (nn w : Nat), nn + w = 7 → w ≤ b 3 → ∀ τ : q_M, z_R τ 0 b t → PL_L_seen_44 z nn (nI w) τ ∧ (∀ a, a ≠ z → FL_L_seen_44 z nn (nI w) τ a = τ a) ∧ ∀ τ' : q_M, z_R τ' 0 b t → τ z = τ' z → FL_L_seen_44 z nn (nI w) τ z = FL_L_seen_44 z nn (nI w) τ' z := by
  have n6 := hV.n6
  intro nn
  induction nn with
  | zero => intro j h1 h2; omega
  | succ nn ih =>
    intro w h1 h2 τ hR
    rcases Nat.lt_or_ge w (b 3) with hw | hw
    · have c : nI w < nI (b 3) := nI_lt hw (by omega)
      have e25 : (6 : Int32) + 20 * nI w = nI (6 + 20 * w) := by
        show nI 6 + nI 20 * nI w = _
        rw [z_mul, z_add]
      have i0 : (nI (6 + 20 * w)).toNatClampNeg = 6 + 20 * w := nI_clamp (by omega)
      have i1 : (nI (6 + 20 * w) + 1).toNatClampNeg = 6 + 20 * w + 1 := z_cl (i := 1) (by omega)
      have i2 : (nI (6 + 20 * w) + 2).toNatClampNeg = 6 + 20 * w + 2 := z_cl (i := 2) (by omega)
      have i3 : (nI (6 + 20 * w) + 3).toNatClampNeg = 6 + 20 * w + 3 := z_cl (i := 3) (by omega)
      have i4 : (nI (6 + 20 * w) + 4).toNatClampNeg = 6 + 20 * w + 4 := z_cl (i := 4) (by omega)
      have i5 : (nI (6 + 20 * w) + 5).toNatClampNeg = 6 + 20 * w + 5 := z_cl (i := 5) (by omega)
      have i6 : (nI (6 + 20 * w) + 6).toNatClampNeg = 6 + 20 * w + 6 := z_cl (i := 6) (by omega)
      have i7 : (nI (6 + 20 * w) + 7).toNatClampNeg = 6 + 20 * w + 7 := z_cl (i := 7) (by omega)
      have p0 : vp_in (nI (6 + 20 * w)) 130 := vp_in_nI (by omega) (by decide)
      have p1 : vp_in (nI (6 + 20 * w) + 1) 130 := z_cv (i := 1) (by omega)
      have p2 : vp_in (nI (6 + 20 * w) + 2) 130 := z_cv (i := 2) (by omega)
      have p3 : vp_in (nI (6 + 20 * w) + 3) 130 := z_cv (i := 3) (by omega)
      have p4 : vp_in (nI (6 + 20 * w) + 4) 130 := z_cv (i := 4) (by omega)
      have p5 : vp_in (nI (6 + 20 * w) + 5) 130 := z_cv (i := 5) (by omega)
      have p6 : vp_in (nI (6 + 20 * w) + 6) 130 := z_cv (i := 6) (by omega)
      have p7 : vp_in (nI (6 + 20 * w) + 7) 130 := z_cv (i := 7) (by omega)
      have key : ∀ τ : q_M, z_R τ 0 b t → FL_L_seen_44 z (nn + 1) (nI w) τ = FL_L_seen_44 z nn (nI (w + 1)) (FL_L_seen_175 z (nI w) (nI (6 + 20 * w)) 5 (nI 0) (z_8 z (6 + 20 * w) (z_v8 (t w)) τ)) := by
        intro τ hR
        refine (q_Lr (a_count hR hV).2).trans ?_
        refine (if_pos c).trans ?_
        refine (q_Lr e25).trans ?_
        refine (q_Lr (a_laneOf hR hV hw).2).trans ?_
        refine (q_Lr (congrArg (fun i => q_up (τ) z i (z_v8 (t w) 0)) i0)).trans ?_
        refine (q_Lr (a_positionOf (hR.u hz) hV hw).2).trans ?_
        refine (q_Lr (congrArg (fun i => q_up (q_up (τ) z (6 + 20 * w) (z_v8 (t w) 0)) z i (z_v8 (t w) 1)) i1)).trans ?_
        refine (q_Lr (a_legOf ((hR.u hz).u hz) hV hw).2).trans ?_
        refine (q_Lr (congrArg (fun i => q_up (q_up (q_up (τ) z (6 + 20 * w) (z_v8 (t w) 0)) z (6 + 20 * w + 1) (z_v8 (t w) 1)) z i (z_v8 (t w) 2)) i2)).trans ?_
        refine (q_Lr (a_isRunning (((hR.u hz).u hz).u hz) hV hw).2).trans ?_
        refine (q_Lr rfl).trans ?_
        refine (q_Lr (congrArg (fun i => q_up (q_up (q_up (q_up (τ) z (6 + 20 * w) (z_v8 (t w) 0)) z (6 + 20 * w + 1) (z_v8 (t w) 1)) z (6 + 20 * w + 2) (z_v8 (t w) 2)) z i (z_v8 (t w) 3)) i3)).trans ?_
        refine (q_Lr (a_standingOf ((((hR.u hz).u hz).u hz).u hz) hV hw).2).trans ?_
        refine (q_Lr (congrArg (fun i => q_up (q_up (q_up (q_up (q_up (τ) z (6 + 20 * w) (z_v8 (t w) 0)) z (6 + 20 * w + 1) (z_v8 (t w) 1)) z (6 + 20 * w + 2) (z_v8 (t w) 2)) z (6 + 20 * w + 3) (z_v8 (t w) 3)) z i (z_v8 (t w) 4)) i4)).trans ?_
        refine (q_Lr (a_penaltyOf (((((hR.u hz).u hz).u hz).u hz).u hz) hV hw).2).trans ?_
        refine (q_Lr (congrArg (fun i => q_up (q_up (q_up (q_up (q_up (q_up (τ) z (6 + 20 * w) (z_v8 (t w) 0)) z (6 + 20 * w + 1) (z_v8 (t w) 1)) z (6 + 20 * w + 2) (z_v8 (t w) 2)) z (6 + 20 * w + 3) (z_v8 (t w) 3)) z (6 + 20 * w + 4) (z_v8 (t w) 4)) z i (z_v8 (t w) 5)) i5)).trans ?_
        refine (q_Lr (a_hasFoul ((((((hR.u hz).u hz).u hz).u hz).u hz).u hz) hV hw (l := 0) (by decide)).2).trans ?_
        refine (q_Lr rfl).trans ?_
        refine (q_Lr (a_hasFoul ((((((hR.u hz).u hz).u hz).u hz).u hz).u hz) hV hw (l := 1) (by decide)).2).trans ?_
        refine (q_Lr rfl).trans ?_
        refine (q_Lr (congrArg (fun i => q_up (q_up (q_up (q_up (q_up (q_up (q_up (τ) z (6 + 20 * w) (z_v8 (t w) 0)) z (6 + 20 * w + 1) (z_v8 (t w) 1)) z (6 + 20 * w + 2) (z_v8 (t w) 2)) z (6 + 20 * w + 3) (z_v8 (t w) 3)) z (6 + 20 * w + 4) (z_v8 (t w) 4)) z (6 + 20 * w + 5) (z_v8 (t w) 5)) z i (z_v8 (t w) 6)) i6)).trans ?_
        refine (q_Lr (a_timeOf (((((((hR.u hz).u hz).u hz).u hz).u hz).u hz).u hz) hV hw).2).trans ?_
        refine (q_Lr (congrArg (fun i => q_up (q_up (q_up (q_up (q_up (q_up (q_up (q_up (τ) z (6 + 20 * w) (z_v8 (t w) 0)) z (6 + 20 * w + 1) (z_v8 (t w) 1)) z (6 + 20 * w + 2) (z_v8 (t w) 2)) z (6 + 20 * w + 3) (z_v8 (t w) 3)) z (6 + 20 * w + 4) (z_v8 (t w) 4)) z (6 + 20 * w + 5) (z_v8 (t w) 5)) z (6 + 20 * w + 6) (z_v8 (t w) 6)) z i (z_v8 (t w) 7)) i7)).trans ?_
        refine (q_Lr rfl).trans ?_
        rw [nI_1]
        rfl
      have h8 : ∀ τ : q_M, z_R τ 0 b t → z_R (z_8 z (6 + 20 * w) (z_v8 (t w)) τ) 0 b t := fun τ hR => hR.off (fun a _ a2 => z_8_off (by omega))
      obtain ⟨r1, r2, r3⟩ := s_in hV hz hw 5 0 rfl (by decide) _ (h8 τ hR)
      have hR5 : ∀ τ : q_M, z_R τ 0 b t → z_R (FL_L_seen_175 z (nI w) (nI (6 + 20 * w)) 5 (nI 0) (z_8 z (6 + 20 * w) (z_v8 (t w)) τ)) 0 b t := fun τ hR => (h8 τ hR).off (fun a _ a2 => (s_in hV hz hw 5 0 rfl (by decide) _ (h8 τ hR)).2.1 a (by omega))
      obtain ⟨q1, q2, q3⟩ := ih (w + 1) (by omega) (by omega) _ (hR5 τ hR)
      refine ⟨⟨(a_count hR hV).1, fun x22 h22 => ⟨fun _ => ?_, fun q => ?_⟩⟩, fun a ha => ?_, fun τ' hR' hr => ?_⟩
      · intro x25 h25
        rw [e25] at h25
        subst h25
        refine ⟨(a_laneOf hR hV hw).1, fun x h => ?_⟩
        rw [(a_laneOf hR hV hw).2] at h
        subst h
        refine ⟨p0, fun σ9 h9 => ?_⟩
        rw [i0] at h9
        subst h9
        refine ⟨(a_positionOf (hR.u hz) hV hw).1, fun x h => ?_⟩
        rw [(a_positionOf (hR.u hz) hV hw).2] at h
        subst h
        refine ⟨p1, fun σ9 h9 => ?_⟩
        rw [i1] at h9
        subst h9
        refine ⟨(a_legOf ((hR.u hz).u hz) hV hw).1, fun x h => ?_⟩
        rw [(a_legOf ((hR.u hz).u hz) hV hw).2] at h
        subst h
        refine ⟨p2, fun σ9 h9 => ?_⟩
        rw [i2] at h9
        subst h9
        refine ⟨(a_isRunning (((hR.u hz).u hz).u hz) hV hw).1, fun x h => ?_⟩
        rw [(a_isRunning (((hR.u hz).u hz).u hz) hV hw).2] at h
        subst h
        refine ⟨trivial, fun x h => ?_⟩
        subst h
        refine ⟨p3, fun σ9 h9 => ?_⟩
        rw [i3] at h9
        subst h9
        refine ⟨(a_standingOf ((((hR.u hz).u hz).u hz).u hz) hV hw).1, fun x h => ?_⟩
        rw [(a_standingOf ((((hR.u hz).u hz).u hz).u hz) hV hw).2] at h
        subst h
        refine ⟨p4, fun σ9 h9 => ?_⟩
        rw [i4] at h9
        subst h9
        refine ⟨(a_penaltyOf (((((hR.u hz).u hz).u hz).u hz).u hz) hV hw).1, fun x h => ?_⟩
        rw [(a_penaltyOf (((((hR.u hz).u hz).u hz).u hz).u hz) hV hw).2] at h
        subst h
        refine ⟨p5, fun σ9 h9 => ?_⟩
        rw [i5] at h9
        subst h9
        refine ⟨(a_hasFoul ((((((hR.u hz).u hz).u hz).u hz).u hz).u hz) hV hw (l := 0) (by decide)).1, fun x h => ?_⟩
        have h := (a_hasFoul ((((((hR.u hz).u hz).u hz).u hz).u hz).u hz) hV hw (l := 0) (by decide)).2.symm.trans h
        subst h
        refine ⟨trivial, fun x h => ?_⟩
        subst h
        refine ⟨(a_hasFoul ((((((hR.u hz).u hz).u hz).u hz).u hz).u hz) hV hw (l := 1) (by decide)).1, fun x h => ?_⟩
        have h := (a_hasFoul ((((((hR.u hz).u hz).u hz).u hz).u hz).u hz) hV hw (l := 1) (by decide)).2.symm.trans h
        subst h
        refine ⟨trivial, fun x h => ?_⟩
        subst h
        refine ⟨p6, fun σ9 h9 => ?_⟩
        rw [i6] at h9
        subst h9
        refine ⟨(a_timeOf (((((((hR.u hz).u hz).u hz).u hz).u hz).u hz).u hz) hV hw).1, fun x h => ?_⟩
        rw [(a_timeOf (((((((hR.u hz).u hz).u hz).u hz).u hz).u hz).u hz) hV hw).2] at h
        subst h
        refine ⟨p7, fun σ9 h9 => ?_⟩
        rw [i7] at h9
        subst h9
        refine ⟨r1, fun σ9 h9 => ?_⟩
        subst h9
        rw [nI_1]
        exact q1
      · exfalso
        rw [(a_count hR hV).2] at h22
        subst h22
        exact q c
      · rw [key τ hR, q2 a ha, r2 a ha, z_8_off ha]
      · rw [key τ hR, key τ' hR']
        exact q3 _ (hR5 τ' hR') (r3 _ (h8 τ' hR') (z_8_row hr))
    · have c : ¬ nI w < nI (b 3) := nI_nlt hw (by omega)
      have key : ∀ τ : q_M, z_R τ 0 b t → FL_L_seen_44 z (nn + 1) (nI w) τ = τ := fun τ hR => (q_Lr (a_count hR hV).2).trans (if_neg c)
      refine ⟨⟨(a_count hR hV).1, fun x22 h22 => ⟨fun q => ?_, fun _ => trivial⟩⟩, fun a _ => by rw [key τ hR], fun τ' hR' hr => by rw [key τ hR, key τ' hR']; exact hr⟩
      exfalso
      rw [(a_count hR hV).2] at h22
      subst h22
      exact c q
def z_4 (z : Nat) (b : Nat → Nat) (τ : q_M) : q_M := q_up (q_up (q_up (q_up τ z 0 (nI (b 2))) z 1 (nI (b 3))) z 2 (nI (b 0))) z 3 (if nI (b 1) = 0 then 0 else 1)
theorem s_seen (hV : z_V k b t) (hz : 229 ≤ z) {τ : q_M} (hR : z_R τ 0 b t) : P_L_seen z τ ∧ (∀ a, a ≠ z → F_L_seen z τ a = τ a) ∧ ∀ τ' : q_M, z_R τ' 0 b t → τ z = τ' z → F_L_seen z τ z = F_L_seen z τ' z := by
  have key : ∀ τ : q_M, z_R τ 0 b t → F_L_seen z τ = FL_L_seen_44 z 7 (nI 0) (z_4 z b τ) := by
    intro τ hR
    refine (q_Lr (show F_X8_clock τ = nI (b 2) from hR.ck)).trans ?_
    refine (q_Lr rfl).trans ?_
    refine (q_Lr (a_count (hR.u hz) hV).2).trans ?_
    refine (q_Lr rfl).trans ?_
    refine (q_Lr (show F_X8_length (q_up (q_up τ z 0 (nI (b 2))) z 1 (nI (b 3))) = nI (b 0) from ((hR.u hz).u hz).ll)).trans ?_
    refine (q_Lr rfl).trans ?_
    refine (q_Lr (a_started (((hR.u hz).u hz).u hz) hV).2).trans ?_
    refine (q_Lr rfl).trans ?_
    refine (q_Lr rfl).trans ?_
    exact q_Lr rfl
  have h4 : ∀ τ : q_M, z_R τ 0 b t → z_R (z_4 z b τ) 0 b t := fun τ hR => (((hR.u hz).u hz).u hz).u hz
  obtain ⟨q1, q2, q3⟩ := s_out hV hz 7 0 rfl (Nat.zero_le _) _ (h4 τ hR)
  refine ⟨?_, fun a ha => ?_, fun τ' hR' hr => ?_⟩
  · intro x1 h1
    have h1 := (show F_X8_clock τ = nI (b 2) from hR.ck).symm.trans h1
    subst h1
    intro σ3 h3
    subst h3
    refine ⟨(a_count (hR.u hz) hV).1, fun x5 h5 => ?_⟩
    rw [(a_count (hR.u hz) hV).2] at h5
    subst h5
    intro σ7 h7
    subst h7
    intro x9 h9
    have h9 := (show F_X8_length (q_up (q_up τ z 0 (nI (b 2))) z 1 (nI (b 3))) = nI (b 0) from ((hR.u hz).u hz).ll).symm.trans h9
    subst h9
    intro σ11 h11
    subst h11
    refine ⟨(a_started (((hR.u hz).u hz).u hz) hV).1, fun x13 h13 => ?_⟩
    rw [(a_started (((hR.u hz).u hz).u hz) hV).2] at h13
    subst h13
    refine ⟨trivial, fun x16 h16 => ?_⟩
    subst h16
    intro σ18 h18
    subst h18
    exact ⟨q1, fun _ _ => trivial⟩
  · rw [key τ hR, q2 a ha]
    unfold z_4
    rw [q_up_off ha, q_up_off ha, q_up_off ha, q_up_off ha]
  · rw [key τ hR, key τ' hR']
    refine q3 _ (h4 τ' hR') ?_
    unfold z_4
    rw [q_up_row, q_up_row, q_up_row, q_up_row, hr, q_up_row, q_up_row, q_up_row, q_up_row]
end q79
theorem s_9 {σ : q_M} {b : Nat → Nat} {t : Nat → Nat → Nat} (hR : z_R σ 0 b t) : z_R (q_s9 σ) 0 b t := hR.off (fun a _ a2 => q_put_o (by omega))
theorem s_OK {k : Nat} {σ : q_M} {b : Nat → Nat} {t : Nat → Nat → Nat} (hR : z_R σ 0 b t) (hV : z_V k b t) : q_sOK σ := by
  obtain ⟨h1, h2, -⟩ := s_seen (z := 229) hV (by decide) (s_9 hR)
  exact ⟨h1, fun j hj => (h2 j (by omega)).trans (q_put_o (by omega))⟩
theorem s_eq {k : Nat} {σ τ : q_M} {b : Nat → Nat} {t : Nat → Nat → Nat} (hR : z_R σ 0 b t) (hR' : z_R τ 0 b t) (hV : z_V k b t) : ∀ j, j < 130 → q_sn σ j = q_sn τ j := by
  intro j _
  exact congrFun ((s_seen (z := 229) hV (by decide) (s_9 hR)).2.2 _ (s_9 hR') ((q_put_z).trans (q_put_z).symm)) j
