/-! What holds at the start: constants under one numbering. -/
theorem e_i32 (x : Int32) : Int32.ofNat x.toUInt32.toNat = x := by
  show Int32.ofUInt32 (UInt32.ofNat x.toUInt32.toNat) = x
  rw [UInt32.ofNat_toNat]
set_option maxRecDepth 100000 in
set_option maxHeartbeats 4000000 in
theorem e_EF {args : Array Value} {s : State} {A : Nat → Prop} (hts : ∀ w ∈ lw_tbl, w.before args s = true) (hn : ∀ w ∈ e_n, w.before args s = true) (hA : ∀ a : Nat, a < s.heap.size → ¬ A a) {b L : Nat} {xs : Nat → Int32} (hX : va_T .int b L (fun i => .int (xs i)) A s s.heap) (hL : L ≤ 260) : ∃ α β : Nat → Nat, q_EF α β A s s.heap ∧ α 335 = b ∧ α 329 = 0 := by
  have pr : ∀ i, i < 18 → ∀ j, j < 18 → i ≠ j → (Cond.not (.eq (e_te i) (e_te j))).before args s = true ∨ (Cond.not (.eq (e_te j) (e_te i))).before args s = true := fun i hi j hj hij => (e_p i hi j hj hij).imp (fun h => hn _ (List.mem_of_getElem? h)) (fun h => hn _ (List.mem_of_getElem? h))
  obtain ⟨aS, hS, vS⟩ := va_Enof2 (E := RX5) (d := "LQuillRelay$Stage;") (nm := q_nS) (F := q_fS) (A := A) (fun i hi => hts _ (List.mem_of_getElem? (e_S1 i hi))) (hts _ e_S0) (fun i hi => hn _ (List.mem_of_getElem? (e_S2 i hi))) (fun q hq i hi => by
    cases List.mem_singleton.mp hq
    exact hn _ (List.mem_of_getElem? (e_S3 i hi))) (fun i j hi hj hij => by
    have hi5 : i < 5 := hi
    have hj5 : j < 5 := hj
    rw [← e_S9 i hi, ← e_S9 j hj]
    exact pr _ (by omega) _ (by omega) (by omega)) hA
  obtain ⟨aF, hF, vF⟩ := va_Enof2 (E := RX1) (d := "LQuillRelay$Fault;") (nm := q_nF) (F := []) (A := A) (fun i hi => hts _ (List.mem_of_getElem? (e_F1 i hi))) (hts _ e_F0) (fun i hi => hn _ (List.mem_of_getElem? (e_F2 i hi))) (fun q hq i hi => by cases hq) (fun i j hi hj hij => by
    have hi5 : i < 5 := hi
    have hj5 : j < 5 := hj
    rw [← e_F9 i hi, ← e_F9 j hj]
    exact pr _ (by omega) _ (by omega) (by omega)) hA
  obtain ⟨aV, hV, vV⟩ := va_Enof2 (E := RX7) (d := "LQuillRelay$Verb;") (nm := q_nV) (F := q_fV) (A := A) (fun i hi => hts _ (List.mem_of_getElem? (e_V1 i hi))) (hts _ e_V0) (fun i hi => hn _ (List.mem_of_getElem? (e_V2 i hi))) (fun q hq i hi => by
    cases List.mem_singleton.mp hq
    exact hn _ (List.mem_of_getElem? (e_V3 i hi))) (fun i j hi hj hij => by
    have hi5 : i < 8 := hi
    have hj5 : j < 8 := hj
    rw [← e_V9 i hi, ← e_V9 j hj]
    exact pr _ (by omega) _ (by omega) (by omega)) hA
  have bS : ∀ i, i < 5 → aS i < s.heap.size := fun i hi => by
    obtain ⟨cell, h1, -⟩ := (hS.1 i hi).2.1
    exact (Array.getElem?_eq_some_iff.mp h1).1
  have bF : ∀ i, i < 5 → aF i < s.heap.size := fun i hi => by
    obtain ⟨cell, h1, -⟩ := (hF.1 i hi).2.1
    exact (Array.getElem?_eq_some_iff.mp h1).1
  have bV : ∀ i, i < 8 → aV i < s.heap.size := fun i hi => by
    obtain ⟨cell, h1, -⟩ := (hV.1 i hi).2.1
    exact (Array.getElem?_eq_some_iff.mp h1).1
  have nSF : ∀ i j, i < 5 → j < 5 → aS i ≠ aF j := fun i j hi hj e => by
    have h := pr (0 + i) (by omega) (5 + j) (by omega) (by omega)
    rw [e_S9 i hi, e_F9 j hj] at h
    rcases h with h | h
    · exact va_neR h (vS i hi) (vF j hj) e
    · exact va_neR h (vF j hj) (vS i hi) e.symm
  have nSV : ∀ i j, i < 5 → j < 8 → aS i ≠ aV j := fun i j hi hj e => by
    have h := pr (0 + i) (by omega) (10 + j) (by omega) (by omega)
    rw [e_S9 i hi, e_V9 j hj] at h
    rcases h with h | h
    · exact va_neR h (vS i hi) (vV j hj) e
    · exact va_neR h (vV j hj) (vS i hi) e.symm
  have nFV : ∀ i j, i < 5 → j < 8 → aF i ≠ aV j := fun i j hi hj e => by
    have h := pr (5 + i) (by omega) (10 + j) (by omega) (by omega)
    rw [e_F9 i hi, e_V9 j hj] at h
    rcases h with h | h
    · exact va_neR h (vF i hi) (vV j hj) e
    · exact va_neR h (vV j hj) (vF i hi) e.symm
  obtain ⟨adK, adV, hK, vK⟩ := e_Sof hn hA
  obtain ⟨tb, htb, hTb⟩ := va_Tof (N := 8) (f := fun j => .ref (aV j)) (A := A) (by decide) (hn _ e_vb1) (va_eqt (hn _ e_vb2)) (fun j hj => va_eqv (hn _ (List.mem_of_getElem? (e_vb3 j hj))) (vV j hj)) hA
  obtain ⟨ts, hts2, hTs⟩ := va_Tof (N := 8) (f := fun j => .int (nI ((j + 1) % 8))) (A := A) (by decide) (hn _ e_sm1) (va_eqt (hn _ e_sm2)) (fun j hj => va_eqt (hn _ (List.mem_of_getElem? (e_sm3 j hj)))) hA
  obtain ⟨tdo, hdo, hTo⟩ := va_Tof (N := 100) (f := fun j => .int (nI (48 + j % 10))) (A := A) (by decide) (hn _ e_do1) (va_eqt (hn _ e_do2)) (fun j hj => va_eqt (hn _ (List.mem_of_getElem? (e_do3 j hj)))) hA
  obtain ⟨tdt, hdt, hTt⟩ := va_Tof (N := 100) (f := fun j => .int (nI (48 + j / 10))) (A := A) (by decide) (hn _ e_dt1) (va_eqt (hn _ e_dt2)) (fun j hj => va_eqt (hn _ (List.mem_of_getElem? (e_dt3 j hj)))) hA
  obtain ⟨tf, hf⟩ : ∃ tf, va_Z "jdk/internal/util/Preconditions" "SIOOBE_FORMATTER" "Ljava/util/function/BiFunction;" .null A s s.heap ∨ va_Z "jdk/internal/util/Preconditions" "SIOOBE_FORMATTER" "Ljava/util/function/BiFunction;" (.ref tf) A s s.heap := by
    rcases va_Zqof (A := A) (hts _ e_sf0) (hts _ e_sfi) (hn _ e_sf1) hA with h | ⟨t, h⟩
    · exact ⟨0, Or.inl h⟩
    · exact ⟨t, Or.inr h⟩
  let β : Nat → Nat := fun c => if c < 5 then aS c else if c < 10 then s.heap.size + c else if c < 15 then aF (c - 10) else if c < 20 then s.heap.size + c else if c < 28 then aV (c - 20) else s.heap.size + c
  let α : Nat → Nat := fun k => if k < 340 then (match k with | 330 => tb | 331 => ts | 332 => tdo | 333 => tdt | 334 => tf | 335 => b | 336 => L | _ => 0) else if k < 356 then adK (k - 340) else if k = 356 then adK 0 else if k < 360 then 0 else if k < 376 then adV (k - 360) else if k = 376 then adV 0 else if k < 700 then 0 else if k = 700 then 5 else if k < 1000 then ([115, 116, 97, 114, 116] : List Nat).getD (k - 701) 0 else (xs (k - 1000)).toUInt32.toNat
  have β0 : ∀ i, i < 5 → β i = aS i := fun i hi => if_pos hi
  have β1 : ∀ i, i < 5 → β (10 + i) = aF i := fun i hi => by
    show (if 10 + i < 5 then _ else _) = _
    rw [if_neg (by omega), if_neg (by omega), if_pos (by omega), show 10 + i - 10 = i by omega]
  have β2 : ∀ i, i < 8 → β (20 + i) = aV i := fun i hi => by
    show (if 20 + i < 5 then _ else _) = _
    rw [if_neg (by omega), if_neg (by omega), if_neg (by omega), if_neg (by omega), if_pos (by omega), show 20 + i - 20 = i by omega]
  have α4 : ∀ i, i < 16 → α (340 + i) = adK i := fun i hi => by
    show (if 340 + i < 340 then _ else _) = _
    rw [if_neg (by omega), if_pos (by omega), show 340 + i - 340 = i by omega]
  have α6 : ∀ i, i < 16 → α (360 + i) = adV i := fun i hi => by
    show (if 360 + i < 340 then _ else _) = _
    rw [if_neg (by omega), if_neg (by omega), if_neg (by omega), if_neg (by omega), if_pos (by omega), show 360 + i - 360 = i by omega]
  have αx : ∀ i, α (1000 + i) = (xs i).toUInt32.toNat := fun i => by
    show (if 1000 + i < 340 then _ else _) = _
    rw [if_neg (by omega), if_neg (by omega), if_neg (by omega), if_neg (by omega), if_neg (by omega), if_neg (by omega), if_neg (by omega), if_neg (by omega), if_neg (by omega), show 1000 + i - 1000 = i by omega]
  have α7 : ∀ i, i < 100 → α (701 + i) = ([115, 116, 97, 114, 116] : List Nat).getD i 0 := fun i hi => by
    show (if 701 + i < 340 then _ else _) = _
    rw [if_neg (by omega), if_neg (by omega), if_neg (by omega), if_neg (by omega), if_neg (by omega), if_neg (by omega), if_neg (by omega), if_neg (by omega), if_pos (by omega), show 701 + i - 701 = i by omega]
  have hTX : q_TX α A s s.heap := by
    refine ⟨?_, by show (5 : Nat) ≤ 100; decide, fun i hi => ?_, ?_, hL, by show (0 : Nat) ≤ 90; decide⟩
    · have e7 : (List.range (α 700)).map (fun i => nI (α (701 + i))) = q_sb.getD 0 [] := by
        show (List.range 5).map (fun i => nI (α (701 + i))) = _
        rw [show List.range 5 = [0, 1, 2, 3, 4] from rfl]
        simp only [List.map_cons, List.map_nil]
        rw [α7 0 (by decide), α7 1 (by decide), α7 2 (by decide), α7 3 (by decide), α7 4 (by decide)]
        rfl
      rw [e7]
      have h := hK.1 0 (by decide)
      refine ⟨fun i hi => ?_, fun i j hi hj _ => by omega⟩
      obtain rfl : i = 0 := by omega
      exact h
    · rw [α7 i hi]
      by_cases h5 : i < 5
      · rcases (show i = 0 ∨ i = 1 ∨ i = 2 ∨ i = 3 ∨ i = 4 by omega) with rfl | rfl | rfl | rfl | rfl <;> decide
      · rw [List.getD_eq_getElem?_getD, List.getElem?_eq_none (by simp; omega)]
        decide
    · have e9 : (fun i => Value.int (q_scr α i)) = (fun i => Value.int (xs i)) := by
        funext i
        unfold q_scr
        rw [αx, e_i32]
      rw [e9]
      exact hX
  have cl : ∀ c, (c < 5 ∧ β c = aS c) ∨ (10 ≤ c ∧ c < 15 ∧ β c = aF (c - 10)) ∨ (20 ≤ c ∧ c < 28 ∧ β c = aV (c - 20)) ∨ β c = s.heap.size + c := by
    intro c
    by_cases h1 : c < 5
    · exact Or.inl ⟨h1, if_pos h1⟩
    · by_cases h2 : c < 10
      · exact Or.inr (Or.inr (Or.inr (by show (if c < 5 then _ else _) = _; rw [if_neg h1, if_pos h2])))
      · by_cases h3 : c < 15
        · exact Or.inr (Or.inl ⟨by omega, h3, by show (if c < 5 then _ else _) = _; rw [if_neg h1, if_neg h2, if_pos h3]⟩)
        · by_cases h4 : c < 20
          · exact Or.inr (Or.inr (Or.inr (by show (if c < 5 then _ else _) = _; rw [if_neg h1, if_neg h2, if_neg h3, if_pos h4])))
          · by_cases h5 : c < 28
            · exact Or.inr (Or.inr (Or.inl ⟨by omega, h5, by show (if c < 5 then _ else _) = _; rw [if_neg h1, if_neg h2, if_neg h3, if_neg h4, if_pos h5]⟩))
            · exact Or.inr (Or.inr (Or.inr (by show (if c < 5 then _ else _) = _; rw [if_neg h1, if_neg h2, if_neg h3, if_neg h4, if_neg h5])))
  have inj : ∀ i j, β i = β j → i = j := by
    intro i j e
    rcases cl i with ⟨h, h'⟩ | ⟨h0, h, h'⟩ | ⟨h0, h, h'⟩ | h' <;> rcases cl j with ⟨g, g'⟩ | ⟨g0, g, g'⟩ | ⟨g0, g, g'⟩ | g' <;> rw [h', g'] at e
    · exact hS.2 i j h g e
    · exact absurd e (nSF i _ h (by omega))
    · exact absurd e (nSV i _ h (by omega))
    · have := bS i h; omega
    · exact absurd e.symm (nSF j _ g (by omega))
    · have := hF.2 (i - 10) (j - 10) (show i - 10 < 5 by omega) (show j - 10 < 5 by omega) e; omega
    · exact absurd e (nFV _ _ (by omega) (by omega))
    · have := bF (i - 10) (by omega); omega
    · exact absurd e.symm (nSV j _ g (by omega))
    · exact absurd e.symm (nFV _ _ (by omega) (by omega))
    · have := hV.2 (i - 20) (j - 20) (show i - 20 < 8 by omega) (show j - 20 < 8 by omega) e; omega
    · have := bV (i - 20) (by omega); omega
    · have := bS j g; omega
    · have := bF (j - 10) (by omega); omega
    · have := bV (j - 20) (by omega); omega
    · omega
  refine ⟨α, β, ⟨e_En β0 hS, e_En β1 hF, e_En β2 hV, inj, ?_, va_Zof (hts _ e_vb0) (hts _ e_vbi) htb hA, ?_, va_Zof (hts _ e_sm0) (hts _ e_smi) hts2 hA, hTs, ⟨?_, ?_⟩, vx_Zqof (hts _ e_us0) (hts _ e_usi) (hn _ e_us1) hA, vx_Zqof (hts _ e_ss0) (hts _ e_ssi) (hn _ e_ss1) hA, ?_⟩, rfl, rfl⟩
  · intro i hi
    have h := va_Efof (N := 8) (E := RX7) (d0 := "LQuillRelay$Verb;") (nm := q_nV) (o := RX7) (n := "pattern") (d := "Ljava/lang/String;") (v := fun i => .ref (adK i)) (tm := e_tm) (ad := aV) (A := A) vV (fun i hi => hn _ (List.mem_of_getElem? (e_k2 i hi))) (fun i hi => vK i (by omega)) hA i hi
    show va_OF "QuillRelay$Verb" "pattern" "Ljava/lang/String;" (.ref (α (340 + i))) (β (20 + i)) A s s.heap
    rw [α4 i (by omega), β2 i hi]
    exact h
  · obtain ⟨cell, h1, h2, h3, h4, h5, h6, h7⟩ := hTb
    exact ⟨cell, h1, h2, h3, h4, h5, fun j hj => by dsimp only; rw [β2 j hj]; exact h6 j hj, h7⟩
  · refine ⟨fun i hi => ?_, fun i j hi hj e => hK.2 i j hi hj (by dsimp only at e; rw [α4 i hi, α4 j hj] at e; exact e)⟩
    have h := hK.1 i hi
    dsimp only
    rw [α4 i hi, α6 i hi]
    exact h
  · exact ⟨va_Zof (hts _ e_c0) (hts _ e_ci) (va_eqi (hn _ e_c1)) hA, va_Zof (hts _ e_do0) (hts _ e_doi) hdo hA, hTo, va_Zof (hts _ e_dt0) (hts _ e_dti) hdt hA, hTt, hf, hTX⟩
  · refine ⟨fun i hi => ?_, fun q hq => ?_, fun w hw => va_Nw.of (e_w4 w hw) (hts _ (e_w1 w hw)), fun a ha b hb hab => va_Nc.of (hn _ (e_w3 a ha b hb hab)), fun w hw => ?_⟩
    · have h := vK (8 + i) (by omega)
      rw [e_k3 i hi] at h
      have e : α (348 + i) = adK (8 + i) := by rw [show 348 + i = 340 + (8 + i) by omega]; exact α4 _ (by omega)
      rw [e]
      exact vk_R.of (hts _ (List.mem_of_getElem? (e_k1 i hi))) h
    · obtain ⟨i, hi⟩ := List.mem_iff_getElem?.mp hq
      have hl : i < 21 := (List.getElem?_eq_some_iff.mp hi).1
      have e : q_msg.getD i (0, "") = q := by rw [List.getD_eq_getElem?_getD, hi]; rfl
      have h1 := hts _ (List.mem_of_getElem? (e_m1 i hl))
      obtain ⟨a, c, cell, k, q1, -⟩ := Cond.exactly_spec (hn _ (List.mem_of_getElem? (e_m2 i hl)))
      rw [e] at h1 q1
      exact ⟨a, vk_R.of h1 q1⟩
    · by_cases h : w ∈ q_XW.take 38
      · exact va_Nw.of (e_w5 w hw) (hts _ (e_w2 w h))
      · have hd : w ∈ q_XW.drop 38 := by
          have := List.take_append_drop 38 q_XW ▸ hw
          exact (List.mem_append.mp this).resolve_left h
        refine va_Nw.of (A := args) (e_w5 w hw) ?_
        simp only [q_XW, List.drop, List.mem_cons, List.not_mem_nil, or_false] at hd
        rcases hd with rfl | rfl | rfl | rfl
        · exact s_selP (by decide) (hts _ e_pb) (hts _ e_pr_ensureCapacityInternal) (hts _ e_pi_ensureCapacityInternal) (hts _ e_ps) rfl
        · exact s_selP (by decide) (hts _ e_pb) (hts _ e_pr_newCapacity) (hts _ e_pi_newCapacity) (hts _ e_ps) rfl
        · exact s_selP (by decide) (hts _ e_pb) (hts _ e_pr_putStringAt) (hts _ e_pi_putStringAt) (hts _ e_ps) rfl
        · exact s_selP (by decide) (hts _ e_pb) (hts _ e_pr_inflateIfNeededFor) (hts _ e_pi_inflateIfNeededFor) (hts _ e_ps) rfl
