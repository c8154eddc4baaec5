theorem dV_0 : decode code 0 = .ok (.aload_n 0, 1) := by decide +kernel
theorem dV_1 : decode code 1 = .ok (.invokestatic 251, 3) := by decide +kernel
theorem dV_4 : decode code 4 = .ok (.astore_n 1, 1) := by decide +kernel
theorem dV_5 : decode code 5 = .ok (.aload_n 1, 1) := by decide +kernel
theorem dV_6 : decode code 6 = .ok (.ifnull 10, 3) := by decide +kernel
theorem dV_9 : decode code 9 = .ok (.aload_n 1, 1) := by decide +kernel
theorem dV_10 : decode code 10 = .ok (.invokestatic 255, 3) := by decide +kernel
theorem dV_13 : decode code 13 = .ok (.ifCond .ne 5, 3) := by decide +kernel
theorem dV_18 : decode code 18 = .ok (.iconst 0, 1) := by decide +kernel
theorem dV_19 : decode code 19 = .ok (.istore_n 2, 1) := by decide +kernel
theorem dV_266 : decode code 266 = .ok (.ireturn, 1) := by decide +kernel
/-! The law from its entry to its end. -/
theorem lw_loop {α β : Nat → Nat} {D : va_G} {κ : Nat → ClassId} {p : Program} {l : Launch} {e : Env} {s : State} {m : MethodId} {args : Array Value} {below : List Frame} {meth : Method} {c : Code} {A : Nat → Prop} {Q : State → Prop} {I : Nat → q_M → Prop} (hI : q_OK I) (hfl : l.flags = flags0) (C : q_Cx α β D κ p s m args meth c code RL (fun _ => none) (fun _ => none) 5 A) (h329 : α 329 = 0) (h336 : α 336 ≤ 260) (kk : ∀ (H : Heap) (locs : List Loc) (ls : Array Slot) (k1 k2 : Nat), k1 ≤ 503000 → k2 ≤ 7020000 → va_S A s.heap H locs → W p l e room_1 s m args below meth c H locs k1 k2 Q (F0 m 266 ls [.int 1])) : ∀ (t k : Nat) (σ : q_M) (n1 n2 : Nat), t + k = 12 → I k σ → n1 + t * 1856 ≤ 500000 → n2 + t * 32128 ≤ 7000000 → r_St α β D κ p l e room_1 s m args below meth c 5 A Q n1 n2 [] σ [(0, .ref (α 335)), (1, .ref (α 220)), (2, .int (nI k))] 20 [] := by
  intro t
  induction t with
  | zero =>
    intro k σ n1 n2 hk hσ h1 h2
    obtain rfl : k = 12 := by omega
    exact lw_tail hfl C h329 (hI.2.1 12 σ hσ).2.2 (hI.2.2.2 σ hσ) (by omega) (by omega) (fun H locs ls k1 k2 a b hS => kk H locs ls k1 k2 (by omega) (by omega) hS)
  | succ t ih =>
    intro k σ n1 n2 hk hσ h1 h2
    exact lw_round hI hfl C h329 h336 (by omega) hσ (by omega) (by omega) (fun σ' h' => ih (k + 1) σ' (n1 + 1856) (n2 + 32128) (by omega) h' (by omega) (by omega))
set_option maxRecDepth 100000 in
set_option maxHeartbeats 4000000 in
theorem lw_all (I : Nat → q_M → Prop) (hI : q_OK I) {p : Program} {e : Env} {s : State} {m : MethodId} {below : List Frame} {meth : Method} {c : Code} (l : Launch) (hflags : l.flags = flags0) {b L : Nat} {xs : Nat → Int32} (hL : L ≤ 260) (C0 : lw_At p s m meth c b L xs) : W p l e room_1 s m #[Value.ref b] below meth c s.heap [] 0 0 (lw_Z below #[Value.ref b] s) (entryFrame m ([Value.ref b] : List Value).toArray 5) := by
  obtain ⟨hx, hb, hr, hml, hown, hts, hX, hbl, hlocks, hgv⟩ := C0
  have hn : ∀ w ∈ e_n, w.before #[Value.ref b] s = true := by
    rw [Cond.before_and, Bool.and_eq_true] at hgv
    exact flat_of_before _ hgv.2
  have hA9 : ∀ q, va_A [] s.heap.size q → s.heap.size ≤ q := by
    rintro q (⟨k, e9, h⟩ | h)
    · cases h
    · exact h
  have hA : ∀ a : Nat, a < s.heap.size → ¬ va_A [] s.heap.size a := fun a h1 h2 => by
    have := hA9 a h2
    omega
  obtain ⟨scr, g1, g2, g3, g4, g5⟩ := hX
  have hT : va_T .int b L (fun i => .int (xs i)) (va_A [] s.heap.size) s s.heap := ⟨scr, g1, g2, g3, Nat.le_of_eq g4.symm, by rw [g4], g5, hA b hbl⟩
  obtain ⟨α, β, hE, h335, h329⟩ := e_EF (A := va_A [] s.heap.size) hts hn hA hT hL
  obtain ⟨D, κ, hK⟩ := e_K hts
  have hq : ∀ w ∈ q_W, w.before #[Value.ref b] s = true := fun w hw => hts w (List.mem_filter.mp hw).1
  have C : c_Cx α β D κ p s m #[Value.ref b] meth c code RL 5 (va_A [] s.heap.size) := ⟨hx, hb, hml, hown, hq, hK, ⟨hE, va_AO.of (hts _ e_ao_RX6), va_AO.of (hts _ e_ao_RX4)⟩, fun q h => Or.inr h, hlocks⟩
  have hl := lv_entry ([.ref b]) (n := 5) (Nat.le_of_ble_eq_true rfl)
  rw [lg_entry_eq]
  generalize (lg_sl ([.ref b] : List Value) ++ List.replicate (5 - (lg_sl ([.ref b] : List Value)).length) Slot.unset).toArray = ls at hl ⊢
  have hl : lv_has ls 5 [(0, .ref b)] := hl
  have hP : va_P D vwCl ([] ++ []) s.heap := fun k q h => by cases h
  have hD : va_D (va_A [] s.heap.size) ([] ++ []) := ⟨fun i j p q h => (by cases h), fun k q h => (by cases h)⟩
  have hS : va_S (va_A [] s.heap.size) s.heap s.heap [] := va_S.rf
  refine lv_aload_n hx hb dV_0 rfl (lv_at hl 0 rfl) ?_
  have hm := mw_L_begun
  obtain ⟨hm1, hm2, hm3, hm4⟩ := hm
  have h336 : ∀ α' : Nat → Nat, (∀ k, 229 ≤ k → α' k = α k) → α' 336 ≤ 260 := fun α' h => by rw [h 336 (by decide)]; exact hE.tx.2.2.2.2.1
  have hM := b_begun (α := α) (β := β) (D := D) (κ := κ) (fun α' h => ⟨(hI.1 α' (h336 α' h)).1, (hI.1 α' (h336 α' h)).2.1⟩) h329 l hflags s.heap.size
  rw [h335] at hM
  have hr9 := va_runS (meth := meth) (e := e) (R := room_1) (below := below) (locs := []) (cells := 0) (slots := 0) (g := F0 m 1 ls [.ref b]) (As := [.ref b]) (rest := []) (n := 1) ⟨hx, hb, hml, hown, hq⟩ hM (va_cwS 1 hq (r_GS (q_GI hm1) ms_L_begun lk_L_251 hm4) rfl rfl rfl ⟨hm2.1, hm2.2, hm3⟩ ⟨Nat.le_of_ble_eq_true rfl, Nat.le_of_ble_eq_true rfl⟩) ⟨c_FB, c_pre C hP hD hS⟩ rfl rfl hl.1 rfl (lv_room (by decide)) dV_1 ⟨Nat.le_of_ble_eq_true rfl, Nat.le_of_ble_eq_true rfl⟩
  intro T hT9 X
  obtain ⟨v9, st₀, t, T', L9, h0, X', hL9, e1, e2, ⟨α', hα, hv2, ⟨Y', hY', hP', hD'⟩, hFr⟩, st⟩ := hr9 T hT9 X
  cases hv2
  obtain ⟨k1, k2, k3⟩ := vx_keep h0 e1 hS (fun q _ h => h) (fun q h => h) hL9 hFr
  rw [← e1] at hP'
  have hE2 : q_EF α' β (va_A [] s.heap.size) s s.heap := t_EF (fun k h1 h2 h3 h4 => hα k (by omega)) (t_TX0 hα hE.tx) hE
  have C1 : q_Cx α' β D κ p s m #[Value.ref b] meth c code RL (fun _ => none) (fun _ => none) 5 (va_A [] s.heap.size) := ⟨hx, hb, hml, hown, hq, hK, hE2, fun q h => Or.inr h, hlocks, Fok_L, Gok_L⟩
  have h329' : α' 329 = 0 := by rw [hα 329 (by decide)]; exact h329
  have h335' : α' 335 = b := by rw [hα 335 (by decide)]; exact h335
  obtain ⟨-, -, hI0⟩ := hI.1 α' (h336 α' hα)
  generalize (F_L_begun α' q_s0).2 = σ at hY' hP' hD' hI0
  obtain ⟨hw1, hw2, -⟩ := hI.2.1 0 σ hI0
  have hkw := k_L_isWell (α := α') (β := β) (D := D) (κ := κ) σ hw1
  rw [hw2] at hkw
  have kk : W p l e room_1 s m #[Value.ref b] below meth c T'.heap ([] ++ L9) (0 + 400) (0 + 3000) (lw_Z below #[Value.ref b] s) (F0 m 4 ls [.ref (α' 220)]) := by
    clear st X hr9
    generalize T'.heap = H at hP' k3
    refine lv_astore_n hx hb dV_4 rfl hl (Nat.le_of_ble_eq_true rfl) (lv' := [(1, .ref (α' 220)), (0, .ref b)]) rfl (fun ls hl => ?_)
    refine lv_aload_n hx hb dV_5 rfl (lv_at hl 0 rfl) ?_
    refine lv_ifnull hx hb dV_6 ?_
    refine lv_aload_n hx hb dV_9 rfl (lv_at hl 0 rfl) ?_
    refine r_callS (w := []) (rest := []) (v := some (.int 1)) (σ1 := σ) C1 hflags mw_L_isWell ms_L_isWell lk_L_255 hkw rfl rfl dV_10 (Nat.le_of_ble_eq_true rfl) ⟨Nat.le_of_ble_eq_true rfl, Nat.le_of_ble_eq_true rfl⟩ ⟨by show 0 + 400 + 945 ≤ 600390; omega, by show 0 + 3000 + 5670 ≤ 7291200; omega⟩ hY' hP' hD' k3 hl ?_
    intro Y H locs ls hY hP hD hS hl
    refine W.eq (g2 := F0 m 13 ls [.int 1]) rfl ?_
    refine lv_if_ne hx hb dV_13 (tgt := 18) (by decide) (fun _ => ?_) (fun q => absurd q (by decide))
    refine lv_iconst hx hb dV_18 (by decide : Int32.ofInt 0 = 0) ?_
    refine lv_istore_n hx hb dV_19 rfl hl (Nat.le_of_ble_eq_true rfl) (lv' := [(2, .int 0), (1, .ref (α' 220)), (0, .ref b)]) rfl (fun ls hl => ?_)
    refine W.widen (k := 2000) (n := 10000) (by show 0 + 400 + 945 ≤ 2000; omega) (by show 0 + 3000 + 5670 ≤ 10000; omega) ?_
    refine lw_loop hI hflags C1 h329' (h336 α' hα) (fun H locs ls k1 k2 h1 h2 hS => ?_) 12 0 σ 2000 10000 rfl hI0 (by decide) (by decide) Y H locs ls hY hP hD hS (by
      rw [h335']
      exact lv_sub hl [2, 1, 0] rfl)
    refine va_forget (fun z hz => hA9 _ (hS.2.2 z hz)) ?_
    refine W.widen (k := 600390) (n := 7291200) (by omega) (by omega) ?_
    exact lw_ret (d0 := s.drawn) (Drawn.sameBut.refl s.drawn lw_cs) hx hb hr hlocks dV_266
  obtain ⟨t2, a1, b1⟩ := kk T' rfl X'
  exact ⟨t2, st t2 a1, b1⟩
