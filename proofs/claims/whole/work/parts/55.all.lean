theorem dL_2660 : decode code 2660 = .ok (.iconst 1, 1) := by decide +kernel
theorem dL_2661 : decode code 2661 = .ok (.ireturn, 1) := by decide +kernel
/-! The law from its entry to its end, out of an invariant of the memory. -/
set_option maxRecDepth 100000 in
set_option maxHeartbeats 4000000 in
theorem lw_all (Inv : Nat → q_M → Prop) (hstep : q_stepOK Inv) (h0 : Inv 0 q_s0) {p : Program} {e : Env} {s : State} {m : MethodId} {below : List Frame} {meth : Method} {c : Code} (l : Launch) (hflags : l.flags = flags0) {b L : Nat} {xs : Nat → Int32} (hL : L ≤ 2048) (C0 : lw_At p s m meth c b L xs) : W p l e room_1 s m #[Value.ref b] below meth c s.heap [] 0 0 (lw_Z below #[Value.ref b] s) (entryFrame m ([Value.ref b] : List Value).toArray 9) := by
  obtain ⟨hx, hb, hr, hml, hown, hts, hX, hbl, hlocks, hgv⟩ := C0
  have hn : ∀ w ∈ e_n, w.before #[Value.ref b] s = true := by
    rw [Cond.before_and, Bool.and_eq_true] at hgv
    exact flat_of_before _ hgv.2
  let A : Nat → Prop := fun q => s.heap.size ≤ q
  have hA : ∀ a : Nat, a < s.heap.size → ¬ A a := fun a h1 h2 => by
    have h2 : s.heap.size ≤ a := h2
    omega
  obtain ⟨α, β, hE⟩ := e_EF (A := A) hts hn hA
  obtain ⟨D, κ, hK⟩ := e_K hts
  have hq : ∀ w ∈ q_W, w.before #[Value.ref b] s = true := fun w hw => hts w (List.mem_filter.mp hw).1
  have C : c_Cx α β D κ p s m #[Value.ref b] meth c code RL 9 A := ⟨hx, hb, hml, hown, hq, hK, ⟨hE, va_AO.of (hts _ e_ao_RX6), va_AO.of (hts _ e_ao_RX4)⟩, fun q h => h, hlocks⟩
  have hl := lv_entry ([.ref b]) (n := 9) (Nat.le_of_ble_eq_true rfl)
  rw [lg_entry_eq]
  refine c_run C hl (fun α' hα hb' => ?_)
  have hF0 : q_Fok RL (fun _ => none) := fun i a b h => by cases h
  have hG0 : q_Gok RL (fun _ => none) := fun i x h => by cases h
  have C1 : q_Cx α' β D κ p s m #[Value.ref b] meth c code RL (fun _ => none) (fun _ => none) 9 A := ⟨hx, hb, hml, hown, hq, hK, e_al hα hE, fun q h => h, hlocks, hF0, hG0⟩
  have hscr : q_scr α' s A L xs := ⟨by rw [hb']; exact hX, by rw [hb']; exact hbl, by rw [hb']; exact hA b hbl⟩
  refine lw_loop (Q := lw_Z below #[Value.ref b] s) C1 hflags hscr hL Inv hstep ?_ 513 0 q_s0 rfl h0
  intro σ k n1 n2 hn1 hn2 Y H locs ls hY hP hD hS hlv
  refine va_forget (fun z hz => hS.2.2 z hz) ?_
  refine W.widen (k := 603072) (n := 7215209) (by omega) (by omega) ?_
  refine lv_iconst hx hb (dL_2660) (by decide : Int32.ofInt 1 = 1) ?_
  exact lw_ret (d0 := s.drawn) (Drawn.sameBut.refl s.drawn lw_cs) hx hb hr hlocks dL_2661
