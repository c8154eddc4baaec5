/-! The law's own world: rows that it has made, beside the memory. -/
def q_rw (κ : Nat → ClassId) (f : Nat → Int32) : va_E := .inl (κ 0, 130, .inl f)
def q_put (σ : q_M) (z : Nat) (f : Nat → Int32) : q_M := fun k => if k = z then f else σ k
def q_al (α : Nat → Nat) (a : Nat) : Nat → Nat := fun k => if k = 329 then α 329 + 1 else if k = q_N α then a else α k
theorem q_al_N {α : Nat → Nat} {a : Nat} : q_N (q_al α a) = q_N α + 1 := by
  show 229 + q_al α a 329 = _
  unfold q_al
  rw [if_pos rfl]
  rfl
theorem q_al_lt {α : Nat → Nat} {a j : Nat} (h9 : α 329 < 90) (h : j < q_N α) : q_al α a j = α j := by
  have h : j < 229 + α 329 := h
  unfold q_al
  rw [if_neg (by omega), if_neg (show ¬ j = 229 + α 329 by omega)]
theorem q_al_z {α : Nat → Nat} {a : Nat} (h9 : α 329 < 90) : q_al α a (q_N α) = a := by
  unfold q_al
  rw [if_neg (show ¬ 229 + α 329 = 329 by omega), if_pos rfl]
theorem q_al_hi {α : Nat → Nat} {a k : Nat} (h9 : α 329 < 90) (h : 330 ≤ k) : q_al α a k = α k := by
  unfold q_al
  rw [if_neg (by omega), if_neg (show ¬ k = 229 + α 329 by omega)]
theorem q_put_z {σ : q_M} {z : Nat} {f : Nat → Int32} : q_put σ z f z = f := if_pos rfl
theorem q_put_o {σ : q_M} {z k : Nat} {f : Nat → Int32} (h : k ≠ z) : q_put σ z f k = σ k := if_neg h
theorem q_put_Y {σ : q_M} {z : Nat} {f : Nat → Int32} {Y : q_H} (hz : 229 ≤ z) (h : q_Yok σ Y) : q_Yok (q_put σ z f) Y := h.to (q_put_o (by omega)) (q_put_o (by omega)) (q_put_o (by omega)) (q_put_o (by omega))
theorem q_ws_cong {α β : Nat → Nat} {κ : Nat → ClassId} {Y : q_H} {σ τ : q_M} (h : ∀ k, k < q_N α → σ k = τ k) : q_ws α β κ Y σ = q_ws α β κ Y τ := by
  unfold q_ws
  exact List.map_congr_left (fun k hk => by rw [h k (List.mem_range.mp hk)])
theorem t_cell {α α' β : Nat → Nat} {D : va_G} {κ : Nat → ClassId} {Y : q_H} {k a : Nat} {f : Nat → Int32} {H : Heap} (h : ∀ j, j < 229 → α' j = α j) (hp : va_at D vwCl (a, q_pc α β κ Y k f) H) : va_at D vwCl (a, q_pc α' β κ Y k f) H := by
  rcases Nat.lt_or_ge k 229 with h2 | h2
  · exact t_pc h h2 hp
  · unfold q_pc at hp ⊢
    rw [q_kd_99 h2] at hp ⊢
    exact hp
section q54
variable {α β : Nat → Nat} {D : va_G} {κ : Nat → ClassId} {Y : q_H} {σ : q_M} {a : Nat} {H : Heap} {A : Nat → Prop} {w : va_W}
theorem t_al229 (h9 : α 329 < 90) : ∀ j, j < 229 → q_al α a j = α j := fun j hj => q_al_lt h9 (Nat.lt_of_lt_of_le hj (Nat.le_add_right _ _))
theorem t_alad (h9 : α 329 < 90) {k : Nat} (hk : k < q_N α) : q_ad (q_al α a) Y k = q_ad α Y k := by
  unfold q_ad
  rw [q_al_lt h9 hk]
theorem t_extP (h9 : α 329 < 90) (hp : va_P D vwCl (q_ws α β κ Y σ ++ [(a, q_rw κ (σ (q_N α)))]) H) : va_P D vwCl (q_ws (q_al α a) β κ Y σ) H := by
  intro k q hq
  have hk : k < q_N (q_al α a) := by
    have := (List.getElem?_eq_some_iff.mp hq).1
    rwa [q_ws_len] at this
  rw [q_ws_atx hk] at hq
  cases hq
  rw [q_al_N] at hk
  rcases Nat.lt_or_ge k (q_N α) with h1 | h1
  · have h2 := hp k _ ((List.getElem?_append_left (by rw [q_ws_len]; exact h1)).trans (q_ws_atx h1))
    rw [t_alad h9 h1]
    exact t_cell (t_al229 h9) h2
  · have h0 : k = q_N α := Nat.le_antisymm (Nat.le_of_lt_succ hk) h1
    subst h0
    have h2 := hp (q_N α) (a, q_rw κ (σ (q_N α))) (by rw [List.getElem?_append_right (Nat.le_of_eq q_ws_len), q_ws_len, Nat.sub_self]; rfl)
    have hk9 : q_kd (q_N α) = 99 := q_kd_99 (Nat.le_add_right _ _)
    rw [q_ad_of hk9 (by decide), q_al_z h9]
    unfold q_pc
    rw [hk9]
    exact h2
theorem t_redP (h9 : α 329 < 90) (hp : va_P D vwCl (q_ws (q_al α a) β κ Y σ) H) : va_P D vwCl (q_ws α β κ Y σ ++ [(a, q_rw κ (σ (q_N α)))]) H := by
  refine va_P.app (fun k q hq => ?_) (fun k q hq => ?_)
  · have hk : k < q_N α := by
      have := (List.getElem?_eq_some_iff.mp hq).1
      rwa [q_ws_len] at this
    rw [q_ws_atx hk] at hq
    cases hq
    have h2 := hp k _ (q_ws_atx (by rw [q_al_N]; exact Nat.lt_succ_of_lt hk))
    rw [t_alad h9 hk] at h2
    exact t_cell (fun j hj => (t_al229 h9 j hj).symm) h2
  · rcases k with _ | k
    · cases hq
      have h2 := hp (q_N α) _ (q_ws_atx (by rw [q_al_N]; exact Nat.lt_succ_self _))
      have hk9 : q_kd (q_N α) = 99 := q_kd_99 (Nat.le_add_right _ _)
      rw [q_ad_of hk9 (by decide), q_al_z h9] at h2
      unfold q_pc at h2
      rw [hk9] at h2
      exact h2
    · cases hq
theorem t_adr (h9 : α 329 < 90) {x : va_E} : (q_ws (q_al α a) β κ Y σ).map (·.1) = (q_ws α β κ Y σ ++ [(a, x)]).map (·.1) := by
  have e1 : ∀ (α' : Nat → Nat) (n : Nat), ((List.range n).map (fun k => (q_ad α' Y k, q_pc α' β κ Y k (σ k)))).map (·.1) = (List.range n).map (fun k => q_ad α' Y k) := fun α' n => by
    rw [List.map_map]
    rfl
  have h1 : (List.range (q_N α)).map (fun k => q_ad (q_al α a) Y k) = (List.range (q_N α)).map (fun k => q_ad α Y k) := List.map_congr_left (fun k hk => t_alad h9 (List.mem_range.mp hk))
  unfold q_ws
  rw [e1, List.map_append, e1, q_al_N, List.range_succ, List.map_append, h1]
  show _ ++ [q_ad (q_al α a) Y (q_N α)] = _ ++ [a]
  rw [q_ad_of (q_kd_99 (Nat.le_add_right _ _)) (by decide), q_al_z h9]
/-- a row beside the memory as the memory's last place, and back -/
theorem t_inP (h9 : α 329 < 90) (hp : va_P D vwCl (w ++ [(a, q_rw κ (σ (q_N α)))] ++ q_ws α β κ Y σ) H) : va_P D vwCl (w ++ q_ws (q_al α a) β κ Y σ) H := (t_Pl (t_Pl hp)).app (t_extP h9 ((t_Pr hp).app (t_Pr (t_Pl hp))))
theorem t_inD (h9 : α 329 < 90) {x : va_E} (hd : va_D A (w ++ [(a, x)] ++ q_ws α β κ Y σ)) : va_D A (w ++ q_ws (q_al α a) β κ Y σ) := by
  refine c_fixD (t_swapD hd) ?_
  rw [List.append_assoc, List.map_append, List.map_append, t_adr h9 (x := x)]
theorem t_outP (h9 : α 329 < 90) (hp : va_P D vwCl (w ++ q_ws (q_al α a) β κ Y σ) H) : va_P D vwCl (w ++ [(a, q_rw κ (σ (q_N α)))] ++ q_ws α β κ Y σ) H := by
  have h2 := t_redP h9 (t_Pr hp)
  exact ((t_Pl hp).app (t_Pr h2)).app (t_Pl h2)
theorem t_outD (h9 : α 329 < 90) {x : va_E} (hd : va_D A (w ++ q_ws (q_al α a) β κ Y σ)) : va_D A (w ++ [(a, x)] ++ q_ws α β κ Y σ) := by
  refine t_swapD ?_
  refine c_fixD hd (Eq.symm ?_)
  rw [List.append_assoc, List.map_append, List.map_append, t_adr h9 (x := x)]
theorem t_TXal {U : State} (h9 : α 329 < 90) (hT : q_TX α A U H) : q_TX (q_al α a) A U H := by
  have e : ∀ k, 330 ≤ k → q_al α a k = α k := fun k hk => q_al_hi h9 hk
  have e7 : ∀ i, q_al α a (701 + i) = α (701 + i) := fun i => e _ (by omega)
  have es : ∀ i, q_scr (q_al α a) i = q_scr α i := fun i => by unfold q_scr; rw [e _ (by omega)]
  unfold q_TX at hT ⊢
  rw [e 700 (by decide), e 356 (by decide), e 376 (by decide), e 335 (by decide), e 336 (by decide)]
  simp only [es, e7]
  obtain ⟨t1, t2, t3, t4, t5, t6⟩ := hT
  refine ⟨t1, t2, t3, t4, t5, ?_⟩
  show q_al α a 329 ≤ 90
  rw [show q_al α a 329 = α 329 + 1 from if_pos rfl]
  omega
end q54
theorem t_CxAl {α β : Nat → Nat} {D : va_G} {κ : Nat → ClassId} {p : Program} {s : State} {m : MethodId} {args : Array Value} {meth : Method} {c : Code} {cc : ByteArray} {own : String} {F : Nat → Option (Nat × Nat)} {G : Nat → Option Int32} {nL : Nat} {A : Nat → Prop} (C : q_Cx α β D κ p s m args meth c cc own F G nL A) (h9 : α 329 < 90) (a : Nat) : q_Cx (q_al α a) β D κ p s m args meth c cc own F G nL A := by
  obtain ⟨hx, hb, hml, hown, hts, hK, hE, hA, hlk, hF, hG⟩ := C
  exact ⟨hx, hb, hml, hown, hts, hK, t_EF (fun k h1 h2 h3 h4 => q_al_hi h9 h1) (t_TXal h9 hE.tx) hE, hA, hlk, hF, hG⟩
/-- a contract of what is returned, as one of a method that throws nothing -/
theorem q_met {α β : Nat → Nat} {D : va_G} {κ : Nat → ClassId} {y : MethodName} {cc : ByteArray} {maxL : Nat} {ret : Option FieldType} {fr lo mc ms : Nat} {vs : List Value} {σ σ' : q_M} {v : Option Value} (hc : q_C α β D κ y cc maxL ret fr lo mc ms vs σ (.inl v) σ') (l : Launch) (hfl : l.flags = flags0) (Y : q_H) (sz : Nat) : Met l y (Cond.code y cc maxL ret :: q_W) ({ frames := fr, cells := mc, slots := ms, locals := lo } : Room) (q_Pc α β D κ vs σ Y sz) (q_Qc α β D κ (q_A α Y sz) (.inl v) σ') mc ms (q_A α Y sz) := by
  intro p e ha hck hk s m args below hf happ hP hK
  obtain ⟨n, o, h1, h2, h3, h4⟩ := hc l hfl Y sz p e ha hck hk s m args below hf happ hP hK
  refine ⟨n, o, h1, h2, h3, ?_⟩
  rcases h4 with ⟨h5, h6⟩ | ⟨q, -, E, ce, L, ⟨hx, -⟩, -⟩
  · exact ⟨h5, h6⟩
  · cases hx
theorem q_A_in {α β : Nat → Nat} {κ : Nat → ClassId} {Y : q_H} {σ : q_M} {sz : Nat} : ∀ q, q_A α Y sz q → va_A (q_ws α β κ Y σ) sz q := by
  rintro q (⟨k, hk, rfl⟩ | h)
  · exact Or.inl ⟨k, _, q_ws_atx hk⟩
  · exact Or.inr h
section q54b
variable {α β : Nat → Nat} {D : va_G} {κ : Nat → ClassId} {p : Program} {l : Launch} {e : Env} {R : Room} {s : State} {m : MethodId} {args : Array Value} {below : List Frame} {meth : Method} {c : Code} {cc : ByteArray} {own : String} {F : Nat → Option (Nat × Nat)} {G : Nat → Option Int32} {nL : Nat} {A : Nat → Prop} {Q : State → Prop} {n1 n2 : Nat}
variable {w : va_W} {lv : q_Lv} {pc : Nat} {st rest : List Value} {σ σ1 : q_M}
/-- a state of the law: rows w beside the memory σ; the locals and the stack as they are -/
def r_St (α β : Nat → Nat) (D : va_G) (κ : Nat → ClassId) (p : Program) (l : Launch) (e : Env) (R : Room) (s : State) (m : MethodId) (args : Array Value) (below : List Frame) (meth : Method) (c : Code) (nL : Nat) (A : Nat → Prop) (Q : State → Prop) (n1 n2 : Nat) (w : va_W) (σ : q_M) (lv : q_Lv) (pc : Nat) (st : List Value) : Prop :=
  ∀ (Y : q_H) (H : Heap) (locs : List Loc) (ls : Array Slot), q_Yok σ Y → va_P D vwCl (w ++ q_ws α β κ Y σ) H → va_D A (w ++ q_ws α β κ Y σ) → va_S A s.heap H locs → lv_has ls nL lv → W p l e R s m args below meth c H locs n1 n2 Q (F0 m pc ls st)
theorem r_pre (C : q_Cx α β D κ p s m args meth c cc own F G nL A) {vs : List Value} {Y : q_H} {H : Heap} {locs : List Loc} (hY : q_Yok σ Y) (hP : va_P D vwCl (w ++ q_ws α β κ Y σ) H) (hD : va_D A (w ++ q_ws α β κ Y σ)) (hS : va_S A s.heap H locs) : ∀ U : State, U.heap = H → s.WarmedH U.vm → q_Pc α β D κ vs σ Y H.size (vs.map (q_cv α β)).toArray U := by
  obtain ⟨hx, hb, hml, hown, hts, hK, hE, hA, hlk, hF, hG⟩ := C
  intro U hU hW
  have hfree := t_free hA hD hS
  refine ⟨rfl, by rw [hU], hY, by rw [hU]; exact t_Pr hP, q_D_self (t_Dr hD), va_K.moved hW.alike hK, ?_⟩
  rw [hU]
  exact (hE.mv hW |>.kp hS.2.1).nr (fun q h => hfree q (q_A_in q h))
theorem r_fin {mc ms : Nat} {ls : Array Slot} {st0 : List Value} {a : Array Value} {v : Option Value} {Y : q_H} {H : Heap} {locs : List Loc} (C : q_Cx α β D κ p s m args meth c cc own F G nL A)
    (hr : va_Run p l e R s m args below meth c H locs n1 n2 mc ms (F0 m pc ls st0) rest (q_Qc α β D κ (q_A α Y H.size) (.inl v) σ1 a) (q_A α Y H.size)) (hP : va_P D vwCl (w ++ q_ws α β κ Y σ) H) (hD : va_D A (w ++ q_ws α β κ Y σ)) (hS : va_S A s.heap H locs) (hl : lv_has ls nL lv)
    (kk : r_St α β D κ p l e R s m args below meth c nL A Q (n1 + mc) (n2 + ms) w σ1 lv (pc + 3) ((v.map (q_cv α β)).toList ++ rest)) : W p l e R s m args below meth c H locs n1 n2 Q (F0 m pc ls st0) := by
  have hA := C.2.2.2.2.2.2.2.1
  have hfree := t_free hA hD hS
  have hsub : ∀ q, q_A α Y H.size q → A q := fun q h => hfree q (q_A_in q h)
  intro T hT X
  obtain ⟨v9, st₀, t, T', L, h0, X', hL, e1, e2, ⟨⟨v2, hv2, hv3⟩, ⟨Y', hY', hP', hD'⟩, hFr⟩, st⟩ := hr T hT X
  cases hv2
  cases hv3
  obtain ⟨k1, k2, k3⟩ := vx_keep h0 e1 hS (fun q _ h => hsub q h) hsub hL hFr
  obtain ⟨j1, j2⟩ := t_join (w2 := q_ws α β κ Y' σ1) (H1 := T'.heap) hP hD (fun q hq hn => k2 q hq (fun h => hn (q_A_in q h))) hfree (by rw [e1]; exact hP') (hD'.weaken (fun _ _ _ h => q_A_in _ h))
  obtain ⟨t2, a1, b1⟩ := kk Y' T'.heap (locs ++ L) ls hY' j1 j2 k3 hl T' rfl X'
  exact ⟨t2, st t2 a1, b1⟩
variable {y : MethodName} {cc' : ByteArray} {maxL' : Nat} {ret' : Option FieldType} {fr' lo' mc' ms' n idx : Nat} {As : List Value} {v : Option Value}
theorem r_GS {ws : List Cond} (hG : GoodIn q_W ws) (hi : Cond.static y ∈ q_W) (hlnk : Cond.methodLink own idx y ∈ q_W) (hm4 : Cond.initialized y.cls ∈ q_W) : GoodIn q_W (va_wsS own idx y ws) := by
  intro w hw
  unfold va_wsS at hw
  rcases List.mem_append.mp hw with h | h
  · have hw' : w ∈ q_W := by
      simp only [List.mem_cons, List.not_mem_nil, or_false] at h
      rcases h with rfl | rfl | rfl
      · exact hlnk
      · exact hi
      · exact hm4
    exact ⟨hw', good_of_word (List.mem_filter.mp hw').2⟩
  · exact hG w h
theorem r_callS (C : q_Cx α β D κ p s m args meth c cc own F G nL A) (hfl : l.flags = flags0) (hm : q_mw y cc' maxL' ret' n) (hi : Cond.static y ∈ q_W) (hlnk : Cond.methodLink own idx y ∈ q_W) (hc : q_C α β D κ y cc' maxL' ret' fr' lo' mc' ms' As σ (.inl v) σ1) (hst : st = (As.map (q_cv α β)).reverse ++ rest) (hn : As.length = n) (hd : decode cc pc = .ok (.invokestatic idx, 3)) (hrest : (rest.map fun v => v.category).sum ≤ 8) (hR : fr' + 1 ≤ R.frames ∧ 8 + (maxL' + 11) + lo' ≤ R.locals) (hcs : n1 + mc' ≤ R.cells ∧ n2 + ms' ≤ R.slots)
    {Y : q_H} {H : Heap} {locs : List Loc} {ls : Array Slot} (hY : q_Yok σ Y) (hP : va_P D vwCl (w ++ q_ws α β κ Y σ) H) (hD : va_D A (w ++ q_ws α β κ Y σ)) (hS : va_S A s.heap H locs) (hl : lv_has ls nL lv)
    (kk : r_St α β D κ p l e R s m args below meth c nL A Q (n1 + mc') (n2 + ms') w σ1 lv (pc + 3) ((v.map (q_cv α β)).toList ++ rest)) : W p l e R s m args below meth c H locs n1 n2 Q (F0 m pc ls st) := by
  have C0 := C
  obtain ⟨hx, hb, hml, hown, hts, hK, hE, hA, hlk, hF, hG⟩ := C
  obtain ⟨hm1, hm2, hm3, hm4⟩ := hm
  exact r_fin C0 (va_runS (n := n) ⟨hx, hb, hml, hown, hts⟩ (q_met hc l hfl Y H.size) (va_cwS n hts (r_GS (q_GI hm1) hi hlnk hm4) rfl rfl rfl ⟨hm2.1, hm2.2, hm3⟩ hR) ⟨q_FB, r_pre C0 hY hP hD hS⟩ rfl (by rw [List.length_map]; exact hn) hl.1 hst (lv_room hrest) hd hcs) hP hD hS hl kk
theorem r_callW {hh : List (Nat × Nat × Nat × Nat)} (C : q_Cx α β D κ p s m args meth c cc own F G nL A) (hfl : l.flags = flags0) (hm : Cond.codeWith y cc' maxL' ret' hh ∈ q_W) (hm2 : y.cls ≠ "java/lang/invoke/MethodHandle" ∧ y.cls ≠ "java/lang/invoke/VarHandle" ∧ (parseMethodDescriptor y.desc).map (fun d => d.parameters.length) = some n) (hin : Cond.initialized y.cls ∈ q_W) (hi : Cond.static y ∈ q_W) (hlnk : Cond.methodLink own idx y ∈ q_W) (hc : q_CW α β D κ y cc' maxL' ret' hh fr' lo' mc' ms' As σ v σ1) (hst : st = (As.map (q_cv α β)).reverse ++ rest) (hn : As.length = n) (hd : decode cc pc = .ok (.invokestatic idx, 3)) (hrest : (rest.map fun v => v.category).sum ≤ 8) (hR : fr' + 1 ≤ R.frames ∧ 8 + (maxL' + 11) + lo' ≤ R.locals) (hcs : n1 + mc' ≤ R.cells ∧ n2 + ms' ≤ R.slots)
    {Y : q_H} {H : Heap} {locs : List Loc} {ls : Array Slot} (hY : q_Yok σ Y) (hP : va_P D vwCl (w ++ q_ws α β κ Y σ) H) (hD : va_D A (w ++ q_ws α β κ Y σ)) (hS : va_S A s.heap H locs) (hl : lv_has ls nL lv)
    (kk : r_St α β D κ p l e R s m args below meth c nL A Q (n1 + mc') (n2 + ms') w σ1 lv (pc + 3) ((v.map (q_cv α β)).toList ++ rest)) : W p l e R s m args below meth c H locs n1 n2 Q (F0 m pc ls st) := by
  have C0 := C
  obtain ⟨hx, hb, hml, hown, hts, hK, hE, hA, hlk, hF, hG⟩ := C
  exact r_fin C0 (vx_runSW (n := n) (hh := hh) ⟨hx, hb, hml, hown, hts⟩ (hc l hfl Y H.size) (vx_cwSW n hts (r_GS (q_GI hm) hi hlnk hin) rfl rfl rfl hm2 hR) ⟨q_FB, r_pre C0 hY hP hD hS⟩ rfl (by rw [List.length_map]; exact hn) hl.1 hst (lv_room hrest) hd hcs) hP hD hS hl kk
theorem r_callV (C : q_Cx α β D κ p s m args meth c cc own F G nL A) (hfl : l.flags = flags0) (hm : q_mw y cc' maxL' ret' n) (hi : Cond.instanceMethod y ∈ q_W) (hsel : Cond.selects y.cls y y ∈ q_W) (hlnk : Cond.methodLink own idx y ∈ q_W) {k a : Nat} (hc : q_C α β D κ y cc' maxL' ret' fr' lo' mc' ms' (.ref k :: As) σ (.inl v) σ1) (hk : q_kd k = a) (ha : (vwCl[a]?).map (·.1) = some y.cls) (h4 : 4 ≤ a) (h9 : a ≤ 9) (hst : st = (As.map (q_cv α β)).reverse ++ .ref (α k) :: rest) (hn : As.length = n) (hd : decode cc pc = .ok (.invokevirtual idx, 3)) (hrest : (rest.map fun v => v.category).sum ≤ 8) (hR : fr' + 1 ≤ R.frames ∧ 8 + (maxL' + 11) + lo' ≤ R.locals) (hcs : n1 + mc' ≤ R.cells ∧ n2 + ms' ≤ R.slots)
    {Y : q_H} {H : Heap} {locs : List Loc} {ls : Array Slot} (hY : q_Yok σ Y) (hP : va_P D vwCl (w ++ q_ws α β κ Y σ) H) (hD : va_D A (w ++ q_ws α β κ Y σ)) (hS : va_S A s.heap H locs) (hl : lv_has ls nL lv)
    (kk : r_St α β D κ p l e R s m args below meth c nL A Q (n1 + mc') (n2 + ms') w σ1 lv (pc + 3) ((v.map (q_cv α β)).toList ++ rest)) : W p l e R s m args below meth c H locs n1 n2 Q (F0 m pc ls st) := by
  have C0 := C
  obtain ⟨hx, hb, hml, hown, hts, hK, hE, hA, hlk, hF, hG⟩ := C
  obtain ⟨hm1, hm2, hm3, hm4⟩ := hm
  have hG2 : GoodIn q_W (wsV own idx y.cls y (Cond.code y cc' maxL' ret' :: q_W)) := by
    have g := q_GI hm1
    intro w hw
    unfold wsV at hw
    rcases List.mem_append.mp hw with h | h
    · have hw' : w ∈ q_W := by
        simp only [List.mem_cons, List.not_mem_nil, or_false] at h
        rcases h with rfl | rfl | rfl | rfl
        · exact hlnk
        · exact hi
        · exact hsel
        · exact hm4
      exact ⟨hw', good_of_word (List.mem_filter.mp hw').2⟩
    · exact g w h
  cases hv : vwCl[a]? with
  | none => rw [hv] at ha; cases ha
  | some r =>
    rw [hv] at ha
    have hr1 : r.1 = y.cls := Option.some.inj ha
    have hrecv := va_recv hK (t_Pr hP) hv (q_at_o (α := α) (β := β) (κ := κ) (Y := Y) (σ := σ) hk h4 h9)
    rw [hr1] at hrecv
    exact r_fin C0 (va_runV (n := n) ⟨hx, hb, hml, hown, hts⟩ (q_met hc l hfl Y H.size) (cwV n hts hG2 rfl rfl rfl ⟨rfl, hm2.1, hm2.2, hm3⟩ hR) ⟨q_FB, hrecv, r_pre C0 hY hP hD hS⟩ rfl (by rw [List.length_map]; exact hn) hl.1 hst (lv_room hrest) hd hcs) hP hD hS hl kk
theorem r_out (h9 : α 329 < 90) {a : Nat} (kk : r_St α β D κ p l e R s m args below meth c nL A Q n1 n2 (w ++ [(a, q_rw κ (σ (q_N α)))]) σ lv pc st) : r_St (q_al α a) β D κ p l e R s m args below meth c nL A Q n1 n2 w σ lv pc st :=
  fun Y H locs ls hY hP hD hS hl => kk Y H locs ls hY (t_outP h9 hP) (t_outD h9 hD) hS hl
theorem r_in (h9 : α 329 < 90) {a : Nat} (kk : r_St (q_al α a) β D κ p l e R s m args below meth c nL A Q n1 n2 w σ lv pc st) : r_St α β D κ p l e R s m args below meth c nL A Q n1 n2 (w ++ [(a, q_rw κ (σ (q_N α)))]) σ lv pc st :=
  fun Y H locs ls hY hP hD hS hl => kk Y H locs ls hY (t_inP h9 hP) (t_inD h9 hD) hS hl
theorem r_drop {x : Nat × va_E} (kk : r_St α β D κ p l e R s m args below meth c nL A Q n1 n2 w σ lv pc st) : r_St α β D κ p l e R s m args below meth c nL A Q n1 n2 (w ++ [x]) σ lv pc st :=
  fun Y H locs ls hY hP hD hS hl => kk Y H locs ls hY ((t_Pl (t_Pl hP)).app (t_Pr hP)) (t_Dl (t_swapD hD)) hS hl
theorem r_mem (h : ∀ k, k < q_N α → σ k = σ1 k) (kk : r_St α β D κ p l e R s m args below meth c nL A Q n1 n2 w σ1 lv pc st) : r_St α β D κ p l e R s m args below meth c nL A Q n1 n2 w σ lv pc st := by
  intro Y H locs ls hY hP hD hS hl
  have h5 : ∀ k, k < 229 → σ1 k = σ k := fun k hk => (h k (Nat.lt_of_lt_of_le hk (Nat.le_add_right _ _))).symm
  rw [q_ws_cong h] at hP hD
  exact kk Y H locs ls (hY.to (h5 _ (by decide)) (h5 _ (by decide)) (h5 _ (by decide)) (h5 _ (by decide))) hP hD hS hl
theorem r_wdn {k1 k2 : Nat} (h1 : n1 ≤ k1) (h2 : n2 ≤ k2) (kk : r_St α β D κ p l e R s m args below meth c nL A Q k1 k2 w σ lv pc st) : r_St α β D κ p l e R s m args below meth c nL A Q n1 n2 w σ lv pc st :=
  fun Y H locs ls hY hP hD hS hl => W.widen h1 h2 (kk Y H locs ls hY hP hD hS hl)
end q54b
