/-! Calls: by contract. -/
/-- the method's frame with an E thrown over it -/
def q_Sx (α β : Nat → Nat) (D : va_G) (κ : Nat → ClassId) (p : Program) (l : Launch) (e : Env) (R : Room) (s : State) (m : MethodId) (args : Array Value) (below : List Frame) (meth : Method) (c : Code) (nL : Nat) (A : Nat → Prop) (Q : State → Prop) (n1 n2 : Nat) (σ : q_M) (lv : q_Lv) (pc : Nat) (st : List Value) (E : String) : Prop :=
  ∀ (Y : q_H) (H : Heap) (locs : List Loc) (ls : Array Slot) (q : Addr) (ce : Cell), q_Yok σ Y → va_P D vwCl (q_ws α β κ Y σ) H → va_D A (q_ws α β κ Y σ) → va_S A s.heap H locs → lv_has ls nL (q_lm α β lv) → H[q]? = some ce → ce.vm = .none → s.vm.findClass E = some ce.cls →
    vx_W p l e R s m args below meth c H locs n1 n2 Q (F0 m pc ls (st.map (q_cv α β))) q
def q_mw (y : MethodName) (cc : ByteArray) (maxL : Nat) (ret : Option FieldType) (n : Nat) : Prop := Cond.code y cc maxL ret ∈ q_W ∧ (y.cls ≠ "java/lang/invoke/MethodHandle" ∧ y.cls ≠ "java/lang/invoke/VarHandle") ∧ (parseMethodDescriptor y.desc).map (fun d => d.parameters.length) = some n ∧ Cond.initialized y.cls ∈ q_W
theorem q_GI {w : Cond} (h : w ∈ q_W) : GoodIn q_W (w :: q_W) := by
  intro z hz
  have hz' : z ∈ q_W := by
    rcases List.mem_cons.mp hz with rfl | h2
    · exact h
    · exact h2
  exact ⟨hz', good_of_word (List.mem_filter.mp hz').2⟩
theorem q_FB {α β : Nat → Nat} {D : va_G} {κ : Nat → ClassId} {vs : List Value} {σ : q_M} {Y : q_H} {sz : Nat} : FrameBlind (q_Pc α β D κ vs σ Y sz) := by
  intro a U g mk h
  obtain ⟨h0, h1, h2, h3, h4, h5, h6⟩ := h
  exact ⟨h0, h1, h2, h3, h4, va_K.moved (u := U) (U := U.calling g mk a) (Vm.Alike.refl U.vm) h5, q_EF.mv (u := U) (U := U.calling g mk a) (State.WarmedH.refl U) h6⟩
section q10
variable {α β : Nat → Nat} {D : va_G} {κ : Nat → ClassId} {p : Program} {l : Launch} {e : Env} {R : Room} {s : State} {m : MethodId} {args : Array Value} {below : List Frame} {meth : Method} {c : Code} {cc : ByteArray} {own : String} {F : Nat → Option (Nat × Nat)} {G : Nat → Option Int32} {nL : Nat} {A : Nat → Prop} {Q : State → Prop} {n1 n2 : Nat}
theorem q_A_sub {Y : q_H} {σ : q_M} {H : Heap} {locs : List Loc} (hA : ∀ q : Nat, s.heap.size ≤ q → A q) (hD : va_D A (q_ws α β κ Y σ)) (hS : va_S A s.heap H locs) : ∀ q, q_A α Y H.size q → A q := by
  rintro q (⟨k, hk, rfl⟩ | h)
  · exact hD.2 k _ (q_ws_atx hk)
  · exact hA q (Nat.le_trans hS.1 h)
theorem q_D_self {Y : q_H} {σ : q_M} {sz : Nat} (hD : va_D A (q_ws α β κ Y σ)) : va_D (q_A α Y sz) (q_ws α β κ Y σ) := by
  refine ⟨hD.1, fun k q h => Or.inl ?_⟩
  have hk : k < q_N α := by
    have := (List.getElem?_eq_some_iff.mp h).1
    simpa [q_ws] using this
  rw [q_ws_atx hk] at h
  cases h
  exact ⟨k, hk, rfl⟩
/-- what a callee asks of the state in which it is called -/
theorem q_pre (C : q_Cx α β D κ p s m args meth c cc own F G nL A) {vs : List Value} {Y : q_H} {σ : q_M} {H : Heap} {locs : List Loc} (hY : q_Yok σ Y) (hP : va_P D vwCl (q_ws α β κ Y σ) H) (hD : va_D A (q_ws α β κ Y σ)) (hS : va_S A s.heap H locs) : ∀ U : State, U.heap = H → s.WarmedH U.vm → q_Pc α β D κ vs σ Y H.size (vs.map (q_cv α β)).toArray U := by
  obtain ⟨hx, hb, hml, hown, hts, hK, hE, hA, hlk, hF, hG⟩ := C
  intro U hU hW
  refine ⟨rfl, by rw [hU], hY, by rw [hU]; exact hP, q_D_self hD, va_K.moved hW.alike hK, ?_⟩
  rw [hU]
  exact (hE.mv hW |>.kp hS.2.1).nr (q_A_sub hA hD hS)
theorem q_run_ret (C : q_Cx α β D κ p s m args meth c cc own F G nL A) {Y : q_H} {σ σ1 : q_M} {H : Heap} {locs : List Loc} {mc ms pc : Nat} {ls : Array Slot} {st0 rest : List Value} {a : Array Value} {o : q_O} {v : Option Value} (hD : va_D A (q_ws α β κ Y σ)) (hS : va_S A s.heap H locs)
    (hr : vx_Run p l e R s m args below meth c H locs n1 n2 mc ms (F0 m pc ls st0) rest (q_Qc α β D κ (q_A α Y H.size) o σ1 a) (q_XC α β D κ (q_A α Y H.size) o σ1) (q_A α Y H.size)) (ho : o = .inl v)
    (kk : ∀ (Y' : q_H) (H1 : Heap) (locs1 : List Loc), q_Yok σ1 Y' → va_P D vwCl (q_ws α β κ Y' σ1) H1 → va_D A (q_ws α β κ Y' σ1) → va_S A s.heap H1 locs1 → W p l e R s m args below meth c H1 locs1 (n1 + mc) (n2 + ms) Q (F0 m (pc + 3) ls ((v.map (q_cv α β)).toList ++ rest))) : W p l e R s m args below meth c H locs n1 n2 Q (F0 m pc ls st0) := by
  have hsub := q_A_sub C.2.2.2.2.2.2.2.1 hD hS
  subst ho
  intro T hT X
  rcases hr T hT X with ⟨v9, st₀, t, T', L, h0, X', hL, e1, e2, ⟨⟨v2, hv2, hv3⟩, ⟨Y', hY', hP', hD'⟩, hFr⟩, st⟩ | ⟨q, st₀, t, T', L, E, ce, h0, X', hL, e1, e2, ⟨hE, -, -⟩, hce, hcv, hcl, st⟩
  · cases hv2
    cases hv3
    obtain ⟨k1, k2, k3⟩ := vx_keep h0 e1 hS (fun q _ h => hsub q h) hsub hL hFr
    obtain ⟨t2, a1, b1⟩ := kk Y' T'.heap (locs ++ L) hY' (by rw [e1]; exact hP') (hD'.weaken (fun _ _ _ h => hsub _ h)) k3 T' rfl X'
    exact ⟨t2, st t2 a1, b1⟩
  · cases hE
theorem q_run_thr (C : q_Cx α β D κ p s m args meth c cc own F G nL A) {Y : q_H} {σ σ1 : q_M} {H : Heap} {locs : List Loc} {mc ms pc : Nat} {ls : Array Slot} {st0 rest : List Value} {a : Array Value} {o : q_O} {E : String} (hD : va_D A (q_ws α β κ Y σ)) (hS : va_S A s.heap H locs)
    (hr : vx_Run p l e R s m args below meth c H locs n1 n2 mc ms (F0 m pc ls st0) rest (q_Qc α β D κ (q_A α Y H.size) o σ1 a) (q_XC α β D κ (q_A α Y H.size) o σ1) (q_A α Y H.size)) (ho : o = .inr E)
    (kk : ∀ (Y' : q_H) (H1 : Heap) (locs1 : List Loc) (q : Addr) (ce : Cell), q_Yok σ1 Y' → va_P D vwCl (q_ws α β κ Y' σ1) H1 → va_D A (q_ws α β κ Y' σ1) → va_S A s.heap H1 locs1 → H1[q]? = some ce → ce.vm = .none → s.vm.findClass E = some ce.cls → vx_W p l e R s m args below meth c H1 locs1 (n1 + mc) (n2 + ms) Q (F0 m pc ls rest) q) : W p l e R s m args below meth c H locs n1 n2 Q (F0 m pc ls st0) := by
  have hsub := q_A_sub C.2.2.2.2.2.2.2.1 hD hS
  subst ho
  intro T hT X
  rcases hr T hT X with ⟨v9, st₀, t, T', L, h0, X', hL, e1, e2, ⟨⟨v2, hv2, hv3⟩, -, -⟩, st⟩ | ⟨q, st₀, t, T', L, E', ce, h0, X', hL, e1, e2, ⟨hE, ⟨Y', hY', hP', hD'⟩, hFr⟩, hce, hcv, hcl, st⟩
  · cases hv2
  · cases hE
    obtain ⟨k1, k2, k3⟩ := vx_keep h0 e1 hS (fun q _ h => hsub q h) hsub hL hFr
    obtain ⟨t2, a1, b1⟩ := kk Y' T'.heap (locs ++ L) q ce hY' (by rw [e1]; exact hP') (hD'.weaken (fun _ _ _ h => hsub _ h)) k3 (by rw [e1]; exact hce) hcv hcl T' rfl X'
    exact ⟨t2, st.trans a1, b1⟩
variable {y : MethodName} {cc' : ByteArray} {maxL' : Nat} {ret' : Option FieldType} {fr' lo' mc' ms' n idx : Nat} {As rest st : List Value} {σ σ1 : q_M} {o : q_O} {lv : q_Lv} {pc : Nat}
theorem q_map_rev (α β : Nat → Nat) (As : List Value) (x : List Value) : (As.reverse ++ x).map (q_cv α β) = (As.map (q_cv α β)).reverse ++ x.map (q_cv α β) := by simp
theorem q_sum_cat {α β : Nat → Nat} {rest : List Value} {n : Nat} (h : (rest.map fun v => v.category).sum ≤ n) : ((rest.map (q_cv α β)).map fun v => v.category).sum ≤ n := by
  have e : (rest.map (q_cv α β)).map (fun v => v.category) = rest.map (fun v => v.category) := by
    rw [List.map_map]
    exact List.map_congr_left (fun v _ => q_cat α β v)
  rw [e]
  exact h
theorem q_runV (C : q_Cx α β D κ p s m args meth c cc own F G nL A) (hfl : l.flags = flags0) (hm : q_mw y cc' maxL' ret' n) (hi : Cond.instanceMethod y ∈ q_W) (hsel : Cond.selects y.cls y y ∈ q_W) (hlnk : Cond.methodLink own idx y ∈ q_W) {k a : Nat} (hc : q_C α β D κ y cc' maxL' ret' fr' lo' mc' ms' (.ref k :: As) σ o σ1) (hk : q_kd k = a) (ha : (vwCl[a]?).map (·.1) = some y.cls) (h4 : 4 ≤ a) (h9 : a ≤ 9) (hn : As.length = n) (hd : decode cc pc = .ok (.invokevirtual idx, 3)) (hrest : (rest.map fun v => v.category).sum ≤ 8) (hR : fr' + 1 ≤ R.frames ∧ 8 + (maxL' + 11) + lo' ≤ R.locals) (hcs : n1 + mc' ≤ R.cells ∧ n2 + ms' ≤ R.slots)
    {Y : q_H} {H : Heap} {locs : List Loc} {ls : Array Slot} (hY : q_Yok σ Y) (hP : va_P D vwCl (q_ws α β κ Y σ) H) (hD : va_D A (q_ws α β κ Y σ)) (hS : va_S A s.heap H locs) (hl : lv_has ls nL (q_lm α β lv)) :
    vx_Run p l e R s m args below meth c H locs n1 n2 mc' ms' (F0 m pc ls ((As.map (q_cv α β)).reverse ++ .ref (α k) :: rest.map (q_cv α β))) (rest.map (q_cv α β)) (q_Qc α β D κ (q_A α Y H.size) o σ1 (Value.ref (α k) :: As.map (q_cv α β)).toArray) (q_XC α β D κ (q_A α Y H.size) o σ1) (q_A α Y H.size) := by
  have C0 := C
  obtain ⟨hx, hb, hml, hown, hts, hK, hE, hA, hlk, hF, hG⟩ := C
  obtain ⟨hm1, hm2, hm3, hm4⟩ := hm
  have hG2 : GoodIn q_W (wsV own idx y.cls y (Cond.code y cc' maxL' ret' :: q_W)) := by
    have g := q_GI hm1
    intro w hw
    unfold wsV at hw
    rcases List.mem_append.mp hw with h | h
    · have hw' : w ∈ q_W := by
        simp only [List.mem_cons, List.not_mem_nil, or_false] at h
        rcases h with rfl | rfl | rfl | rfl
        · exact hlnk
        · exact hi
        · exact hsel
        · exact hm4
      exact ⟨hw', good_of_word (List.mem_filter.mp hw').2⟩
    · exact g w h
  cases hv : vwCl[a]? with
  | none => rw [hv] at ha; cases ha
  | some r =>
    rw [hv] at ha
    have hr1 : r.1 = y.cls := Option.some.inj ha
    have hrecv := va_recv hK hP hv (q_at_o (α := α) (β := β) (κ := κ) (Y := Y) (σ := σ) hk h4 h9)
    rw [hr1] at hrecv
    exact vx_runV (n := n) ⟨hx, hb, hml, hown, hts⟩ (hc l hfl Y H.size) (cwV n hts hG2 rfl rfl rfl ⟨rfl, hm2.1, hm2.2, hm3⟩ hR) ⟨q_FB, hrecv, q_pre C0 hY hP hD hS⟩ rfl (by rw [List.length_map]; exact hn) hl.1 rfl (lv_room (q_sum_cat hrest)) hd hcs
theorem q_callV (C : q_Cx α β D κ p s m args meth c cc own F G nL A) (hfl : l.flags = flags0) (hm : q_mw y cc' maxL' ret' n) (hi : Cond.instanceMethod y ∈ q_W) (hsel : Cond.selects y.cls y y ∈ q_W) (hlnk : Cond.methodLink own idx y ∈ q_W) {k a : Nat} {v : Option Value} (hc : q_C α β D κ y cc' maxL' ret' fr' lo' mc' ms' (.ref k :: As) σ (.inl v) σ1) (hst : st = As.reverse ++ .ref k :: rest) (hk : q_kd k = a) (ha : (vwCl[a]?).map (·.1) = some y.cls) (h4 : 4 ≤ a) (h9 : a ≤ 9) (hn : As.length = n) (hd : decode cc pc = .ok (.invokevirtual idx, 3)) (hrest : (rest.map fun v => v.category).sum ≤ 8) (hR : fr' + 1 ≤ R.frames ∧ 8 + (maxL' + 11) + lo' ≤ R.locals) (hcs : n1 + mc' ≤ R.cells ∧ n2 + ms' ≤ R.slots)
    (kk : q_St α β D κ p l e R s m args below meth c nL A Q (n1 + mc') (n2 + ms') σ1 lv (pc + 3) (v.toList ++ rest)) : q_St α β D κ p l e R s m args below meth c nL A Q (n1) (n2) σ lv pc st := by
  subst hst
  intro Y H locs ls hY hP hD hS hl
  rw [q_map_rev]
  refine q_run_ret C hD hS (q_runV C hfl hm hi hsel hlnk hc hk ha h4 h9 hn hd hrest hR hcs hY hP hD hS hl) rfl (fun Y' H1 locs1 hY1 hP1 hD1 hS1 => ?_)
  have h := kk Y' H1 locs1 ls hY1 hP1 hD1 hS1 hl
  cases v <;> exact h
theorem q_callVx (C : q_Cx α β D κ p s m args meth c cc own F G nL A) (hfl : l.flags = flags0) (hm : q_mw y cc' maxL' ret' n) (hi : Cond.instanceMethod y ∈ q_W) (hsel : Cond.selects y.cls y y ∈ q_W) (hlnk : Cond.methodLink own idx y ∈ q_W) {k a : Nat} {E : String} (hc : q_C α β D κ y cc' maxL' ret' fr' lo' mc' ms' (.ref k :: As) σ (.inr E) σ1) (hst : st = As.reverse ++ .ref k :: rest) (hk : q_kd k = a) (ha : (vwCl[a]?).map (·.1) = some y.cls) (h4 : 4 ≤ a) (h9 : a ≤ 9) (hn : As.length = n) (hd : decode cc pc = .ok (.invokevirtual idx, 3)) (hrest : (rest.map fun v => v.category).sum ≤ 8) (hR : fr' + 1 ≤ R.frames ∧ 8 + (maxL' + 11) + lo' ≤ R.locals) (hcs : n1 + mc' ≤ R.cells ∧ n2 + ms' ≤ R.slots)
    (kk : q_Sx α β D κ p l e R s m args below meth c nL A Q (n1 + mc') (n2 + ms') σ1 lv pc rest E) : q_St α β D κ p l e R s m args below meth c nL A Q (n1) (n2) σ lv pc st := by
  subst hst
  intro Y H locs ls hY hP hD hS hl
  rw [q_map_rev]
  exact q_run_thr C hD hS (q_runV C hfl hm hi hsel hlnk hc hk ha h4 h9 hn hd hrest hR hcs hY hP hD hS hl) rfl (fun Y' H1 locs1 q ce hY1 hP1 hD1 hS1 h1 h2 h3 => kk Y' H1 locs1 ls q ce hY1 hP1 hD1 hS1 hl h1 h2 h3)
theorem q_runS (C : q_Cx α β D κ p s m args meth c cc own F G nL A) (hfl : l.flags = flags0) (hm : q_mw y cc' maxL' ret' n) (hi : Cond.static y ∈ q_W) (hlnk : Cond.methodLink own idx y ∈ q_W) (hc : q_C α β D κ y cc' maxL' ret' fr' lo' mc' ms' As σ o σ1) (hn : As.length = n) (hd : decode cc pc = .ok (.invokestatic idx, 3)) (hrest : (rest.map fun v => v.category).sum ≤ 8) (hR : fr' + 1 ≤ R.frames ∧ 8 + (maxL' + 11) + lo' ≤ R.locals) (hcs : n1 + mc' ≤ R.cells ∧ n2 + ms' ≤ R.slots)
    {Y : q_H} {H : Heap} {locs : List Loc} {ls : Array Slot} (hY : q_Yok σ Y) (hP : va_P D vwCl (q_ws α β κ Y σ) H) (hD : va_D A (q_ws α β κ Y σ)) (hS : va_S A s.heap H locs) (hl : lv_has ls nL (q_lm α β lv)) :
    vx_Run p l e R s m args below meth c H locs n1 n2 mc' ms' (F0 m pc ls ((As.map (q_cv α β)).reverse ++ rest.map (q_cv α β))) (rest.map (q_cv α β)) (q_Qc α β D κ (q_A α Y H.size) o σ1 (As.map (q_cv α β)).toArray) (q_XC α β D κ (q_A α Y H.size) o σ1) (q_A α Y H.size) := by
  have C0 := C
  obtain ⟨hx, hb, hml, hown, hts, hK, hE, hA, hlk, hF, hG⟩ := C
  obtain ⟨hm1, hm2, hm3, hm4⟩ := hm
  have hG2 : GoodIn q_W (va_wsS own idx y (Cond.code y cc' maxL' ret' :: q_W)) := by
    have g := q_GI hm1
    intro w hw
    unfold va_wsS at hw
    rcases List.mem_append.mp hw with h | h
    · have hw' : w ∈ q_W := by
        simp only [List.mem_cons, List.not_mem_nil, or_false] at h
        rcases h with rfl | rfl | rfl
        · exact hlnk
        · exact hi
        · exact hm4
      exact ⟨hw', good_of_word (List.mem_filter.mp hw').2⟩
    · exact g w h
  exact vx_runS (n := n) ⟨hx, hb, hml, hown, hts⟩ (hc l hfl Y H.size) (va_cwS n hts hG2 rfl rfl rfl ⟨hm2.1, hm2.2, hm3⟩ hR) ⟨q_FB, q_pre C0 hY hP hD hS⟩ rfl (by rw [List.length_map]; exact hn) hl.1 rfl (lv_room (q_sum_cat hrest)) hd hcs
theorem q_callS (C : q_Cx α β D κ p s m args meth c cc own F G nL A) (hfl : l.flags = flags0) (hm : q_mw y cc' maxL' ret' n) (hi : Cond.static y ∈ q_W) (hlnk : Cond.methodLink own idx y ∈ q_W) {v : Option Value} (hc : q_C α β D κ y cc' maxL' ret' fr' lo' mc' ms' As σ (.inl v) σ1) (hst : st = As.reverse ++ rest) (hn : As.length = n) (hd : decode cc pc = .ok (.invokestatic idx, 3)) (hrest : (rest.map fun v => v.category).sum ≤ 8) (hR : fr' + 1 ≤ R.frames ∧ 8 + (maxL' + 11) + lo' ≤ R.locals) (hcs : n1 + mc' ≤ R.cells ∧ n2 + ms' ≤ R.slots)
    (kk : q_St α β D κ p l e R s m args below meth c nL A Q (n1 + mc') (n2 + ms') σ1 lv (pc + 3) (v.toList ++ rest)) : q_St α β D κ p l e R s m args below meth c nL A Q (n1) (n2) σ lv pc st := by
  subst hst
  intro Y H locs ls hY hP hD hS hl
  rw [q_map_rev]
  refine q_run_ret C hD hS (q_runS C hfl hm hi hlnk hc hn hd hrest hR hcs hY hP hD hS hl) rfl (fun Y' H1 locs1 hY1 hP1 hD1 hS1 => ?_)
  have h := kk Y' H1 locs1 ls hY1 hP1 hD1 hS1 hl
  cases v <;> exact h
theorem q_callSx (C : q_Cx α β D κ p s m args meth c cc own F G nL A) (hfl : l.flags = flags0) (hm : q_mw y cc' maxL' ret' n) (hi : Cond.static y ∈ q_W) (hlnk : Cond.methodLink own idx y ∈ q_W) {E : String} (hc : q_C α β D κ y cc' maxL' ret' fr' lo' mc' ms' As σ (.inr E) σ1) (hst : st = As.reverse ++ rest) (hn : As.length = n) (hd : decode cc pc = .ok (.invokestatic idx, 3)) (hrest : (rest.map fun v => v.category).sum ≤ 8) (hR : fr' + 1 ≤ R.frames ∧ 8 + (maxL' + 11) + lo' ≤ R.locals) (hcs : n1 + mc' ≤ R.cells ∧ n2 + ms' ≤ R.slots)
    (kk : q_Sx α β D κ p l e R s m args below meth c nL A Q (n1 + mc') (n2 + ms') σ1 lv pc rest E) : q_St α β D κ p l e R s m args below meth c nL A Q (n1) (n2) σ lv pc st := by
  subst hst
  intro Y H locs ls hY hP hD hS hl
  rw [q_map_rev]
  exact q_run_thr C hD hS (q_runS C hfl hm hi hlnk hc hn hd hrest hR hcs hY hP hD hS hl) rfl (fun Y' H1 locs1 q ce hY1 hP1 hD1 hS1 h1 h2 h3 => kk Y' H1 locs1 ls q ce hY1 hP1 hD1 hS1 hl h1 h2 h3)
/-- thrown, and not caught here -/
theorem q_xout {σ' : q_M} {E : String} {mc ms : Nat} (C : q_Cx α β D κ p s m args meth c cc own F G nL A) (hT : ∀ x ∈ c.exceptionTable.toList, False) {σ1 : q_M} (hσ : σ1 = σ') (ho : o = .inr E) (hc : n1 ≤ mc) (hs : n2 ≤ ms) : q_Sx α β D κ p l e R s m args below meth c nL A (vx_MQ below (q_Qc α β D κ A o σ') (q_XC α β D κ A o σ') args s mc ms A) n1 n2 σ1 lv pc rest E := by
  subst hσ
  obtain ⟨hx, hb, hml, hown, hts, hK, hE, hA, hlk, hF, hG⟩ := C
  intro Y H locs ls q ce hY hP hD hS hl h1 h2 h3
  exact vx_out (fun x hx => (hT x hx).elim) hlk h1 h2 h3 (fun t ht hv => ⟨ho, ⟨Y, hY, by rw [ht]; exact hP, hD⟩, hS.F ht⟩) hS.2.2 hc hs
end q10
