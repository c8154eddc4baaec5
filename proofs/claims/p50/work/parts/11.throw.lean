/-! Throws; calls of a nest mate's private statics; switches. -/
abbrev q_sup : List String := ["java/lang/RuntimeException", "java/lang/Exception"]
def q_xk (E : String) (ik ic : Nat) : Prop := Bundle.fit E = true ∧ (∀ n ∈ q_sup, Bundle.fit n = true) ∧ Cond.classLink RX8 ik E ∈ q_W ∧ Cond.initialized E ∈ q_W ∧ (∀ w ∈ (vx_atS RX8 ic E q_sup).filter goodWord, w ∈ q_W) ∧ (∀ w ∈ (vx_atS RX8 ic E q_sup).filter (fun w => !goodWord w), w ∈ q_XW) ∧ (∀ w ∈ Cond.classLink RX8 ik E :: Cond.initialized E :: vx_atS RX8 ic E q_sup, vx_ot w = true)
section q11
variable {α β : Nat → Nat} {D : va_G} {κ : Nat → ClassId} {p : Program} {l : Launch} {e : Env} {R : Room} {s : State} {m : MethodId} {args : Array Value} {below : List Frame} {meth : Method} {c : Code} {cc : ByteArray} {own : String} {F : Nat → Option (Nat × Nat)} {G : Nat → Option Int32} {nL : Nat} {A : Nat → Prop} {Q : State → Prop} {n1 n2 : Nat}
theorem q_XW_on : ∀ w ∈ q_XW, w.onTables = true := by decide +kernel
theorem q_nw {w : Cond} {A : Array Value} {U : State} (h : va_Nw w U) (hw : w ∈ q_XW) : w.before A U = true := by
  exact va_Nw.use (q_XW_on w hw) h
variable {σ' : q_M} {o : q_O} {mc ms pc : Nat} {lv : q_Lv} {rest : List Value}
theorem q_thrown (C : q_Cx α β D κ p s m args meth c cc own F G nL A) {E : String} {Y : q_H} {H : Heap} {locs : List Loc} (hY : q_Yok σ' Y) (hP : va_P D vwCl (q_ws α β κ Y σ') H) (hD : va_D A (q_ws α β κ Y σ')) (hS : va_S A s.heap H locs) (ho : o = .inr E) : ∀ t : State, s.vm.Alike t.vm → H.size ≤ t.heap.size → (∀ q : Nat, q < H.size → t.heap[q]? = H[q]?) → q_XC α β D κ A o σ' E s t := by
  intro t _ hz hq
  refine ⟨ho, ⟨Y, hY, hP.kept (fun k q hk => hq _ (vx_lt hP hk)), hD⟩, Nat.le_trans hS.1 hz, fun q h1 h2 => ?_⟩
  rw [hq q (Nat.lt_of_lt_of_le h1 hS.1)]
  exact hS.2.1 q h1 h2
theorem q_throw (C : q_Cx α β D κ p s m args meth c cc RX8 F G nL A) (hT : ∀ x ∈ c.exceptionTable.toList, False) (hfl : l.flags = flags0) {E text : String} {ik is ic : Nat} (hk : q_xk E ik ic) (hs : (is, text) ∈ q_msg) (d0 : decode cc pc = .ok (.new ik, 3)) (d3 : decode cc (pc + 3) = .ok (.dup, 1)) (d4 : decode cc (pc + 4) = .ok (.ldc is, 2)) (d6 : decode cc (pc + 6) = .ok (.invokespecial ic, 3)) (d9 : decode cc (pc + 9) = .ok (.athrow, 1)) (hrest : (rest.map fun v => v.category).sum ≤ 8) (hRf : 5 < R.frames) (hRl : 90 ≤ R.locals) (hRc : n1 + 1 ≤ R.cells) (hRs : n2 + 6 ≤ R.slots) {σ1 : q_M} (hσ : σ1 = σ') (ho : o = .inr E) (hc : n1 + 1 ≤ mc) (hs2 : n2 + 6 ≤ ms) : q_St α β D κ p l e R s m args below meth c nL A (vx_MQ below (q_Qc α β D κ A o σ') (q_XC α β D κ A o σ') args s mc ms A) n1 n2 σ1 lv pc rest := by
  subst hσ
  have C0 := C
  obtain ⟨hx, hb, hml, hown, hts, hK, hE, hA, hlk, hF, hG⟩ := C
  obtain ⟨k1, k2, k3, k4, k5, k6, k7⟩ := hk
  obtain ⟨sa, hstr⟩ := hE.2.2.2.2.2.2.2.2.2.2.2.2.2.1 (is, text) hs
  intro Y H locs ls hY hP hD hS hl
  exact vx_throwS hx hb (q_nt hfl) hown k1 k2 (hts _ k3) (hts _ k4) hstr (vx_hat (B := q_XW) (fun w h => hts _ (k5 w h)) k6 (fun w h => q_nw (hE.2.2.2.2.2.2.2.2.2.2.2.2.2.2.2.2 w h) h)) k7 hE.2.2.2.2.2.2.2.2.2.2.1 hE.2.2.2.2.2.2.2.2.2.2.2.1 hS (hl.1.trans hml.symm) d0 d3 d4 d6 d9 (fun x hx => (hT x hx).elim) hRf
    (Nat.le_trans (Nat.add_le_add_right (q_sum_cat (α := α) (β := β) hrest) _) hRl) hRc hRs hlk (q_thrown C0 hY hP hD hS ho) hS.2.2 hc hs2
theorem q_throwW (C : q_Cx α β D κ p s m args meth c cc RX8 F G nL A) (hT : ∀ x ∈ c.exceptionTable.toList, False) (hfl : l.flags = flags0) {E text : String} {ik is ic : Nat} (hk : q_xk E ik ic) (hs : (is, text) ∈ q_msg) (d0 : decode cc pc = .ok (.new ik, 3)) (d3 : decode cc (pc + 3) = .ok (.dup, 1)) (d4 : decode cc (pc + 4) = .ok (.ldc_w is, 3)) (d7 : decode cc (pc + 7) = .ok (.invokespecial ic, 3)) (d10 : decode cc (pc + 10) = .ok (.athrow, 1)) (hrest : (rest.map fun v => v.category).sum ≤ 8) (hRf : 5 < R.frames) (hRl : 90 ≤ R.locals) (hRc : n1 + 1 ≤ R.cells) (hRs : n2 + 6 ≤ R.slots) {σ1 : q_M} (hσ : σ1 = σ') (ho : o = .inr E) (hc : n1 + 1 ≤ mc) (hs2 : n2 + 6 ≤ ms) : q_St α β D κ p l e R s m args below meth c nL A (vx_MQ below (q_Qc α β D κ A o σ') (q_XC α β D κ A o σ') args s mc ms A) n1 n2 σ1 lv pc rest := by
  subst hσ
  have C0 := C
  obtain ⟨hx, hb, hml, hown, hts, hK, hE, hA, hlk, hF, hG⟩ := C
  obtain ⟨k1, k2, k3, k4, k5, k6, k7⟩ := hk
  obtain ⟨sa, hstr⟩ := hE.2.2.2.2.2.2.2.2.2.2.2.2.2.1 (is, text) hs
  intro Y H locs ls hY hP hD hS hl
  exact vx_throwSW hx hb (q_nt hfl) hown k1 k2 (hts _ k3) (hts _ k4) hstr (vx_hat (B := q_XW) (fun w h => hts _ (k5 w h)) k6 (fun w h => q_nw (hE.2.2.2.2.2.2.2.2.2.2.2.2.2.2.2.2 w h) h)) k7 hE.2.2.2.2.2.2.2.2.2.2.1 hE.2.2.2.2.2.2.2.2.2.2.2.1 hS (hl.1.trans hml.symm) d0 d3 d4 d7 d10 (fun x hx => (hT x hx).elim) hRf
    (Nat.le_trans (Nat.add_le_add_right (q_sum_cat (α := α) (β := β) hrest) _) hRl) hRc hRs hlk (q_thrown C0 hY hP hD hS ho) hS.2.2 hc hs2
theorem q_C.met {y : MethodName} {maxL : Nat} {ret : Option FieldType} {fr lo : Nat} {vs : List Value} {σ σ1 : q_M} {v : Option Value} (h : q_C α β D κ y cc maxL ret fr lo mc ms vs σ (.inl v) σ1) (hfl : l.flags = flags0) (Y : q_H) (sz : Nat) : Met l y (Cond.code y cc maxL ret :: q_W) ({ frames := fr, cells := mc, slots := ms, locals := lo } : Room) (q_Pc α β D κ vs σ Y sz) (q_Qc α β D κ (q_A α Y sz) (.inl v) σ1) mc ms (q_A α Y sz) := by
  intro p e ha hc hk s m args below hf happ hP hK
  obtain ⟨n, o, h1, h2, h3, h4⟩ := h l hfl Y sz p e ha hc hk s m args below hf happ hP hK
  refine ⟨n, o, h1, h2, h3, ?_⟩
  rcases h4 with ⟨h5, h6⟩ | ⟨q, -, E, ce, L, ⟨hx, -⟩, -⟩
  · exact ⟨h5, h6⟩
  · cases hx
theorem q_callN (C : q_Cx α β D κ p s m args meth c cc own F G nL A) (hfl : l.flags = flags0) {y : MethodName} {cc' : ByteArray} {maxL' : Nat} {ret' : Option FieldType} {fr' lo' mc' ms' n idx : Nat} {host : String} {As st : List Value} {σ σ1 : q_M} (hm : q_mw y cc' maxL' ret' n) (hi : Cond.static y ∈ q_W) (hlnk : Cond.methodLinkNest own idx y host ∈ q_NW) {v : Option Value} (hc : q_C α β D κ y cc' maxL' ret' fr' lo' mc' ms' As σ (.inl v) σ1) (hst : st = As.reverse ++ rest) (hn : As.length = n) (hd : decode cc pc = .ok (.invokestatic idx, 3)) (hrest : (rest.map fun v => v.category).sum ≤ 8) (hR : fr' + 1 ≤ R.frames ∧ 8 + (maxL' + 11) + lo' ≤ R.locals) (hcs : n1 + mc' ≤ R.cells ∧ n2 + ms' ≤ R.slots)
    (kk : q_St α β D κ p l e R s m args below meth c nL A Q (n1 + mc') (n2 + ms') σ1 lv (pc + 3) (v.toList ++ rest)) : q_St α β D κ p l e R s m args below meth c nL A Q (n1) (n2) σ lv pc st := by
  subst hst
  have C0 := C
  obtain ⟨hx, hb, hml, hown, hts, hK, hE, hA, hlk, hF, hG⟩ := C
  obtain ⟨hm1, hm2, hm3, hm4⟩ := hm
  intro Y H locs ls hY hP hD hS hl
  rw [q_map_rev]
  have hr := va_runSN (e := e) (meth := meth) (R := R) (n := n) (rest := rest.map (q_cv α β)) (As := As.map (q_cv α β)) (g := F0 m pc ls ((As.map (q_cv α β)).reverse ++ rest.map (q_cv α β))) (below := below) (locs := locs) (cells := n1) (slots := n2) ⟨hx, hb, hml, hown, hts⟩ (hc.met hfl Y H.size) ⟨va_cnB n hts (q_GI hm1) rfl rfl rfl (hE.2.2.2.2.2.2.2.2.2.2.2.2.2.2.1 _ hlnk) (hts _ hm4) ⟨hm2.1, hm2.2, hm3⟩ hR, hts _ hi, trivial⟩ ⟨q_FB, q_pre C0 hY hP hD hS⟩ rfl (by rw [List.length_map]; exact hn) hl.1 rfl (lv_room (q_sum_cat hrest)) hd hcs
  have hsub := q_A_sub (α := α) (β := β) (κ := κ) hA hD hS
  intro T hT X
  obtain ⟨v9, st₀, t, T', L, h0, X', hL, e1, e2, ⟨⟨v2, hv2, hv3⟩, ⟨Y', hY', hP', hD'⟩, hFr⟩, st⟩ := hr T hT X
  cases hv2
  cases hv3
  obtain ⟨k1, k2, k3⟩ := vx_keep h0 e1 hS (fun q _ h => hsub q h) hsub hL hFr
  have hkk := kk Y' T'.heap (locs ++ L) ls hY' (by rw [e1]; exact hP') (hD'.weaken (fun _ _ _ h => hsub _ h)) k3 hl
  obtain ⟨t2, a1, b1⟩ := hkk T' rfl X'
  exact ⟨t2, st t2 (by cases v <;> exact a1), b1⟩
variable {σ : q_M} {x : Int32}
theorem q_tabIn (C : q_Cx α β D κ p s m args meth c cc own F G nL A) {dflt lo hi : Int} {offs : Array Int} {len : Nat} {off : Int} {tgt : Nat} (hd : decode cc pc = .ok (.tableswitch dflt lo hi offs, len)) (h1 : ¬ x.toInt < lo) (h2 : ¬ hi < x.toInt) (ho : offs[(x.toInt - lo).toNat]? = some off) (ht : (pc : Int) + off = (tgt : Int)) (kk : q_St α β D κ p l e R s m args below meth c nL A Q (n1) (n2) σ lv tgt rest) : q_St α β D κ p l e R s m args below meth c nL A Q (n1) (n2) σ lv pc (.int x :: rest) :=
  fun Y H locs ls hY hP hD hS hl => lv_tableIn C.1 C.2.1 hd h1 h2 ho ht (kk Y H locs ls hY hP hD hS hl)
theorem q_tabOut (C : q_Cx α β D κ p s m args meth c cc own F G nL A) {dflt lo hi : Int} {offs : Array Int} {len : Nat} {tgt : Nat} (hd : decode cc pc = .ok (.tableswitch dflt lo hi offs, len)) (h : x.toInt < lo ∨ hi < x.toInt) (ht : (pc : Int) + dflt = (tgt : Int)) (kk : q_St α β D κ p l e R s m args below meth c nL A Q (n1) (n2) σ lv tgt rest) : q_St α β D κ p l e R s m args below meth c nL A Q (n1) (n2) σ lv pc (.int x :: rest) :=
  fun Y H locs ls hY hP hD hS hl => lv_tableOut C.1 C.2.1 hd h ht (kk Y H locs ls hY hP hD hS hl)
theorem q_lookup (C : q_Cx α β D κ p s m args meth c cc own F G nL A) {dflt : Int} {ps : Array (Int × Int)} {len : Nat} {off : Int} {tgt : Nat} (hd : decode cc pc = .ok (.lookupswitch dflt ps, len)) (hp : (ps.toList.zip (ps.toList.drop 1)).all (fun (a, next) => a.1 < next.1) = true) (ho : Op.lookupswitch.offset ps.toList dflt x.toInt = off) (ht : (pc : Int) + off = (tgt : Int)) (kk : q_St α β D κ p l e R s m args below meth c nL A Q (n1) (n2) σ lv tgt rest) : q_St α β D κ p l e R s m args below meth c nL A Q (n1) (n2) σ lv pc (.int x :: rest) :=
  fun Y H locs ls hY hP hD hS hl => lv_lookup C.1 C.2.1 hd hp ho ht (kk Y H locs ls hY hP hD hS hl)
theorem q_widen {k n : Nat} (h1 : n1 ≤ k) (h2 : n2 ≤ n) {st : List Value} (kk : q_St α β D κ p l e R s m args below meth c nL A Q (k) (n) σ lv pc st) : q_St α β D κ p l e R s m args below meth c nL A Q (n1) (n2) σ lv pc st :=
  fun Y H locs ls hY hP hD hS hl => W.widen h1 h2 (kk Y H locs ls hY hP hD hS hl)
theorem q_lvsub {lv' : q_Lv} {st : List Value} (hs : ∀ q ∈ lv', q ∈ lv) (kk : q_St α β D κ p l e R s m args below meth c nL A Q (n1) (n2) σ lv' pc st) : q_St α β D κ p l e R s m args below meth c nL A Q (n1) (n2) σ lv pc st :=
  fun Y H locs ls hY hP hD hS hl => kk Y H locs ls hY hP hD hS (q_has_sub hl (fun q hq => by
    obtain ⟨z, hz, rfl⟩ := List.mem_map.mp hq
    exact List.mem_map.mpr ⟨z, hs z hz, rfl⟩))
end q11
