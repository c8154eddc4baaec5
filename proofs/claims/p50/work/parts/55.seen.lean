/-! seen, areAlike and begun, called by the law. -/
theorem dS_seen_0 : decode cL_seen 0 = .ok (.sipush 130, 3) := by decide +kernel
theorem dS_seen_3 : decode cL_seen 3 = .ok (.newarray .int, 2) := by decide +kernel
theorem dS_seen_5 : decode cL_seen 5 = .ok (.astore_n 1, 1) := by decide +kernel
theorem dS_seen_225 : decode cL_seen 225 = .ok (.aload_n 1, 1) := by decide +kernel
theorem dS_seen_226 : decode cL_seen 226 = .ok (.areturn, 1) := by decide +kernel
/-- a new row of zeros behind the memory -/
def q_s1 (α : Nat → Nat) (σ : q_M) : q_M := q_put σ (q_N α) (fun _ => 0)
def q_Qs (α β : Nat → Nat) (D : va_G) (κ : Nat → ClassId) (A : Nat → Prop) (z : Nat) (τ : q_M) : Array Value → State → Outcome → State → Prop := fun _ st oc t => ∃ a : Nat, oc = .returned (some (.ref a)) ∧ (∃ Y, q_Yok τ Y ∧ va_P D vwCl (q_ws α β κ Y τ ++ [(a, q_rw κ (τ z))]) t.heap ∧ va_D A (q_ws α β κ Y τ ++ [(a, q_rw κ (τ z))])) ∧ va_F A st t
set_option maxRecDepth 100000 in
theorem m_seen {α β : Nat → Nat} {D : va_G} {κ : Nat → ClassId} {σ τ : q_M} (h9 : α 329 < 90) (hPs : P_L_seen (q_N α) (q_s1 α σ)) (hF : F_L_seen (q_N α) (q_s1 α σ) = τ) (l : Launch) (hfl : l.flags = flags0) (Y : q_H) (sz : Nat) : Met l yL_seen (Cond.code yL_seen cL_seen 5 (Option.some (Jvm.ClassFile.FieldType.array Jvm.ClassFile.FieldType.int)) :: q_W) ({ frames := 10, cells := 260, slots := 1684, locals := 200 } : Room) (q_Pc α β D κ [.ref 220] σ Y sz) (q_Qs α β D κ (q_A α Y sz) (q_N α) τ) 260 1684 (q_A α Y sz) := by
  refine Met.ofW (cc := cL_seen) (maxL := 5) (ret := (Option.some (Jvm.ClassFile.FieldType.array Jvm.ClassFile.FieldType.int))) (by decide) rfl ?_
  intro p e s m args below meth c s₁ B hml hv
  obtain ⟨rfl, hsz, hY, hP, hD, hK, hE⟩ := hv
  subst hsz
  have hts := atoms_spec (ws := Cond.code yL_seen cL_seen 5 (Option.some (Jvm.ClassFile.FieldType.array Jvm.ClassFile.FieldType.int)) :: q_W) B.pre
  have hown : s.vm.findClass RL = some m.cls := (show yL_seen.cls = RL from rfl) ▸ findClass_of_methodNamed B.named
  have hl := lv_entry ([Value.ref 220].map (q_cv α β)) (n := 5) (Nat.le_of_ble_eq_true rfl)
  rw [lg_entry_eq]
  generalize (lg_sl ([Value.ref 220].map (q_cv α β)) ++ List.replicate (5 - (lg_sl ([Value.ref 220].map (q_cv α β))).length) Slot.unset).toArray = ls at hl ⊢
  generalize hA0 : q_A α Y s.heap.size = A0 at hD hE ⊢
  have hl : lv_has ls 5 [(0, .ref (α 220))] := hl
  have hr := B.returns
  have C : q_Cx α β D κ p s m ([Value.ref 220].map (q_cv α β)).toArray meth c cL_seen RL (fun _ => none) (fun _ => none) 5 A0 := ⟨B.exec, B.bytes, hml, hown, fun w h => hts w (List.mem_cons_of_mem _ h), hK, hE, fun q h => hA0 ▸ Or.inr h, B.notSynchronized, Fok_L, Gok_L⟩
  have C0 := C
  obtain ⟨hx, hb, -, -, htq, -, -, hA, hlocks, -, -⟩ := C
  have hS : va_S A0 s.heap s.heap [] := va_S.rf
  refine lv_sipush hx hb dS_seen_0 (by decide : (Int16.ofInt 130).toInt32 = 130) ?_
  refine va_newa (atype := .int) (ty := .int) (a0 := (130, .inl (fun _ => 0))) (N' := 130) hx hb (htq _ ji_ac_4) rfl hK hP hD hS hA (fun cA => rfl) (by decide) (by decide) (by decide) (by show 0 + 1 ≤ 260; omega) (by show 0 + 130 ≤ 1684; omega) dS_seen_3 (fun a cA H hK2 hP hD hS => ?_)
  obtain rfl := c_arr (k := 0) rfl hK hK2
  clear hK2
  refine lv_astore_n hx hb dS_seen_5 rfl hl (Nat.le_of_ble_eq_true rfl) (lv' := [(1, .ref a), (0, .ref (α 220))]) rfl (fun ls hl => ?_)
  have hz : 229 ≤ q_N α := Nat.le_add_right _ _
  have hY2 : q_Yok (q_s1 α σ) Y := q_put_Y hz hY
  have e9 : q_ws α β κ Y σ = q_ws α β κ Y (q_s1 α σ) := q_ws_cong (fun k hk => (q_put_o (Nat.ne_of_lt hk)).symm)
  have e8 : (fun _ : Nat => (0 : Int32)) = q_s1 α σ (q_N α) := (q_put_z (σ := σ)).symm
  have hP : va_P D vwCl (q_ws α β κ Y σ ++ [(a, q_rw κ (fun _ => 0))]) H := hP
  have hD : va_D A0 (q_ws α β κ Y σ ++ [(a, q_rw κ (fun _ => 0))]) := hD
  rw [e9, e8] at hP hD
  have hP1 := t_extP h9 hP
  have hD1 : va_D A0 (q_ws (q_al α a) β κ Y (q_s1 α σ)) := c_fixD hD (t_adr h9)
  have C1 := t_CxAl C0 h9 a
  have h220 : q_al α a 220 = α 220 := t_al229 h9 220 (by decide)
  refine kp_L_seen (α := q_al α a) (q_N α) (q_s1 α σ) ⟨hz, by rw [q_al_N]; exact Nat.lt_succ_self _⟩ hfl C1 (by show 10 ≤ 10; decide) (by show 181 ≤ 200; decide) 1 130 (by show 1 + 259 ≤ 260; decide) (by show 130 + 1554 ≤ 1684; decide) hPs (fun τ1 hF1 => ?_) Y H [] ls hY2 hP1 hD1 hS (by
    have e : q_lm (q_al α a) β [(0, .ref 220), (1, .ref (q_N α))] = [(0, .ref (α 220)), (1, .ref a)] := by
      show [(0, Value.ref (q_al α a 220)), (1, Value.ref (q_al α a (q_N α)))] = _
      rw [h220, q_al_z h9]
    rw [e]
    exact lv_sub hl [1, 0] rfl)
  rw [hF] at hF1
  subst hF1
  intro Y H locs ls hY hP hD hS hl
  refine lv_aload_n hx hb dS_seen_225 rfl (q_lget_has hl (show q_lget [(1, .ref (q_N α))] 1 = some (.ref (q_N α)) from rfl)) ?_
  refine W.widen (k := 260) (n := 1684) (by decide) (by decide) ?_
  refine W.aret (v := .ref (q_al α a (q_N α))) hx hb hr (Or.inr ⟨_, rfl⟩) (Or.inr ⟨_, rfl⟩) (fun t ht hW => ?_) hS.2.2 dS_seen_226 hlocks
  rw [q_al_z h9]
  exact ⟨a, rfl, ⟨Y, hY, by rw [ht]; exact t_redP h9 hP, c_fixD hD (t_adr h9).symm⟩, hS.F ht⟩
section q55
variable {α β : Nat → Nat} {D : va_G} {κ : Nat → ClassId} {p : Program} {l : Launch} {e : Env} {R : Room} {s : State} {m : MethodId} {args : Array Value} {below : List Frame} {meth : Method} {c : Code} {cc : ByteArray} {own : String} {F : Nat → Option (Nat × Nat)} {G : Nat → Option Int32} {nL : Nat} {A : Nat → Prop} {Q : State → Prop} {n1 n2 : Nat}
variable {w : va_W} {lv : q_Lv} {pc : Nat} {st rest : List Value} {σ τ : q_M}
/-- seen, called by the law: the row that it makes stands beside the memory -/
theorem r_seen (C : q_Cx α β D κ p s m args meth c cc RL F G nL A) (hfl : l.flags = flags0) (h9 : α 329 < 90) (hPs : P_L_seen (q_N α) (q_s1 α σ)) (hFs : F_L_seen (q_N α) (q_s1 α σ) = τ) (hd : decode cc pc = .ok (.invokestatic 259, 3)) (hrest : (rest.map fun v => v.category).sum ≤ 8) (hR : 11 ≤ R.frames ∧ 8 + (5 + 11) + 200 ≤ R.locals) (hcs : n1 + 260 ≤ R.cells ∧ n2 + 1684 ≤ R.slots)
    {Y : q_H} {H : Heap} {locs : List Loc} {ls : Array Slot} (hY : q_Yok σ Y) (hP : va_P D vwCl (w ++ q_ws α β κ Y σ) H) (hD : va_D A (w ++ q_ws α β κ Y σ)) (hS : va_S A s.heap H locs) (hl : lv_has ls nL lv)
    (kk : ∀ a : Nat, r_St α β D κ p l e R s m args below meth c nL A Q (n1 + 260) (n2 + 1684) (w ++ [(a, q_rw κ (τ (q_N α)))]) τ lv (pc + 3) (.ref a :: rest)) : W p l e R s m args below meth c H locs n1 n2 Q (F0 m pc ls (.ref (α 220) :: rest)) := by
  have C0 := C
  obtain ⟨hx, hb, hml, hown, hts, hK, hE, hA, hlk, hF, hG⟩ := C
  have hm := mw_L_seen
  obtain ⟨hm1, hm2, hm3, hm4⟩ := hm
  have hr := va_runS (meth := meth) (e := e) (below := below) (locs := locs) (cells := n1) (slots := n2) (g := F0 m pc ls (.ref (α 220) :: rest)) (As := [Value.ref 220].map (q_cv α β)) (rest := rest) (n := 1) ⟨hx, hb, hml, hown, hts⟩ (m_seen (α := α) (β := β) (D := D) (κ := κ) h9 hPs hFs l hfl Y H.size) (va_cwS 1 hts (r_GS (q_GI hm1) ms_L_seen lk_L_259 hm4) rfl rfl rfl ⟨hm2.1, hm2.2, hm3⟩ hR) ⟨q_FB, r_pre C0 hY hP hD hS⟩ rfl rfl hl.1 rfl (lv_room hrest) hd hcs
  have hfree := t_free hA hD hS
  have hsub : ∀ q, q_A α Y H.size q → A q := fun q h => hfree q (q_A_in q h)
  intro T hT X
  obtain ⟨v9, st₀, t, T', L, h0, X', hL, e1, e2, ⟨a, hv2, ⟨Y', hY', hP', hD'⟩, hFr⟩, st⟩ := hr T hT X
  cases hv2
  obtain ⟨k1, k2, k3⟩ := vx_keep h0 e1 hS (fun q _ h => hsub q h) hsub hL hFr
  obtain ⟨j1, j2⟩ := t_join (w2 := q_ws α β κ Y' τ ++ [(a, q_rw κ (τ (q_N α)))]) (H1 := T'.heap) hP hD (fun q hq hn => k2 q hq (fun h => hn (q_A_in q h))) hfree (by rw [e1]; exact hP') (hD'.weaken (fun _ _ _ h => q_A_in _ h))
  rw [← List.append_assoc] at j1 j2
  obtain ⟨t2, a1, b1⟩ := kk a Y' T'.heap (locs ++ L) ls hY' (t_swapP j1) (t_swapD j2) k3 hl T' rfl X'
  exact ⟨t2, st t2 a1, b1⟩
theorem z_alike {ζ : Nat → Nat} {a b : Nat} {σ : q_M} (h : ∀ j, j < 130 → σ a j = σ b j) : ∀ (nn j : Nat), nn + j = 131 → j ≤ 130 → PL_L_areAlike_2 ζ a b nn (nI j) σ ∧ FL_L_areAlike_2 ζ a b nn (nI j) σ = 1 := by
  intro nn
  induction nn with
  | zero => intro j h1 h2; omega
  | succ nn ih =>
    intro j h1 h2
    have e130 : (130 : Int32) = nI 130 := by decide +kernel
    rcases Nat.lt_or_ge j 130 with hj | hj
    · have c : nI j < (130 : Int32) := by rw [e130]; exact nI_lt hj (by decide)
      have ej : (nI j).toNatClampNeg = j := nI_clamp (by omega)
      have hin : vp_in (nI j) 130 := vp_in_nI hj (by decide)
      obtain ⟨i1, i2⟩ := ih (j + 1) (by omega) (by omega)
      have eq9 : σ a (nI j).toNatClampNeg = σ b (nI j).toNatClampNeg := by rw [ej]; exact h j hj
      rw [← nI_1 j] at i1 i2
      refine ⟨⟨fun _ => ⟨hin, hin, fun _ => i1, fun q => absurd eq9 q⟩, fun q => absurd c q⟩, ?_⟩
      unfold FL_L_areAlike_2
      rw [if_pos c, if_pos eq9]
      exact i2
    · obtain rfl : j = 130 := by omega
      have c : ¬ nI 130 < (130 : Int32) := by rw [e130]; exact nI_nlt (Nat.le_refl _) (by decide)
      refine ⟨⟨fun q => absurd q c, fun _ => trivial⟩, ?_⟩
      unfold FL_L_areAlike_2
      rw [if_neg c]
/-- areAlike of two rows that are: 1, and the second is forgotten -/
theorem r_alike (C : q_Cx α β D κ p s m args meth c cc RL F G nL A) (hfl : l.flags = flags0) (h9 : α 329 < 80) {a b : Nat} {f g : Nat → Int32} (hfg : ∀ j, j < 130 → f j = g j) (hd : decode cc pc = .ok (.invokestatic 268, 3)) (hrest : (rest.map fun v => v.category).sum ≤ 8) (hR : 11 ≤ R.frames ∧ 8 + (5 + 11) + 200 ≤ R.locals) (hcs : n1 ≤ R.cells ∧ n2 ≤ R.slots) (hst : st = .ref b :: .ref a :: rest)
    {Y : q_H} {H : Heap} {locs : List Loc} {ls : Array Slot} (hY : q_Yok σ Y) (hP : va_P D vwCl (w ++ [(a, q_rw κ f)] ++ [(b, q_rw κ g)] ++ q_ws α β κ Y σ) H) (hD : va_D A (w ++ [(a, q_rw κ f)] ++ [(b, q_rw κ g)] ++ q_ws α β κ Y σ)) (hS : va_S A s.heap H locs) (hl : lv_has ls nL lv)
    (kk : r_St α β D κ p l e R s m args below meth c nL A Q n1 n2 (w ++ [(a, q_rw κ f)]) σ lv (pc + 3) (.int 1 :: rest)) : W p l e R s m args below meth c H locs n1 n2 Q (F0 m pc ls st) := by
  subst hst
  have h9' : α 329 < 90 := by omega
  have e1 : q_al α b 329 = α 329 + 1 := if_pos rfl
  have h8 : q_al α b 329 < 90 := by rw [e1]; omega
  have hz : 229 ≤ q_N α := Nat.le_add_right _ _
  have hN1 : q_N (q_al α b) = q_N α + 1 := q_al_N
  have hN2 : q_N (q_al (q_al α b) a) = q_N α + 2 := by rw [q_al_N, q_al_N]
  have eσ : q_ws α β κ Y σ = q_ws α β κ Y (q_put (q_put σ (q_N α) g) (q_N α + 1) f) := q_ws_cong (fun k hk => by rw [q_put_o (by have := hk; omega), q_put_o (by have := hk; omega)])
  generalize hσ2 : q_put (q_put σ (q_N α) g) (q_N α + 1) f = σ2 at eσ
  have eg : σ2 (q_N α) = g := by rw [← hσ2, q_put_o (by omega), q_put_z]
  have ef : σ2 (q_N (q_al α b)) = f := by rw [← hσ2, hN1, q_put_z]
  have hY2 : q_Yok σ2 Y := by rw [← hσ2]; exact q_put_Y (by omega) (q_put_Y hz hY)
  rw [eσ, ← eg, ← ef] at hP hD
  have hP2 := t_inP h8 (t_inP h9' hP)
  have hD2 := t_inD h8 (t_inD h9' hD)
  have C2 := t_CxAl (t_CxAl C h9' b) h8 a
  have hal : ∀ j, j < 130 → σ2 (q_N (q_al α b)) j = σ2 (q_N α) j := fun j hj => by rw [eg, ef]; exact hfg j hj
  obtain ⟨z1, z2⟩ := z_alike (ζ := q_al (q_al α b) a) hal 131 0 rfl (by decide)
  have hk := k_L_areAlike (α := q_al (q_al α b) a) (β := β) (D := D) (κ := κ) (q_N (q_al α b)) (q_N α) σ2 ⟨by rw [hN1]; omega, by rw [hN2, hN1]; omega⟩ ⟨hz, by rw [hN2]; omega⟩ z1
  rw [show F_L_areAlike (q_al (q_al α b) a) (q_N (q_al α b)) (q_N α) σ2 = 1 from z2] at hk
  have ea : q_al (q_al α b) a (q_N (q_al α b)) = a := q_al_z h8
  have eb : q_al (q_al α b) a (q_N α) = b := by rw [q_al_lt h8 (by rw [hN1]; omega), q_al_z h9']
  refine r_callS C2 hfl mw_L_areAlike ms_L_areAlike lk_L_268 hk (rest := rest) ?_ rfl hd hrest ⟨by omega, by omega⟩ ⟨by omega, by omega⟩ hY2 hP2 hD2 hS hl ?_
  · show _ = [Value.ref (q_al (q_al α b) a (q_N α)), Value.ref (q_al (q_al α b) a (q_N (q_al α b)))] ++ rest
    rw [ea, eb]
    rfl
  · refine r_out h8 (r_out h9' ?_)
    rw [ef]
    refine r_drop (r_mem (fun k hk => ?_) kk)
    rw [← hσ2, q_put_o (by omega), q_put_o (by omega)]
end q55
