/-! A text of the law's as the environment's; numberings that differ behind the system's places. -/
/-- the numbering with another text -/
def q_dy (α : Nat → Nat) (g u n : Nat) (t : Nat → Nat) : Nat → Nat := fun k => if k = 356 then g else if k = 376 then u else if k = 700 then n else if 701 ≤ k ∧ k < 900 then (if k - 701 < n then t (k - 701) else 0) else α k
theorem q_dy_o {α : Nat → Nat} {g u n k : Nat} {t : Nat → Nat} (h1 : k ≠ 356) (h2 : k ≠ 376) (h3 : k < 700 ∨ 900 ≤ k) : q_dy α g u n t k = α k := by
  unfold q_dy
  rw [if_neg h1, if_neg h2, if_neg (by omega), if_neg (by omega)]
theorem q_dy_t {α : Nat → Nat} {g u n i : Nat} {t : Nat → Nat} (h : i < 100) : q_dy α g u n t (701 + i) = if i < n then t i else 0 := by
  unfold q_dy
  rw [if_neg (by omega), if_neg (by omega), if_neg (by omega), if_pos (by omega), show 701 + i - 701 = i by omega]
theorem q_scr_dy {α : Nat → Nat} {g u n i : Nat} {t : Nat → Nat} : q_scr (q_dy α g u n t) i = q_scr α i := by
  unfold q_scr
  rw [q_dy_o (by omega) (by omega) (by omega)]
theorem t_cvg {α α' β : Nat → Nat} {v : Value} (h : ∀ k, v = .ref k → α' k = α k) : q_cv α' β v = q_cv α β v := by
  cases v <;> first | rfl | exact congrArg Value.ref (h _ rfl)
theorem q_fw_lt {ci j k r : Nat} {x : Int32} (hk : k < 220) (h : q_fw ci j k x = .ref r) : r < 229 := by
  unfold q_fw at h
  split at h
  all_goals (try split at h)
  all_goals first | (cases h; omega) | (cases h; done)
theorem q_fw_lt2 {ci j k r : Nat} {x : Int32} (hk : k < 229) (hci : q_kd k = ci) (h : q_fw ci j k x = .ref r) : r < 229 := by
  rcases Nat.lt_or_ge k 220 with h2 | h2
  · exact q_fw_lt h2 h
  · have hc : ci ≠ 6 ∧ ci ≠ 7 := by
      rcases (show k = 220 ∨ k = 221 ∨ k = 222 ∨ k = 223 ∨ k = 224 ∨ k = 225 ∨ k = 226 ∨ k = 227 ∨ k = 228 by omega) with rfl | rfl | rfl | rfl | rfl | rfl | rfl | rfl | rfl <;> (subst hci; decide)
    unfold q_fw at h
    split at h
    · exact absurd rfl hc.1
    · exact absurd rfl hc.2
    all_goals (try split at h)
    all_goals first | (cases h; omega) | (cases h; done)
theorem t_pc {α α' β : Nat → Nat} {D : va_G} {κ : Nat → ClassId} {Y : q_H} {k a : Nat} {f : Nat → Int32} {H : Heap} (h : ∀ j, j < 229 → α' j = α j) (hk : k < 229) (hp : va_at D vwCl (a, q_pc α β κ Y k f) H) : va_at D vwCl (a, q_pc α' β κ Y k f) H := by
  unfold q_pc at hp ⊢
  split at hp
  · exact hp
  · exact hp
  · exact hp
  next h30 =>
    have hk2 : k % 20 = 1 ∧ k < 220 := by
      unfold q_kd at h30
      split at h30
      next g =>
        refine ⟨?_, g⟩
        split at h30
        · cases h30
        · next g2 =>
          split at h30
          next g3 => exact g3
          · split at h30 <;> cases h30
      · split at h30 <;> cases h30
    have e9 : vp_cell (κ 4) (6, .inr (.inr (.inr (.inr (fun i => some (α (k + 1 + 3 * i))))))) = vp_cell (κ 4) (6, .inr (.inr (.inr (.inr (fun i => some (α' (k + 1 + 3 * i))))))) := by
      rw [vp_cell_q, vp_cell_q]
      unfold arrV
      have : (fun j : Fin 6 => va_rf (some (α (k + 1 + 3 * j.val)))) = (fun j : Fin 6 => va_rf (some (α' (k + 1 + 3 * j.val)))) := by
        funext j
        have := j.isLt
        rw [h (k + 1 + 3 * j.val) (by omega)]
      rw [this]
    show H[a]? = some (vp_cell (κ 4) (6, _))
    rw [← e9]
    exact hp
  next h31 =>
    have e9 : vp_cell (κ 5) (8, .inr (.inr (.inr (.inr (fun i => some (α (60 + 20 * i))))))) = vp_cell (κ 5) (8, .inr (.inr (.inr (.inr (fun i => some (α' (60 + 20 * i))))))) := by
      rw [vp_cell_q, vp_cell_q]
      unfold arrV
      have : (fun j : Fin 8 => va_rf (some (α (60 + 20 * j.val)))) = (fun j : Fin 8 => va_rf (some (α' (60 + 20 * j.val)))) := by
        funext j
        have := j.isLt
        rw [h (60 + 20 * j.val) (by omega)]
      rw [this]
    show H[a]? = some (vp_cell (κ 5) (8, _))
    rw [← e9]
    exact hp
  · exact hp
  next =>
    have e9 : (List.range (q_nf (q_kd k))).map (fun j => q_cv α' β (q_fw (q_kd k) j k (f j))) = (List.range (q_nf (q_kd k))).map (fun j => q_cv α β (q_fw (q_kd k) j k (f j))) :=
      List.map_congr_left (fun j _ => t_cvg (fun r hr => h r (q_fw_lt2 hk rfl hr)))
    rw [e9]
    exact hp
/-- the same world under a numbering that is the same at the system's places and at the rows -/
theorem t_wsP {α α' β : Nat → Nat} {D : va_G} {κ : Nat → ClassId} {Y : q_H} {σ : q_M} {H : Heap} (h : ∀ j, j < q_N α → α' j = α j) (hn : q_N α' = q_N α) (hp : va_P D vwCl (q_ws α β κ Y σ) H) : va_P D vwCl (q_ws α' β κ Y σ) H := by
  intro k q hq
  have hk : k < q_N α' := by
    have := (List.getElem?_eq_some_iff.mp hq).1
    rwa [q_ws_len] at this
  rw [q_ws_atx hk] at hq
  cases hq
  rw [hn] at hk
  have h1 := hp k _ (q_ws_atx hk)
  have ea : q_ad α' Y k = q_ad α Y k := by unfold q_ad; rw [h k hk]
  rw [ea]
  rcases Nat.lt_or_ge k 229 with h2 | h2
  · exact t_pc (fun j hj => h j (Nat.lt_of_lt_of_le hj (Nat.le_add_right _ _))) h2 h1
  · unfold q_pc at h1 ⊢
    rw [q_kd_99 h2] at h1 ⊢
    exact h1
theorem t_wsD {α α' β : Nat → Nat} {κ : Nat → ClassId} {Y : q_H} {σ : q_M} {A : Nat → Prop} (h : ∀ j, j < q_N α → α' j = α j) (hn : q_N α' = q_N α) (hp : va_D A (q_ws α β κ Y σ)) : va_D A (q_ws α' β κ Y σ) := by
  have key : ∀ (k : Nat) (q : Nat × va_E), (q_ws α' β κ Y σ)[k]? = some q → ∃ q0, (q_ws α β κ Y σ)[k]? = some q0 ∧ q0.1 = q.1 := by
    intro k q hq
    have hk : k < q_N α' := by
      have := (List.getElem?_eq_some_iff.mp hq).1
      rwa [q_ws_len] at this
    rw [q_ws_atx hk] at hq
    cases hq
    rw [hn] at hk
    refine ⟨_, q_ws_atx hk, ?_⟩
    show q_ad α Y k = q_ad α' Y k
    unfold q_ad
    rw [h k hk]
  refine ⟨fun i j p q hi hj hpq => ?_, fun k q hk => ?_⟩
  · obtain ⟨p0, a1, a2⟩ := key i p hi
    obtain ⟨q0, b1, b2⟩ := key j q hj
    exact hp.1 i j p0 q0 a1 b1 (by rw [a2, b2, hpq])
  · obtain ⟨q0, b1, b2⟩ := key k q hk
    rw [← b2]
    exact hp.2 k q0 b1
theorem t_A {α α' : Nat → Nat} {Y : q_H} {sz : Nat} (h : ∀ j, j < q_N α → α' j = α j) (hn : q_N α' = q_N α) : ∀ q, q_A α' Y sz q → q_A α Y sz q := by
  rintro q (⟨k, hk, rfl⟩ | hq)
  · rw [hn] at hk
    exact Or.inl ⟨k, hk, by unfold q_ad; rw [h k hk]⟩
  · exact Or.inr hq
/-- another numbering that gives the constants the same places -/
theorem t_EF {α α' β : Nat → Nat} {A : Nat → Prop} {U : State} {H : Heap} (he : ∀ k, 330 ≤ k → k < 390 → k ≠ 356 → k ≠ 376 → α' k = α k) (ht : q_TX α' A U H) (h : q_EF α β A U H) : q_EF α' β A U H := by
  obtain ⟨h1, h2, h3, h4, h5, h6, h7, h8, h9, ⟨h10, h11⟩, h12, h13, h14⟩ := h
  have e : ∀ k, 330 ≤ k → k < 356 → α' k = α k := fun k a b => he k a (by omega) (by omega) (by omega)
  have e6 : ∀ i, i < 16 → α' (360 + i) = α (360 + i) := fun i hi => he _ (by omega) (by omega) (by omega) (by omega)
  refine ⟨h1, h2, h3, h4, ?_, ?_, ?_, ?_, ?_, ⟨?_, ?_⟩, h12, h13, ?_⟩
  · intro i hi
    have := h5 i hi
    dsimp only at this ⊢
    rw [e (340 + i) (by omega) (by omega)]
    exact this
  · rw [e 330 (by decide) (by decide)]; exact h6
  · rw [e 330 (by decide) (by decide)]; exact h7
  · rw [e 331 (by decide) (by decide)]; exact h8
  · rw [e 331 (by decide) (by decide)]; exact h9
  · refine ⟨fun i hi => ?_, fun i j hi hj hij => h10.2 i j hi hj ?_⟩
    · have := h10.1 i hi
      dsimp only at this ⊢
      rw [e (340 + i) (by omega) (by omega), e6 i hi]
      exact this
    · dsimp only at hij ⊢
      rw [e (340 + i) (by omega) (by omega), e (340 + j) (by omega) (by omega)] at hij
      exact hij
  · obtain ⟨g1, g2, g3, g4, g5, g6, -⟩ := h11
    refine ⟨g1, ?_, ?_, ?_, ?_, ?_, ht⟩
    · rw [e 332 (by decide) (by decide)]; exact g2
    · rw [e 332 (by decide) (by decide)]; exact g3
    · rw [e 333 (by decide) (by decide)]; exact g4
    · rw [e 333 (by decide) (by decide)]; exact g5
    · rw [e 334 (by decide) (by decide)]; exact g6
  · obtain ⟨g1, g2⟩ := h14
    refine ⟨fun i hi => ?_, g2⟩
    rw [e (348 + i) (by omega) (by omega)]
    exact g1 i hi
section q46b
variable {α β : Nat → Nat} {D : va_G} {κ : Nat → ClassId} {p : Program} {l : Launch} {e : Env} {R : Room} {s : State} {m : MethodId} {args : Array Value} {below : List Frame} {meth : Method} {c : Code} {cc : ByteArray} {own : String} {F : Nat → Option (Nat × Nat)} {G : Nat → Option Int32} {nL : Nat} {A : Nat → Prop} {Q : State → Prop} {n1 n2 : Nat}
variable {w w0 : va_W} {h n mm i g u : Nat} {tx : Nat → Nat} {cb : Nat → Int32} {lv : q_Lv} {pc : Nat} {st rest : List Value}
theorem t_OF (C : q_Cx α β D κ p s m args meth c cc own F G nL A) {H : Heap} {B : Nat → Prop} {a k : Nat} {fs : List Value} {v : Value} (hp : va_at D vwCl (a, .inr (0, fs)) H) (hk : k < 4) (hv : fs[k]? = some v) (hB : ¬ B a) : va_OF (TJ0 k).1 (TJ0 k).2.1 (TJ0 k).2.2.1 v a B s H := by
  obtain ⟨hx, hb, hml, hown, hts, hK, hE, hA, hlk, hF, hG⟩ := C
  obtain ⟨r, h1, cell, q1, q2, q3, q4⟩ := hp
  have hr : r = (RJ0, TJ0, 4) := Option.some.inj (h1.symm.trans rfl)
  subst hr
  obtain ⟨hS, hfc, kC, hkC, hkind⟩ := hK.1 0 _ rfl
  obtain ⟨cf, kf, fi, f, hi, hsl⟩ := hS k hk
  refine ⟨cf, kf, fi, f, cell, hi, (u_facts hfc hkC (u_lays hts q_u_J0 hk) hi).1, q1, (by rw [q3]; exact fun h => by cases h), ?_, hB⟩
  rw [hsl, q4 k hk]
  simp [vp_V, hv]
theorem t_dyn (C : q_Cx α β D κ p s m args meth c cc own F G nL A) {H : Heap} {B : Nat → Prop} {t : Nat → Nat} (hg : va_P D vwCl (t_tx g u n κ cb) H) (hBg : ¬ B g) (hBu : ¬ B u) (hn : n < 2 ^ 31) (hc : ∀ j, j < n → cb j = nI (t j)) : vk_S 1 [n] [(List.range n).map (fun i => nI (t i))] (fun _ => g) (fun _ => u) B s H := by
  have hK := C.2.2.2.2.2.1
  have g0 := hg 0 _ rfl
  have g1 : H[u]? = some (vp_cell (κ 1) (n, .inl cb)) := hg 1 _ rfl
  refine ⟨fun i hi => ?_, fun i j hi hj _ => by omega⟩
  obtain rfl : i = 0 := by omega
  refine ⟨?_, t_OF C g0 (k := 1) (by decide) rfl hBg, t_OF C g0 (k := 0) (by decide) rfl hBg, ?_⟩
  · obtain ⟨cell, h1, h2, h3⟩ := va_recv hK hg (show vwCl[0]? = some (RJ0, TJ0, 4) from rfl) (show (t_tx g u n κ cb)[0]? = some (g, .inr (0, [.ref u, .int 0, .int 0, .int 0])) from rfl)
    exact ⟨cell, h1, h2, h3, hBg⟩
  · rw [vp_cell_i] at g1
    refine ⟨_, g1, (hK.2 1 (κ 1, .byte) rfl).1 n _, (fun h => by cases h), ?_, ?_, fun j hj => ?_, hBu⟩
    · rw [arrV_size]; exact Nat.le_refl _
    · rw [arrV_size]; rfl
    · have hj' : j < n := hj
      rw [arrV_read _ _ hj', hc j hj']
      simp [hj']
theorem t_letters (hL : sb_Lat tx n cb) (h7 : ∀ j, j < n → tx j < 128) : ∀ j, j < n → cb j = nI ((fun i => if i < n then tx i else 0) j) := by
  intro j hj
  rw [(hL j hj).2, (sb_b7 _ (h7 j hj)).1]
  simp [hj]
theorem t_TX (C : q_Cx α β D κ p s m args meth c cc own F G nL A) {H : Heap} {B : Nat → Prop} (hT : q_TX α B s H) (hg : va_P D vwCl (t_tx g u n κ cb) H) (hBg : ¬ B g) (hBu : ¬ B u) (hn : n ≤ 100) (hL : sb_Lat tx n cb) (h7 : ∀ j, j < n → tx j < 128) : q_TX (q_dy α g u n tx) B s H := by
  obtain ⟨t1, t2, t3, t4, t5, t6⟩ := hT
  have e356 : q_dy α g u n tx 356 = g := if_pos rfl
  have e376 : q_dy α g u n tx 376 = u := by unfold q_dy; rw [if_neg (by decide), if_pos rfl]
  have e700 : q_dy α g u n tx 700 = n := by unfold q_dy; rw [if_neg (by decide), if_neg (by decide), if_pos rfl]
  have e335 : q_dy α g u n tx 335 = α 335 := q_dy_o (by decide) (by decide) (by omega)
  have e336 : q_dy α g u n tx 336 = α 336 := q_dy_o (by decide) (by decide) (by omega)
  have e329 : q_dy α g u n tx 329 = α 329 := q_dy_o (by decide) (by decide) (by omega)
  refine ⟨?_, by rw [e700]; exact hn, fun i hi => ?_, ?_, by rw [e336]; exact t5, by rw [e329]; exact t6⟩
  · have h9 := t_dyn C (t := fun i => q_dy α g u n tx (701 + i)) hg hBg hBu (by omega) (fun j hj => by
      rw [t_letters hL h7 j hj]
      show nI (if j < n then tx j else 0) = nI (q_dy α g u n tx (701 + j))
      rw [q_dy_t (by omega)])
    rw [e700, e356, e376]
    exact h9
  · rw [q_dy_t hi]
    split
    next hl => exact h7 i hl
    · decide
  · rw [e335, e336]
    simp only [q_scr_dy]
    exact t4
theorem t_envD (C : q_Cx α β D κ p s m args meth c cc own F G nL A) (hn : n ≤ 100) (hL : sb_Lat tx n cb) (h7 : ∀ j, j < n → tx j < 128) : t_Env (q_dy α g u n tx) (w0 ++ t_tx g u n κ cb) s A D := by
  intro H locs wc hP hD hS
  have C0 := C
  obtain ⟨hx, hb, hml, hown, hts, hK, hE, hA, hlk, hF, hG⟩ := C
  have hE2 : q_EF α β (va_A wc H.size) s H := (hE.kp hS.2.1).nr (t_free hA hD hS)
  have hg := t_Pr (t_Pl hP)
  have hd := t_Dr (t_Dl hD)
  have out : ∀ (k : Nat) (q : Nat × va_E), (t_tx g u n κ cb)[k]? = some q → ¬ va_A wc H.size q.1 := by
    intro k q hq
    have hq2 : (w0 ++ t_tx g u n κ cb)[w0.length + k]? = some q := by rw [List.getElem?_append_right (by omega), Nat.add_sub_cancel_left]; exact hq
    have hl := vx_lt (t_Pl hP) hq2
    rintro (⟨j, e9, hj⟩ | hj)
    · exact t_Dx hD _ j q _ hq2 hj rfl
    · omega
  exact (t_EF (fun k a b c d => q_dy_o c d (by omega)) (t_TX C0 hE2.tx hg (out 0 _ rfl) (out 1 _ rfl) hn hL h7) hE2).loc
/-- a call with a text made by the law -/
theorem t_does (C : q_Cx α β D κ p s m args meth c cc RL F G nL A) (hfl : l.flags = flags0) {y : MethodName} {cc' : ByteArray} {maxL' : Nat} {ret' : Option FieldType} {fr' lo' mc' ms' idx : Nat} {σ σ1 : q_M} {v : Int32} (hm : q_mw y cc' maxL' ret' 2) (hi : Cond.static y ∈ q_W) (hlnk : Cond.methodLink RL idx y ∈ q_W) (hn : n ≤ 100) (hL : sb_Lat tx n cb) (h7 : ∀ j, j < n → tx j < 128) (hc : q_C (q_dy α g u n tx) β D κ y cc' maxL' ret' fr' lo' mc' ms' [.ref 220, .ref 356] σ (q_oi v) σ1) (hd : decode cc pc = .ok (.invokestatic idx, 3)) (hrest : (rest.map fun v => v.category).sum ≤ 8) (hR : fr' + 1 ≤ R.frames ∧ 8 + (maxL' + 11) + lo' ≤ R.locals) (hcs : n1 + mc' ≤ R.cells ∧ n2 + ms' ≤ R.slots)
    {Y : q_H} {H : Heap} {locs : List Loc} {ls : Array Slot} (hY : q_Yok σ Y) (hP : va_P D vwCl (q_ws α β κ Y σ ++ w0 ++ t_tx g u n κ cb) H) (hD : va_D A (q_ws α β κ Y σ ++ w0 ++ t_tx g u n κ cb)) (hS : va_S A s.heap H locs) (hl : lv_has ls nL (q_lm α β lv))
    (kk : q_St α β D κ p l e R s m args below meth c nL A Q (n1 + mc') (n2 + ms') σ1 lv (pc + 3) (.int v :: rest)) : W p l e R s m args below meth c H locs n1 n2 Q (F0 m pc ls (.ref g :: .ref (α 220) :: rest.map (q_cv α β))) := by
  have C0 := C
  obtain ⟨hx, hb, hml, hown, hts, hK, hE, hA, hlk, hF, hG⟩ := C
  obtain ⟨hm1, hm2, hm3, hm4⟩ := hm
  have h329 : α 329 ≤ 90 := hE.tx.2.2.2.2.2
  have hα : ∀ j, j < q_N α → q_dy α g u n tx j = α j := fun j hj => q_dy_o (by unfold q_N at hj; omega) (by unfold q_N at hj; omega) (by unfold q_N at hj; omega)
  have hN : q_N (q_dy α g u n tx) = q_N α := by unfold q_N; rw [q_dy_o (by decide) (by decide) (by omega)]
  have hα' : ∀ j, j < q_N (q_dy α g u n tx) → α j = q_dy α g u n tx j := fun j hj => (hα j (by rw [← hN]; exact hj)).symm
  have hPb := t_Pl (t_Pl hP)
  have hDb := t_Dl (t_Dl hD)
  have hG2 : GoodIn q_W (va_wsS RL idx y (Cond.code y cc' maxL' ret' :: q_W)) := by
    have g := q_GI hm1
    intro w hw
    unfold va_wsS at hw
    rcases List.mem_append.mp hw with h | h
    · have hw' : w ∈ q_W := by
        simp only [List.mem_cons, List.not_mem_nil, or_false] at h
        rcases h with rfl | rfl | rfl
        · exact hlnk
        · exact hi
        · exact hm4
      exact ⟨hw', good_of_word (List.mem_filter.mp hw').2⟩
    · exact g w h
  have hsub := q_A_sub (α := α) (β := β) (κ := κ) (σ := σ) hA hDb hS
  have hA2 := t_A (Y := Y) (sz := H.size) hα hN
  have out : ∀ (k : Nat) (q : Nat × va_E), (t_tx g u n κ cb)[k]? = some q → ¬ q_A α Y H.size q.1 := by
    intro k q hq
    have hl := vx_lt (t_Pr hP) hq
    rintro (⟨j, hj, hj2⟩ | hj)
    · refine t_Dx hD j k (q_ad α Y j, q_pc α β κ Y j (σ j)) q ?_ hq hj2
      rw [List.getElem?_append_left (by rw [q_ws_len]; exact hj)]
      exact q_ws_atx hj
    · omega
  have hpre : ∀ U : State, U.heap = H → s.WarmedH U.vm → q_Pc (q_dy α g u n tx) β D κ [.ref 220, .ref 356] σ Y H.size ([Value.ref (α 220), Value.ref g].toArray) U := by
    intro U hU hW
    refine ⟨?_, by rw [hU], hY, by rw [hU]; exact t_wsP hα hN hPb, q_D_self (t_wsD hα hN hDb), va_K.moved hW.alike hK, ?_⟩
    · show _ = [Value.ref (q_dy α g u n tx 220), Value.ref (q_dy α g u n tx 356)].toArray
      rw [q_dy_o (by decide) (by decide) (by omega), show q_dy α g u n tx 356 = g from if_pos rfl]
    · rw [hU]
      have hE2 : q_EF α β (q_A α Y H.size) s H := (hE.kp hS.2.1).nr hsub
      have hE3 := t_EF (α' := q_dy α g u n tx) (fun k a b c d => q_dy_o c d (by omega)) (t_TX C0 hE2.tx (t_Pr hP) (out 0 _ rfl) (out 1 _ rfl) hn hL h7) hE2
      exact (hE3.mv hW).nr hA2
  have hr := vx_runS (meth := meth) (e := e) (below := below) (locs := locs) (n := 2) (cells := n1) (slots := n2) (As := [Value.ref (α 220), Value.ref g]) (rest := rest.map (q_cv α β)) (g := F0 m pc ls (.ref g :: .ref (α 220) :: rest.map (q_cv α β))) ⟨hx, hb, hml, hown, hts⟩ (hc l hfl Y H.size) (va_cwS 2 hts hG2 rfl rfl rfl ⟨hm2.1, hm2.2, hm3⟩ hR) ⟨q_FB, hpre⟩ rfl rfl hl.1 rfl (lv_room (q_sum_cat hrest)) hd hcs
  intro T hT X
  rcases hr T hT X with ⟨v9, st₀, t, T', L, h0, X', hL9, e1, e2, ⟨⟨v2, hv2, hv3⟩, ⟨Y', hY', hP', hD'⟩, hFr⟩, st⟩ | ⟨q, st₀, t, T', L, E, ce, h0, X', hL9, e1, e2, ⟨hE9, -, -⟩, hce, hcv, hcl, st⟩
  · cases hv2
    cases hv3
    obtain ⟨k1, k2, k3⟩ := vx_keep h0 e1 hS (fun q _ h => hsub q (hA2 q h)) (fun q h => hsub q (hA2 q h)) hL9 hFr
    obtain ⟨t2, a1, b1⟩ := kk Y' T'.heap (locs ++ L) ls hY' (t_wsP hα' hN.symm (by rw [e1]; exact hP')) (t_wsD hα' hN.symm (hD'.weaken (fun _ _ _ h => hsub _ (hA2 _ h)))) k3 hl T' rfl X'
    exact ⟨t2, st t2 a1, b1⟩
  · cases hE9
end q46b
