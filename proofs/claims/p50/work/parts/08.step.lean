section q08
variable {α β : Nat → Nat} {D : va_G} {κ : Nat → ClassId} {p : Program} {l : Launch} {e : Env} {R : Room} {s : State} {m : MethodId} {args : Array Value} {below : List Frame} {meth : Method} {c : Code} {cc : ByteArray} {own : String} {F : Nat → Option (Nat × Nat)} {G : Nat → Option Int32} {nL : Nat} {A : Nat → Prop} {Q : State → Prop} {n1 n2 : Nat}
theorem q_c1_cat {v : Value} (h : q_c1 v = true) : (q_cv α β v).category = 1 := by cases v <;> first | rfl | cases h
theorem q_at_o {k a : Nat} {Y : q_H} {σ : q_M} (h : q_kd k = a) (h4 : 4 ≤ a) (h9 : a ≤ 9) : (q_ws α β κ Y σ)[k]? = some (α k, .inr (a, (List.range (q_nf a)).map (fun j => q_cv α β (q_fw a j k (σ k j))))) := by
  rw [q_ws_at (q_kd_lt h (by omega)), q_ad_of h (by omega), q_pc_o h h4 h9]
theorem q_at_i {k : Nat} {Y : q_H} {σ : q_M} (h : q_kd k = 20) : (q_ws α β κ Y σ)[k]? = some (α k, .inl (κ 0, q_len k, .inl (σ k))) := by
  rw [q_ws_at (q_kd_lt h (by omega)), q_ad_of h (by omega), q_pc_i h]
theorem q_at_t {k : Nat} {Y : q_H} {σ : q_M} (h : q_kd k = 30) : (q_ws α β κ Y σ)[k]? = some (α k, .inl (κ 4, 6, .inr (.inr (.inr (.inr (fun i => some (α (k + 1 + 3 * i)))))))) := by
  rw [q_ws_at (q_kd_lt h (by omega)), q_ad_of h (by omega), q_pc_t h]
theorem q_at_r {k : Nat} {Y : q_H} {σ : q_M} (h : q_kd k = 31) : (q_ws α β κ Y σ)[k]? = some (α k, .inl (κ 5, 8, .inr (.inr (.inr (.inr (fun i => some (α (60 + 20 * i)))))))) := by
  rw [q_ws_at (q_kd_lt h (by omega)), q_ad_of h (by omega), q_pc_r h]
theorem q_set_o {k a b : Nat} {Y : q_H} {σ : q_M} {x : Int32} {V : Value} (h : q_kd k = a) (h4 : 4 ≤ a) (h9 : a ≤ 9) (hv : q_cv α β (q_fw a b k x) = V) : (q_ws α β κ Y σ).set k (α k, .inr (a, ((List.range (q_nf a)).map (fun j => q_cv α β (q_fw a j k (σ k j)))).set b V)) = q_ws α β κ Y (q_up σ k b x) := by
  rw [← q_ad_of (α := α) (Y := Y) h (by omega)]
  exact q_ws_set (q_kd_lt h (by omega)) (by rw [q_pc_o h h4 h9, q_fs_set hv])
theorem q_set_i {k b : Nat} {Y : q_H} {σ : q_M} {x : Int32} (h : q_kd k = 20) : (q_ws α β κ Y σ).set k (α k, .inl (κ 0, q_len k, .inl (upd (σ k) b x))) = q_ws α β κ Y (q_up σ k b x) := by
  rw [← q_ad_of (α := α) (Y := Y) h (by omega)]
  exact q_ws_set (q_kd_lt h (by omega)) (by rw [q_pc_i h])
theorem q_stat {A : Nat → Prop} {U : State} {H : Heap} (hE : q_EF α β A U H) {n : Nat} (hn : n < 5 ∨ (10 ≤ n ∧ n < 15) ∨ (20 ≤ n ∧ n < 28)) : va_Z (q_gn n).1 (q_gn n).2.1 (q_gn n).2.2 (.ref (β n)) A U H := by
  rcases hn with h | ⟨h1, h⟩ | ⟨h1, h⟩
  · have z := (hE.1.1 n h).1
    unfold q_gn
    rw [if_pos h]
    exact z
  · have z := (hE.2.1.1 (n - 10) (show n - 10 < 5 by omega)).1
    unfold q_gn
    rw [if_neg (by omega), if_pos h]
    dsimp only at z
    rw [show 10 + (n - 10) = n by omega] at z
    exact z
  · have z := (hE.2.2.1.1 (n - 20) (show n - 20 < 8 by omega)).1
    unfold q_gn
    rw [if_neg (by omega), if_neg (by omega)]
    dsimp only at z
    rw [show 20 + (n - 20) = n by omega] at z
    exact z

set_option maxHeartbeats 4000000 in
theorem q_1_ok (C : q_Cx α β D κ p s m args meth c cc own F G nL A) {z : q_E} (hd : decode cc z.1 = .ok (z.2.1, z.2.2.1)) (hk : q_ck nL z = true) {tk : Bool} {S : q_S} {cs : List Prop} {pc1 : Nat} {S1 : q_S} (h : q_1 F G z tk S = some (cs, pc1, S1)) (hc : q_all cs) (kk : q_St α β D κ p l e R s m args below meth c nL A Q n1 n2 S1.2.2 S1.1 pc1 S1.2.1) : q_St α β D κ p l e R s m args below meth c nL A Q n1 n2 S.2.2 S.1 z.1 S.2.1 := by
  obtain ⟨pc, I, len, cv, tg⟩ := z
  obtain ⟨lv, st, σ⟩ := S
  obtain ⟨hx, hb, hml, hown, hts, hK, hE, hA, hlk, hF, hG⟩ := C
  dsimp only at hd kk ⊢
  unfold q_1 at h
  unfold q_ck at hk
  cases I with
  | iconst n =>
    dsimp only at h hk
    cases h
    simp only [Bool.and_eq_true, decide_eq_true_eq] at hk
    obtain ⟨rfl, hv⟩ := hk
    intro Y H locs ls hY hP hD hS hl
    exact lv_iconst hx hb hd hv (kk Y H locs ls hY hP hD hS hl)
  | bipush n =>
    dsimp only at h hk
    cases h
    simp only [Bool.and_eq_true, decide_eq_true_eq] at hk
    obtain ⟨rfl, hv⟩ := hk
    intro Y H locs ls hY hP hD hS hl
    exact lv_bipush hx hb hd hv (kk Y H locs ls hY hP hD hS hl)
  | sipush n =>
    dsimp only at h hk
    cases h
    simp only [Bool.and_eq_true, decide_eq_true_eq] at hk
    obtain ⟨rfl, hv⟩ := hk
    intro Y H locs ls hY hP hD hS hl
    exact lv_sipush hx hb hd hv (kk Y H locs ls hY hP hD hS hl)
  | lconst n =>
    dsimp only at h hk
    cases h
    simp only [Bool.and_eq_true, decide_eq_true_eq] at hk
    obtain ⟨rfl, hv⟩ := hk
    intro Y H locs ls hY hP hD hS hl
    exact lv_lconst hx hb hd hv (kk Y H locs ls hY hP hD hS hl)
  | aconst_null =>
    dsimp only at h hk
    cases h
    obtain rfl : len = 1 := of_decide_eq_true hk
    intro Y H locs ls hY hP hD hS hl
    exact lv_null hx hb hd (kk Y H locs ls hY hP hD hS hl)
  | iload i =>
    dsimp only at h hk
    obtain rfl : len = 2 := of_decide_eq_true hk
    split at h
    next x hq =>
      cases h
      intro Y H locs ls hY hP hD hS hl
      exact lv_iload hx hb hd (q_lget_has hl hq) (kk Y H locs ls hY hP hD hS hl)
    next => cases h
  | iload_n i =>
    dsimp only at h hk
    obtain rfl : len = 1 := of_decide_eq_true hk
    split at h
    next x hq =>
      cases h
      intro Y H locs ls hY hP hD hS hl
      exact lv_iload_n hx hb hd rfl (q_lget_has hl hq) (kk Y H locs ls hY hP hD hS hl)
    next => cases h
  | aload i =>
    dsimp only at h hk
    obtain rfl : len = 2 := of_decide_eq_true hk
    split at h
    next x hq =>
      cases h
      intro Y H locs ls hY hP hD hS hl
      exact lv_aload hx hb hd (q_lget_has hl hq) (kk Y H locs ls hY hP hD hS hl)
    next x hq =>
      cases h
      intro Y H locs ls hY hP hD hS hl
      exact lv_aload hx hb hd (q_lget_has hl hq) (kk Y H locs ls hY hP hD hS hl)
    next hq =>
      cases h
      intro Y H locs ls hY hP hD hS hl
      exact lv_aloadN hx hb hd (q_lget_has hl hq) (kk Y H locs ls hY hP hD hS hl)
    next => cases h
  | aload_n i =>
    dsimp only at h hk
    obtain rfl : len = 1 := of_decide_eq_true hk
    split at h
    next x hq =>
      cases h
      intro Y H locs ls hY hP hD hS hl
      exact lv_aload_n hx hb hd rfl (q_lget_has hl hq) (kk Y H locs ls hY hP hD hS hl)
    next x hq =>
      cases h
      intro Y H locs ls hY hP hD hS hl
      exact lv_aload_n hx hb hd rfl (q_lget_has hl hq) (kk Y H locs ls hY hP hD hS hl)
    next hq =>
      cases h
      intro Y H locs ls hY hP hD hS hl
      exact lv_aload_nN hx hb hd rfl (q_lget_has hl hq) (kk Y H locs ls hY hP hD hS hl)
    next => cases h
  | istore i =>
    dsimp only at h hk
    simp only [Bool.and_eq_true, decide_eq_true_eq] at hk
    obtain ⟨rfl, hi⟩ := hk
    split at h
    next x r =>
      cases h
      intro Y H locs ls hY hP hD hS hl
      exact lv_istore hx hb hd hl hi rfl (fun ls' h' => kk Y H locs ls' hY hP hD hS (q_lset_has (v := .int x) h'))
    next => cases h
  | istore_n i =>
    dsimp only at h hk
    simp only [Bool.and_eq_true, decide_eq_true_eq] at hk
    obtain ⟨rfl, hi⟩ := hk
    split at h
    next x r =>
      cases h
      intro Y H locs ls hY hP hD hS hl
      exact lv_istore_n hx hb hd rfl hl hi rfl (fun ls' h' => kk Y H locs ls' hY hP hD hS (q_lset_has (v := .int x) h'))
    next => cases h
  | astore i =>
    dsimp only at h hk
    simp only [Bool.and_eq_true, decide_eq_true_eq] at hk
    obtain ⟨rfl, hi⟩ := hk
    split at h
    next x r =>
      cases h
      intro Y H locs ls hY hP hD hS hl
      exact lv_astore hx hb hd hl hi rfl (fun ls' h' => kk Y H locs ls' hY hP hD hS (q_lset_has (v := .ref x) h'))
    next x r =>
      cases h
      intro Y H locs ls hY hP hD hS hl
      exact lv_astore hx hb hd hl hi rfl (fun ls' h' => kk Y H locs ls' hY hP hD hS (q_lset_has (v := .float x) h'))
    next r =>
      cases h
      intro Y H locs ls hY hP hD hS hl
      exact lv_astoreN hx hb hd hl hi rfl (fun ls' h' => kk Y H locs ls' hY hP hD hS (q_lset_has (v := .null) h'))
    next => cases h
  | astore_n i =>
    dsimp only at h hk
    simp only [Bool.and_eq_true, decide_eq_true_eq] at hk
    obtain ⟨rfl, hi⟩ := hk
    split at h
    next x r =>
      cases h
      intro Y H locs ls hY hP hD hS hl
      exact lv_astore_n hx hb hd rfl hl hi rfl (fun ls' h' => kk Y H locs ls' hY hP hD hS (q_lset_has (v := .ref x) h'))
    next x r =>
      cases h
      intro Y H locs ls hY hP hD hS hl
      exact lv_astore_n hx hb hd rfl hl hi rfl (fun ls' h' => kk Y H locs ls' hY hP hD hS (q_lset_has (v := .float x) h'))
    next r =>
      cases h
      intro Y H locs ls hY hP hD hS hl
      exact lv_astore_nN hx hb hd rfl hl hi rfl (fun ls' h' => kk Y H locs ls' hY hP hD hS (q_lset_has (v := .null) h'))
    next => cases h
  | iinc i n =>
    dsimp only at h hk
    simp only [Bool.and_eq_true, decide_eq_true_eq] at hk
    obtain ⟨⟨rfl, hi⟩, hv⟩ := hk
    split at h
    next x hq =>
      cases h
      intro Y H locs ls hY hP hD hS hl
      obtain ⟨k9, h9⟩ := List.getElem?_of_mem (List.mem_map.mpr ⟨(i, .int x), q_lget_in hq, rfl⟩ : (i, q_cv α β (.int x)) ∈ q_lm α β lv)
      exact lv_iinc hx hb hd hl h9 (by rw [hv]) hi rfl (fun ls' h' => kk Y H locs ls' hY hP hD hS (q_lset_has (v := .int (x + cv)) h'))
    next => cases h
  | iadd =>
    dsimp only at h hk
    obtain rfl : len = 1 := of_decide_eq_true hk
    split at h
    next y x r =>
      cases h
      intro Y H locs ls hY hP hD hS hl
      exact lv_iadd hx hb hd (kk Y H locs ls hY hP hD hS hl)
    next => cases h
  | isub =>
    dsimp only at h hk
    obtain rfl : len = 1 := of_decide_eq_true hk
    split at h
    next y x r =>
      cases h
      intro Y H locs ls hY hP hD hS hl
      exact lv_isub hx hb hd (kk Y H locs ls hY hP hD hS hl)
    next => cases h
  | imul =>
    dsimp only at h hk
    obtain rfl : len = 1 := of_decide_eq_true hk
    split at h
    next y x r =>
      cases h
      intro Y H locs ls hY hP hD hS hl
      exact lv_imul hx hb hd (kk Y H locs ls hY hP hD hS hl)
    next => cases h
  | iand =>
    dsimp only at h hk
    obtain rfl : len = 1 := of_decide_eq_true hk
    split at h
    next y x r =>
      cases h
      intro Y H locs ls hY hP hD hS hl
      exact lv_iand hx hb hd (kk Y H locs ls hY hP hD hS hl)
    next => cases h
  | ior =>
    dsimp only at h hk
    obtain rfl : len = 1 := of_decide_eq_true hk
    split at h
    next y x r =>
      cases h
      intro Y H locs ls hY hP hD hS hl
      exact lv_ior hx hb hd (kk Y H locs ls hY hP hD hS hl)
    next => cases h
  | ishl =>
    dsimp only at h hk
    obtain rfl : len = 1 := of_decide_eq_true hk
    split at h
    next y x r =>
      cases h
      intro Y H locs ls hY hP hD hS hl
      exact lv_ishl hx hb hd (kk Y H locs ls hY hP hD hS hl)
    next => cases h
  | ishr =>
    dsimp only at h hk
    obtain rfl : len = 1 := of_decide_eq_true hk
    split at h
    next y x r =>
      cases h
      intro Y H locs ls hY hP hD hS hl
      exact lv_ishr hx hb hd (kk Y H locs ls hY hP hD hS hl)
    next => cases h
  | idiv =>
    dsimp only at h hk
    obtain rfl : len = 1 := of_decide_eq_true hk
    split at h
    next y x r =>
      cases h
      intro Y H locs ls hY hP hD hS hl
      exact lv_idiv hx hb hd hc.1 (kk Y H locs ls hY hP hD hS hl)
    next => cases h
  | irem =>
    dsimp only at h hk
    obtain rfl : len = 1 := of_decide_eq_true hk
    split at h
    next y x r =>
      cases h
      intro Y H locs ls hY hP hD hS hl
      exact lv_irem hx hb hd hc.1 (kk Y H locs ls hY hP hD hS hl)
    next => cases h
  | ineg =>
    dsimp only at h hk
    obtain rfl : len = 1 := of_decide_eq_true hk
    split at h
    next x r =>
      cases h
      intro Y H locs ls hY hP hD hS hl
      exact lv_ineg hx hb hd (kk Y H locs ls hY hP hD hS hl)
    next => cases h
  | i2c =>
    dsimp only at h hk
    obtain rfl : len = 1 := of_decide_eq_true hk
    split at h
    next x r =>
      cases h
      intro Y H locs ls hY hP hD hS hl
      exact lv_i2c hx hb hd rfl (kk Y H locs ls hY hP hD hS hl)
    next => cases h
  | i2l =>
    dsimp only at h hk
    obtain rfl : len = 1 := of_decide_eq_true hk
    split at h
    next x r =>
      cases h
      intro Y H locs ls hY hP hD hS hl
      exact lv_i2l hx hb hd rfl (kk Y H locs ls hY hP hD hS hl)
    next => cases h
  | i2d =>
    dsimp only at h hk
    obtain rfl : len = 1 := of_decide_eq_true hk
    split at h
    next x r =>
      cases h
      intro Y H locs ls hY hP hD hS hl
      exact lv_i2d hx hb hd (kk Y H locs ls hY hP hD hS hl)
    next => cases h
  | lcmp =>
    dsimp only at h hk
    obtain rfl : len = 1 := of_decide_eq_true hk
    split at h
    next y x r =>
      cases h
      intro Y H locs ls hY hP hD hS hl
      exact W.lcmp hx hb hd (kk Y H locs ls hY hP hD hS hl)
    next => cases h
  | dcmp o =>
    dsimp only at h hk
    obtain rfl : len = 1 := of_decide_eq_true hk
    split at h
    next y x r =>
      cases h
      intro Y H locs ls hY hP hD hS hl
      exact lv_dcmp hx hb hd (kk Y H locs ls hY hP hD hS hl)
    next => cases h
  | dup =>
    dsimp only at h hk
    obtain rfl : len = 1 := of_decide_eq_true hk
    split at h
    next v r =>
      cases hq : (q_c1 v) with
      | true =>
        rw [hq] at h
        cases h
        skip
        intro Y H locs ls hY hP hD hS hl
        exact lv_dup hx hb hd (q_c1_cat hq) (kk Y H locs ls hY hP hD hS hl)
      | false =>
        rw [hq] at h
        cases h
    next => cases h
  | pop =>
    dsimp only at h hk
    obtain rfl : len = 1 := of_decide_eq_true hk
    split at h
    next v r =>
      cases hq : (q_c1 v) with
      | true =>
        rw [hq] at h
        cases h
        skip
        intro Y H locs ls hY hP hD hS hl
        exact lv_pop hx hb hd (q_c1_cat hq) (kk Y H locs ls hY hP hD hS hl)
      | false =>
        rw [hq] at h
        cases h
    next => cases h
  | dup2 =>
    dsimp only at h hk
    obtain rfl : len = 1 := of_decide_eq_true hk
    split at h
    next v w r =>
      cases hq : (q_c1 v && q_c1 w) with
      | true =>
        rw [hq] at h
        cases h
        simp only [Bool.and_eq_true] at hq
        intro Y H locs ls hY hP hD hS hl
        exact lv_dup2_11 hx hb hd (q_c1_cat hq.1) (q_c1_cat hq.2) (kk Y H locs ls hY hP hD hS hl)
      | false =>
        rw [hq] at h
        cases h
    next => cases h
  | dup_x1 =>
    dsimp only at h hk
    obtain rfl : len = 1 := of_decide_eq_true hk
    split at h
    next v w r =>
      cases hq : (q_c1 v && q_c1 w) with
      | true =>
        rw [hq] at h
        cases h
        simp only [Bool.and_eq_true] at hq
        intro Y H locs ls hY hP hD hS hl
        exact lv_dup_x1 hx hb hd (q_c1_cat hq.1) (q_c1_cat hq.2) (kk Y H locs ls hY hP hD hS hl)
      | false =>
        rw [hq] at h
        cases h
    next => cases h
  | goto o =>
    dsimp only at h hk
    cases h
    simp only [Bool.and_eq_true, decide_eq_true_eq] at hk
    obtain ⟨rfl, ht⟩ := hk
    intro Y H locs ls hY hP hD hS hl
    exact lv_goto hx hb hd ht (kk Y H locs ls hY hP hD hS hl)
  | ifCond op o =>
    dsimp only at h hk
    simp only [Bool.and_eq_true, decide_eq_true_eq] at hk
    obtain ⟨rfl, ht⟩ := hk
    split at h
    next x r =>
      cases h
      have hc := hc.1
      intro Y H locs ls hY hP hD hS hl
      cases op <;> cases tk <;> dsimp only [q_cond, cond] at hc kk
      · exact lv_if_eq hx hb hd ht (fun q => absurd q hc) (fun _ => (kk Y H locs ls hY hP hD hS hl))
      · exact lv_if_eq hx hb hd ht (fun _ => (kk Y H locs ls hY hP hD hS hl)) (fun q => absurd hc q)
      · exact lv_if_ne hx hb hd ht (fun q => absurd hc q) (fun _ => (kk Y H locs ls hY hP hD hS hl))
      · exact lv_if_ne hx hb hd ht (fun _ => (kk Y H locs ls hY hP hD hS hl)) (fun q => absurd q hc)
      · exact lv_if_lt hx hb hd ht (fun q => absurd q hc) (fun _ => (kk Y H locs ls hY hP hD hS hl))
      · exact lv_if_lt hx hb hd ht (fun _ => (kk Y H locs ls hY hP hD hS hl)) (fun q => absurd hc q)
      · exact lv_if_ge hx hb hd ht (fun q => absurd hc (q_ge.mp q)) (fun _ => (kk Y H locs ls hY hP hD hS hl))
      · exact lv_if_ge hx hb hd ht (fun _ => (kk Y H locs ls hY hP hD hS hl)) (fun q => absurd (q_ge.mpr hc) q)
      · exact lv_if_gt hx hb hd ht (fun q => absurd q hc) (fun _ => (kk Y H locs ls hY hP hD hS hl))
      · exact lv_if_gt hx hb hd ht (fun _ => (kk Y H locs ls hY hP hD hS hl)) (fun q => absurd hc q)
      · exact lv_if_le hx hb hd ht (fun q => absurd hc (q_ge.mp q)) (fun _ => (kk Y H locs ls hY hP hD hS hl))
      · exact lv_if_le hx hb hd ht (fun _ => (kk Y H locs ls hY hP hD hS hl)) (fun q => absurd (q_ge.mpr hc) q)
    next => cases h
  | if_icmp op o =>
    dsimp only at h hk
    simp only [Bool.and_eq_true, decide_eq_true_eq] at hk
    obtain ⟨rfl, ht⟩ := hk
    split at h
    next y x r =>
      cases h
      have hc := hc.1
      intro Y H locs ls hY hP hD hS hl
      cases op <;> cases tk <;> dsimp only [q_cond, cond] at hc kk
      · exact lv_icmp_eq hx hb hd ht (fun q => absurd q hc) (fun _ => (kk Y H locs ls hY hP hD hS hl))
      · exact lv_icmp_eq hx hb hd ht (fun _ => (kk Y H locs ls hY hP hD hS hl)) (fun q => absurd hc q)
      · exact lv_icmp_ne hx hb hd ht (fun q => absurd hc q) (fun _ => (kk Y H locs ls hY hP hD hS hl))
      · exact lv_icmp_ne hx hb hd ht (fun _ => (kk Y H locs ls hY hP hD hS hl)) (fun q => absurd q hc)
      · exact lv_icmp_lt hx hb hd ht (fun q => absurd q hc) (fun _ => (kk Y H locs ls hY hP hD hS hl))
      · exact lv_icmp_lt hx hb hd ht (fun _ => (kk Y H locs ls hY hP hD hS hl)) (fun q => absurd hc q)
      · exact lv_icmp_ge hx hb hd ht (fun q => absurd hc (q_ge.mp q)) (fun _ => (kk Y H locs ls hY hP hD hS hl))
      · exact lv_icmp_ge hx hb hd ht (fun _ => (kk Y H locs ls hY hP hD hS hl)) (fun q => absurd (q_ge.mpr hc) q)
      · exact lv_icmp_gt hx hb hd ht (fun q => absurd q hc) (fun _ => (kk Y H locs ls hY hP hD hS hl))
      · exact lv_icmp_gt hx hb hd ht (fun _ => (kk Y H locs ls hY hP hD hS hl)) (fun q => absurd hc q)
      · exact lv_icmp_le hx hb hd ht (fun q => absurd hc (q_ge.mp q)) (fun _ => (kk Y H locs ls hY hP hD hS hl))
      · exact lv_icmp_le hx hb hd ht (fun _ => (kk Y H locs ls hY hP hD hS hl)) (fun q => absurd (q_ge.mpr hc) q)
    next => cases h
  | if_acmp op o =>
    dsimp only at h hk
    simp only [Bool.and_eq_true, decide_eq_true_eq] at hk
    obtain ⟨rfl, ht⟩ := hk
    split at h
    next y x r =>
      cases h
      have hc := hc.1
      intro Y H locs ls hY hP hD hS hl
      have hj : some (β x.toNat) = some (β y.toNat) ↔ x = y := ⟨fun q => UInt32.toNat_inj.mp (hE.2.2.2.1 _ _ (Option.some.inj q)), fun q => by rw [q]⟩
      cases tk <;> dsimp only [cond] at hc kk
      · exact lv_acmp_eq (rx := some (β x.toNat)) (ry := some (β y.toNat)) hx hb hd ht (fun q => absurd (hj.mp q) hc) (fun _ => kk Y H locs ls hY hP hD hS hl)
      · exact lv_acmp_eq (rx := some (β x.toNat)) (ry := some (β y.toNat)) hx hb hd ht (fun _ => kk Y H locs ls hY hP hD hS hl) (fun q => absurd (hj.mpr hc) q)
    next y x r =>
      cases h
      have hc := hc.1
      intro Y H locs ls hY hP hD hS hl
      have hj : some (β x.toNat) = some (β y.toNat) ↔ x = y := ⟨fun q => UInt32.toNat_inj.mp (hE.2.2.2.1 _ _ (Option.some.inj q)), fun q => by rw [q]⟩
      cases tk <;> dsimp only [cond] at hc kk
      · exact lv_acmp_ne (rx := some (β x.toNat)) (ry := some (β y.toNat)) hx hb hd ht (fun q => absurd (hj.mpr hc) q) (fun _ => kk Y H locs ls hY hP hD hS hl)
      · exact lv_acmp_ne (rx := some (β x.toNat)) (ry := some (β y.toNat)) hx hb hd ht (fun _ => kk Y H locs ls hY hP hD hS hl) (fun q => absurd (hj.mp q) hc)
    next => cases h
  | ifnull o =>
    dsimp only at h hk
    simp only [Bool.and_eq_true, decide_eq_true_eq] at hk
    obtain ⟨rfl, ht⟩ := hk
    split at h
    next r =>
      cases h
      intro Y H locs ls hY hP hD hS hl
      exact lv_ifnullN hx hb hd ht (kk Y H locs ls hY hP hD hS hl)
    next x r =>
      cases h
      intro Y H locs ls hY hP hD hS hl
      exact lv_ifnull hx hb hd (kk Y H locs ls hY hP hD hS hl)
    next => cases h
  | ifnonnull o =>
    dsimp only at h hk
    simp only [Bool.and_eq_true, decide_eq_true_eq] at hk
    obtain ⟨rfl, ht⟩ := hk
    split at h
    next r =>
      cases h
      intro Y H locs ls hY hP hD hS hl
      exact lv_ifnonnullN hx hb hd (kk Y H locs ls hY hP hD hS hl)
    next x r =>
      cases h
      intro Y H locs ls hY hP hD hS hl
      exact lv_ifnonnull hx hb hd ht (kk Y H locs ls hY hP hD hS hl)
    next => cases h
  | getfield i =>
    dsimp only at h hk
    obtain rfl : len = 3 := of_decide_eq_true hk
    split at h
    next k r =>
      split at h
      next a b hFi =>
        cases h
        obtain ⟨C, T, N, hC, hbN, hN, h4, h9, hin, hlk2⟩ := hF i a b hFi
        have hkd := hc.1
        intro Y H locs ls hY hP hD hS hl
        exact va_get hx hb hts hin hown hK hP k (q_at_o hkd h4 h9) hC b hbN (hts _ hlk2) (fun _ h9 => h9) (q_fs_at (hN ▸ hbN)) hd (kk Y H locs ls hY hP hD hS hl)
      next => cases h
    next => cases h
  | putfield i =>
    dsimp only at h hk
    obtain rfl : len = 3 := of_decide_eq_true hk
    split at h
    next v k r =>
      split at h
      next a b hFi =>
        split at h
        next cs2 x hun =>
          cases h
          obtain ⟨C, T, N, hC, hbN, hN, h4, h9, hin, hlk2⟩ := hF i a b hFi
          obtain ⟨hkd, hc2⟩ := hc
          obtain ⟨ty0, hty, hnm⟩ := q_ty_ok hC h4 h9
          obtain ⟨hv, hfin, ty, hpd, hn, hfit⟩ := q_un_ok (α := α) (β := β) (k := k) hun hc2 hC
          intro Y H locs ls hY hP hD hS hl
          refine va_put hx hb hts hin ty0 hty hnm hown hK hP hD hS k (q_at_o hkd h4 h9) hC b hbN (hts _ hlk2) (fun _ h9 => h9) hfin hpd hn hfit (by simpa using hN ▸ hbN) hd (fun H1 locs1 hP1 hD1 hS1 => ?_)
          rw [q_set_o hkd h4 h9 hv] at hP1 hD1
          exact kk Y H1 locs1 ls (hY.up (q_kd_out hkd (by omega) (by omega))) hP1 hD1 hS1 hl
        next => cases h
      next => cases h
    next => cases h
  | getstatic i =>
    dsimp only at h hk
    obtain rfl : len = 3 := of_decide_eq_true hk
    split at h
    next x hGi =>
      cases h
      obtain ⟨n, rfl, hn, hlk2⟩ := hG i x hGi
      intro Y H locs ls hY hP hD hS hl
      refine va_gets hx hb (q_stat hE hn) hS hown (hts _ hlk2) (fun _ h9 => h9) hd ?_
      have h1 := kk Y H locs ls hY hP hD hS hl
      have h2 : (q_e (nI n) :: st).map (q_cv α β) = .ref (β n) :: st.map (q_cv α β) := by
        show Value.ref (β (nI n).toUInt32.toNat) :: _ = _
        rw [q_nI_u n (by omega)]
      dsimp only at h1
      rw [h2] at h1
      exact h1
    next => cases h
  | iaload =>
    dsimp only at h hk
    obtain rfl : len = 1 := of_decide_eq_true hk
    split at h
    next i k r =>
      cases h
      intro Y H locs ls hY hP hD hS hl
      exact va_iald hx hb hK hP k 0 (q_at_i hc.1) rfl hc.2.1 hd (kk Y H locs ls hY hP hD hS hl)
    next => cases h
  | laload =>
    dsimp only at h
    cases h
  | daload =>
    dsimp only at h
    cases h
  | iastore =>
    dsimp only at h hk
    obtain rfl : len = 1 := of_decide_eq_true hk
    split at h
    next x i k r =>
      cases h
      intro Y H locs ls hY hP hD hS hl
      refine va_iast hx hb hK hP hD hS k 0 (q_at_i hc.1) rfl hc.2.1 hd (fun H1 locs1 hP1 hD1 hS1 => ?_)
      rw [q_set_i hc.1] at hP1 hD1
      exact kk Y H1 locs1 ls (hY.up (q_kd_out hc.1 (by omega) (by omega))) hP1 hD1 hS1 hl
    next => cases h
  | aaload =>
    dsimp only at h hk
    obtain rfl : len = 1 := of_decide_eq_true hk
    split at h
    next i k r =>
      cases hq : Nat.beq tg 30 with
      | true =>
        rw [hq] at h
        cases h
        intro Y H locs ls hY hP hD hS hl
        exact va_aldq hx hb hK hP k 2 (q_at_t hc.1) rfl hc.2.1 hd (kk Y H locs ls hY hP hD hS hl)
      | false =>
        rw [hq] at h
        cases h
        intro Y H locs ls hY hP hD hS hl
        exact va_aldq hx hb hK hP k 3 (q_at_r hc.1) rfl hc.2.1 hd (kk Y H locs ls hY hP hD hS hl)
    next => cases h
  | arraylength =>
    dsimp only at h hk
    obtain rfl : len = 1 := of_decide_eq_true hk
    split at h
    next k r =>
      cases hq : Nat.beq tg 30 with
      | true =>
        rw [hq] at h
        cases h
        intro Y H locs ls hY hP hD hS hl
        exact va_alen hx hb hK hP k 2 (q_at_t hc.1) rfl (v := 6) rfl hd (kk Y H locs ls hY hP hD hS hl)
      | false =>
        rw [hq] at h
        cases hq2 : Nat.beq tg 31 with
        | true =>
          rw [hq2] at h
          cases h
          intro Y H locs ls hY hP hD hS hl
          exact va_alen hx hb hK hP k 3 (q_at_r hc.1) rfl (v := 8) rfl hd (kk Y H locs ls hY hP hD hS hl)
        | false =>
          rw [hq2] at h
          cases h
          intro Y H locs ls hY hP hD hS hl
          exact va_alen hx hb hK hP k 0 (q_at_i hc.1) rfl (v := nI (q_len k)) rfl hd (kk Y H locs ls hY hP hD hS hl)
    next => cases h
  | _ => cases h
theorem q_b_ok (C : q_Cx α β D κ p s m args meth c cc own F G nL A) : ∀ (t : List q_E) (fl : List Bool) (pc : Nat) (S : q_S) (cs : List Prop) (pc1 : Nat) (S1 : q_S), (∀ z ∈ t, decode cc z.1 = .ok (z.2.1, z.2.2.1) ∧ q_ck nL z = true) → q_b F G t fl pc S = some (cs, pc1, S1) → q_all cs → q_St α β D κ p l e R s m args below meth c nL A Q n1 n2 S1.2.2 S1.1 pc1 S1.2.1 → q_St α β D κ p l e R s m args below meth c nL A Q n1 n2 S.2.2 S.1 pc S.2.1 := by
  intro t
  induction t with
  | nil =>
    intro fl pc S cs pc1 S1 _ h _ kk
    cases h
    exact kk
  | cons z t ih =>
    intro fl pc S cs pc1 S1 ht h hc kk
    unfold q_b at h
    cases hq : Nat.beq z.1 pc with
    | false =>
      rw [hq] at h
      cases h
    | true =>
      rw [hq] at h
      dsimp only [cond] at h
      have e := Nat.eq_of_beq_eq_true hq
      subst e
      split at h
      next cs1 pc2 S2 h1 =>
        split at h
        next cs2 r h2 =>
          cases h
          obtain ⟨c1, c2⟩ := q_all_app hc
          have h3 := ih _ _ _ _ _ _ (fun z hz => ht z (List.mem_cons_of_mem _ hz)) h2 c2 kk
          obtain ⟨g1, g2⟩ := ht z List.mem_cons_self
          exact q_1_ok C g1 g2 h1 c1 h3
        next => cases h
      next => cases h
/-- a stretch of a method, at once -/
theorem q_go (C : q_Cx α β D κ p s m args meth c cc own F G nL A) {tb : List q_E} (ht : q_tb cc nL tb = true) (rs : List (Nat × Nat)) (fl : List Bool) {pc : Nat} {σ : q_M} {lv : q_Lv} {st : List Value} {cs : List Prop} {pc1 : Nat} {σ1 : q_M} {lv1 : q_Lv} {st1 : List Value} (h : q_b F G (q_run tb rs) fl pc (lv, st, σ) = some (cs, pc1, lv1, st1, σ1)) (hc : q_all cs) (kk : q_St α β D κ p l e R s m args below meth c nL A Q n1 n2 σ1 lv1 pc1 st1) : q_St α β D κ p l e R s m args below meth c nL A Q n1 n2 σ lv pc st :=
  q_b_ok C _ fl pc (lv, st, σ) cs pc1 (lv1, st1, σ1) (fun z hz => q_tb_at ht (q_run_in hz)) h hc kk
end q08
