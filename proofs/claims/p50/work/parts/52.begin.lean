/-! The first memory: the cells that the start has made, in the numbering's order. -/
theorem c_sk {l1 l2 : va_W} {n : Nat} (h : l1.length = n) (i : Nat) : (l1 ++ l2)[n + i]? = l2[i]? := by
  rw [List.getElem?_append_right (by omega), h, Nat.add_sub_cancel_left]
theorem c_tk {l1 l2 : va_W} {i n : Nat} (h : l1.length = n) (hi : i < n) : (l1 ++ l2)[i]? = l1[i]? := List.getElem?_append_left (by omega)
def c_ix (k : Nat) : Nat := if k < 60 then k + 1 else if k < 220 then k + 3 else match k with | 220 => 0 | 221 => 61 | 222 => 62 | 225 => 224 | 227 => 225 | 224 => 226 | 226 => 227 | k => k
def c_jx (k : Nat) : Nat := if k = 0 then 220 else if k < 61 then k - 1 else if k < 63 then k + 160 else if k < 223 then k - 3 else match k with | 224 => 225 | 225 => 227 | 226 => 224 | 227 => 226 | k => k
theorem c_ji : ∀ k, k < 229 → c_jx (c_ix k) = k := by decide +kernel
theorem c_len {β : Nat → Nat} {κ : Nat → ClassId} {a : Nat → Nat} : (c_rb β κ a).length = 20 := by simp [c_rb]
theorem c_rb_at {β : Nat → Nat} {κ : Nat → ClassId} {a : Nat → Nat} {i : Nat} (h : i < 20) : (c_rb β κ a)[i]? = some (a i, q_pc a β κ q_Y0 i (q_s0 i)) := by simp [c_rb, h]
theorem c_get {x0 y1 y2 : Nat × va_E} {R : Nat → va_W} {T : va_W} (hR : ∀ r, (R r).length = 20) (r i : Nat) (hr : r < 11) (hi : i < 20) : ([x0] ++ (R 0 ++ (R 1 ++ (R 2 ++ ([y1, y2] ++ (R 3 ++ (R 4 ++ (R 5 ++ (R 6 ++ (R 7 ++ (R 8 ++ (R 9 ++ (R 10 ++ T)))))))))))))[c_ix (20 * r + i)]? = (R r)[i]? := by
  have e : c_ix (20 * r + i) = if r < 3 then 20 * r + i + 1 else 20 * r + i + 3 := by
    unfold c_ix
    by_cases h : r < 3
    · rw [if_pos (by omega), if_pos h]
    · rw [if_neg (by omega), if_pos (by omega), if_neg h]
  rw [e]
  rcases (show r = 0 ∨ r = 1 ∨ r = 2 ∨ r = 3 ∨ r = 4 ∨ r = 5 ∨ r = 6 ∨ r = 7 ∨ r = 8 ∨ r = 9 ∨ r = 10 by omega) with rfl | rfl | rfl | rfl | rfl | rfl | rfl | rfl | rfl | rfl | rfl
  · rw [show (if 0 < 3 then 20 * 0 + i + 1 else 20 * 0 + i + 3) = 1 + i by simp; omega]
    exact (c_sk rfl _).trans (c_tk (hR 0) hi)
  · rw [show (if 1 < 3 then 20 * 1 + i + 1 else 20 * 1 + i + 3) = 1 + (20 + i) by simp; omega]
    exact (c_sk rfl _).trans ((c_sk (hR 0) _).trans (c_tk (hR 1) hi))
  · rw [show (if 2 < 3 then 20 * 2 + i + 1 else 20 * 2 + i + 3) = 1 + (20 + (20 + i)) by simp; omega]
    exact (c_sk rfl _).trans ((c_sk (hR 0) _).trans ((c_sk (hR 1) _).trans (c_tk (hR 2) hi)))
  · rw [show (if 3 < 3 then 20 * 3 + i + 1 else 20 * 3 + i + 3) = 1 + (20 + (20 + (20 + (2 + i)))) by simp; omega]
    exact (c_sk rfl _).trans ((c_sk (hR 0) _).trans ((c_sk (hR 1) _).trans ((c_sk (hR 2) _).trans ((c_sk rfl _).trans (c_tk (hR 3) hi)))))
  · rw [show (if 4 < 3 then 20 * 4 + i + 1 else 20 * 4 + i + 3) = 1 + (20 + (20 + (20 + (2 + (20 + i))))) by simp; omega]
    exact (c_sk rfl _).trans ((c_sk (hR 0) _).trans ((c_sk (hR 1) _).trans ((c_sk (hR 2) _).trans ((c_sk rfl _).trans ((c_sk (hR 3) _).trans (c_tk (hR 4) hi))))))
  · rw [show (if 5 < 3 then 20 * 5 + i + 1 else 20 * 5 + i + 3) = 1 + (20 + (20 + (20 + (2 + (20 + (20 + i)))))) by simp; omega]
    exact (c_sk rfl _).trans ((c_sk (hR 0) _).trans ((c_sk (hR 1) _).trans ((c_sk (hR 2) _).trans ((c_sk rfl _).trans ((c_sk (hR 3) _).trans ((c_sk (hR 4) _).trans (c_tk (hR 5) hi)))))))
  · rw [show (if 6 < 3 then 20 * 6 + i + 1 else 20 * 6 + i + 3) = 1 + (20 + (20 + (20 + (2 + (20 + (20 + (20 + i))))))) by simp; omega]
    exact (c_sk rfl _).trans ((c_sk (hR 0) _).trans ((c_sk (hR 1) _).trans ((c_sk (hR 2) _).trans ((c_sk rfl _).trans ((c_sk (hR 3) _).trans ((c_sk (hR 4) _).trans ((c_sk (hR 5) _).trans (c_tk (hR 6) hi))))))))
  · rw [show (if 7 < 3 then 20 * 7 + i + 1 else 20 * 7 + i + 3) = 1 + (20 + (20 + (20 + (2 + (20 + (20 + (20 + (20 + i)))))))) by simp; omega]
    exact (c_sk rfl _).trans ((c_sk (hR 0) _).trans ((c_sk (hR 1) _).trans ((c_sk (hR 2) _).trans ((c_sk rfl _).trans ((c_sk (hR 3) _).trans ((c_sk (hR 4) _).trans ((c_sk (hR 5) _).trans ((c_sk (hR 6) _).trans (c_tk (hR 7) hi)))))))))
  · rw [show (if 8 < 3 then 20 * 8 + i + 1 else 20 * 8 + i + 3) = 1 + (20 + (20 + (20 + (2 + (20 + (20 + (20 + (20 + (20 + i))))))))) by simp; omega]
    exact (c_sk rfl _).trans ((c_sk (hR 0) _).trans ((c_sk (hR 1) _).trans ((c_sk (hR 2) _).trans ((c_sk rfl _).trans ((c_sk (hR 3) _).trans ((c_sk (hR 4) _).trans ((c_sk (hR 5) _).trans ((c_sk (hR 6) _).trans ((c_sk (hR 7) _).trans (c_tk (hR 8) hi))))))))))
  · rw [show (if 9 < 3 then 20 * 9 + i + 1 else 20 * 9 + i + 3) = 1 + (20 + (20 + (20 + (2 + (20 + (20 + (20 + (20 + (20 + (20 + i)))))))))) by simp; omega]
    exact (c_sk rfl _).trans ((c_sk (hR 0) _).trans ((c_sk (hR 1) _).trans ((c_sk (hR 2) _).trans ((c_sk rfl _).trans ((c_sk (hR 3) _).trans ((c_sk (hR 4) _).trans ((c_sk (hR 5) _).trans ((c_sk (hR 6) _).trans ((c_sk (hR 7) _).trans ((c_sk (hR 8) _).trans (c_tk (hR 9) hi)))))))))))
  · rw [show (if 10 < 3 then 20 * 10 + i + 1 else 20 * 10 + i + 3) = 1 + (20 + (20 + (20 + (2 + (20 + (20 + (20 + (20 + (20 + (20 + (20 + i))))))))))) by simp; omega]
    exact (c_sk rfl _).trans ((c_sk (hR 0) _).trans ((c_sk (hR 1) _).trans ((c_sk (hR 2) _).trans ((c_sk rfl _).trans ((c_sk (hR 3) _).trans ((c_sk (hR 4) _).trans ((c_sk (hR 5) _).trans ((c_sk (hR 6) _).trans ((c_sk (hR 7) _).trans ((c_sk (hR 8) _).trans ((c_sk (hR 9) _).trans (c_tk (hR 10) hi))))))))))))
theorem c_kd {r i : Nat} (hr : r < 11) (hi : i < 20) : q_kd (20 * r + i) = q_kd i ∧ q_s0 (20 * r + i) = q_s0 i := by
  have e : (20 * r + i) % 20 = i % 20 := by omega
  constructor
  · unfold q_kd
    rw [if_pos (show 20 * r + i < 220 by omega), if_pos (show i < 220 by omega), e]
  · funext j
    unfold q_s0
    rw [if_pos (show 20 * r + i < 220 by omega), if_pos (show i < 220 by omega), e]
/-- a race's cell under the whole numbering -/
theorem c_race {α β : Nat → Nat} {D : va_G} {κ : Nat → ClassId} {Y : q_H} {a : Nat → Nat} {r : Nat} {x : Nat} {H : Heap} (hr : r < 11) (ha : ∀ i, i < 20 → α (20 * r + i) = a i) (i : Nat) (hi : i < 20) (h : va_at D vwCl (x, q_pc a β κ q_Y0 i (q_s0 i)) H) : va_at D vwCl (x, q_pc α β κ Y (20 * r + i) (q_s0 (20 * r + i))) H := by
  obtain ⟨e1, e2⟩ := c_kd hr hi
  rw [e2]
  have h20 : ∀ k, k < 20 → q_kd k = 20 → q_len (20 * r + k) = q_len k := fun k hk _ => by unfold q_len; rw [if_pos (by omega), if_pos (by omega)]
  by_cases k20 : q_kd i = 20
  · rw [q_pc_i (e1.trans k20), h20 i hi k20]
    rw [q_pc_i k20] at h
    exact h
  · by_cases k0 : i = 0
    · subst k0
      rw [q_pc_o (e1.trans (show q_kd 0 = 6 from rfl)) (by omega) (by omega)]
      rw [q_pc_o (show q_kd 0 = 6 from rfl) (by omega) (by omega)] at h
      have e : (List.range (q_nf 6)).map (fun j => q_cv α β (q_fw 6 j (20 * r + 0) (q_s0 0 j))) = (List.range (q_nf 6)).map (fun j => q_cv a β (q_fw 6 j 0 (q_s0 0 j))) := by
        refine List.map_congr_left fun j hj => ?_
        have hj4 : j < 4 := List.mem_range.mp hj
        rcases (show j = 0 ∨ j = 1 ∨ j = 2 ∨ j = 3 by omega) with rfl | rfl | rfl | rfl
        · exact congrArg Value.ref (ha 1 (by omega))
        · rfl
        · rfl
        · rfl
      rw [e]
      exact h
    · by_cases k1 : i = 1
      · subst k1
        rw [q_pc_t (e1.trans (show q_kd 1 = 30 from rfl))]
        rw [q_pc_t (show q_kd 1 = 30 from rfl)] at h
        refine c_atq (fun j hj => ?_) h
        show some (a (1 + 1 + 3 * j)) = some (α (20 * r + 1 + 1 + 3 * j))
        rw [← ha (1 + 1 + 3 * j) (by omega)]
        exact congrArg (fun z => some (α z)) (by omega)
      · have k7 : q_kd i = 7 := by
          unfold q_kd at k20 ⊢
          rw [if_pos (by omega), if_neg (by omega), if_neg (by omega)] at k20 ⊢
          by_cases z : i % 20 % 3 = 2
          · rw [if_pos z]
          · rw [if_neg z] at k20
            exact absurd rfl k20
        have hi2 : i + 2 < 20 := by
          unfold q_kd at k7
          rw [Nat.mod_eq_of_lt hi, if_pos (by omega), if_neg (by omega), if_neg (by omega)] at k7
          by_cases z : i % 3 = 2
          · omega
          · rw [if_neg z] at k7; cases k7
        rw [q_pc_o (e1.trans k7) (by omega) (by omega)]
        rw [q_pc_o k7 (by omega) (by omega)] at h
        have e : (List.range (q_nf 7)).map (fun j => q_cv α β (q_fw 7 j (20 * r + i) (q_s0 i j))) = (List.range (q_nf 7)).map (fun j => q_cv a β (q_fw 7 j i (q_s0 i j))) := by
          refine List.map_congr_left fun j hj => ?_
          have hj4 : j < 14 := List.mem_range.mp hj
          rcases (show j = 0 ∨ j = 1 ∨ j = 2 ∨ j = 3 ∨ j = 4 ∨ j = 5 ∨ j = 6 ∨ j = 7 ∨ j = 8 ∨ j = 9 ∨ j = 10 ∨ j = 11 ∨ j = 12 ∨ j = 13 by omega) with rfl | rfl | rfl | rfl | rfl | rfl | rfl | rfl | rfl | rfl | rfl | rfl | rfl | rfl
          · rfl
          · exact congrArg Value.ref (ha (i + 1) (by omega))
          · exact congrArg Value.ref (ha (i + 2) (by omega))
          all_goals rfl
        rw [e]
        exact h
def c_al (a : Nat → Nat → Nat) (g : Nat → Nat) (α0 : Nat → Nat) : Nat → Nat := fun k => if k < 220 then a (k / 20) (k % 20) else if k < 229 then g k else α0 k
def c_Y (g : Nat → Nat) : q_H := fun k => if k = 227 then (g 227, 16, fun _ => 0, 0) else (g 228, 16, fun _ => 0, 0)
abbrev c_w (β : Nat → Nat) (κ : Nat → ClassId) (a : Nat → Nat → Nat) (g : Nat → Nat) : va_W := [] ++ c_qb β κ a g
abbrev c_T (β : Nat → Nat) (κ : Nat → ClassId) (g : Nat → Nat) : va_W := c_pb β κ (g 223) (g 225) (g 227) (g 224) ++ c_sb κ (g 226) (g 228)
theorem c_nest {β : Nat → Nat} {κ : Nat → ClassId} {a : Nat → Nat → Nat} {g : Nat → Nat} : c_w β κ a g = [(g 220, .inr (8, c_fs β a g))] ++ (c_rb β κ (a 0) ++ (c_rb β κ (a 1) ++ (c_rb β κ (a 2) ++ ([(g 221, .inr (4, [.ref (g 222), .int 0, .int 0])), (g 222, .inl (κ 5, 8, .inr (.inr (.inr (.inr (fun i => some (a (i + 3) 0)))))))] ++ (c_rb β κ (a 3) ++ (c_rb β κ (a 4) ++ (c_rb β κ (a 5) ++ (c_rb β κ (a 6) ++ (c_rb β κ (a 7) ++ (c_rb β κ (a 8) ++ (c_rb β κ (a 9) ++ (c_rb β κ (a 10) ++ c_T β κ g)))))))))))) := by
  unfold c_w c_qb c_hb c_T
  simp only [List.append_assoc, List.nil_append]
theorem c_get2 {x0 y1 y2 : Nat × va_E} {R : Nat → va_W} {T : va_W} (hR : ∀ r, (R r).length = 20) (i : Nat) (hi : i < 2) : ([x0] ++ (R 0 ++ (R 1 ++ (R 2 ++ ([y1, y2] ++ (R 3 ++ (R 4 ++ (R 5 ++ (R 6 ++ (R 7 ++ (R 8 ++ (R 9 ++ (R 10 ++ T)))))))))))))[61 + i]? = [y1, y2][i]? := by
  rw [show 61 + i = 1 + (20 + (20 + (20 + i))) by omega]
  exact (c_sk rfl _).trans ((c_sk (hR 0) _).trans ((c_sk (hR 1) _).trans ((c_sk (hR 2) _).trans (c_tk (n := 2) rfl hi))))
theorem c_get3 {x0 y1 y2 : Nat × va_E} {R : Nat → va_W} {T : va_W} (hR : ∀ r, (R r).length = 20) (i : Nat) : ([x0] ++ (R 0 ++ (R 1 ++ (R 2 ++ ([y1, y2] ++ (R 3 ++ (R 4 ++ (R 5 ++ (R 6 ++ (R 7 ++ (R 8 ++ (R 9 ++ (R 10 ++ T)))))))))))))[223 + i]? = T[i]? := by
  rw [show 223 + i = 1 + (20 + (20 + (20 + (2 + (20 + (20 + (20 + (20 + (20 + (20 + (20 + (20 + i)))))))))))) by omega]
  exact (c_sk rfl _).trans ((c_sk (hR 0) _).trans ((c_sk (hR 1) _).trans ((c_sk (hR 2) _).trans ((c_sk rfl _).trans ((c_sk (hR 3) _).trans ((c_sk (hR 4) _).trans ((c_sk (hR 5) _).trans ((c_sk (hR 6) _).trans ((c_sk (hR 7) _).trans ((c_sk (hR 8) _).trans ((c_sk (hR 9) _).trans (c_sk (hR 10) _))))))))))))
set_option maxRecDepth 100000 in
set_option maxHeartbeats 4000000 in
theorem c_place {α0 β : Nat → Nat} {D : va_G} {κ : Nat → ClassId} {a : Nat → Nat → Nat} {g : Nat → Nat} {H : Heap} (k : Nat) (hk : k < 229) : ∃ x, (c_w β κ a g)[c_ix k]? = some (q_ad (c_al a g α0) (c_Y g) k, x) ∧ (va_at D vwCl (q_ad (c_al a g α0) (c_Y g) k, x) H → va_at D vwCl (q_ad (c_al a g α0) (c_Y g) k, q_pc (c_al a g α0) β κ (c_Y g) k (q_s0 k)) H) := by
  by_cases h : k < 220
  · obtain ⟨r, i, hr, hi, rfl⟩ : ∃ r i, r < 11 ∧ i < 20 ∧ k = 20 * r + i := ⟨k / 20, k % 20, by omega, by omega, by omega⟩
    have hal : ∀ j, j < 20 → c_al a g α0 (20 * r + j) = a r j := fun j hj => by
      unfold c_al
      rw [if_pos (by omega), show (20 * r + j) / 20 = r by omega, show (20 * r + j) % 20 = j by omega]
    have had : q_ad (c_al a g α0) (c_Y g) (20 * r + i) = a r i := by
      unfold q_ad
      rw [if_neg (by omega), hal i hi]
    rw [had]
    refine ⟨q_pc (a r) β κ q_Y0 i (q_s0 i), ?_, fun h9 => c_race hr hal i hi h9⟩
    rw [c_nest]
    exact (c_get (R := fun r => c_rb β κ (a r)) (fun _ => c_len) r i hr hi).trans (c_rb_at hi)
  · rw [c_nest]
    have g2 := c_get2 (x0 := (g 220, .inr (8, c_fs β a g))) (y1 := (g 221, .inr (4, [.ref (g 222), .int 0, .int 0]))) (y2 := (g 222, .inl (κ 5, 8, .inr (.inr (.inr (.inr (fun i => some (a (i + 3) 0)))))))) (R := fun r => c_rb β κ (a r)) (T := c_T β κ g) (fun _ => c_len)
    have g3 := c_get3 (x0 := (g 220, .inr (8, c_fs β a g))) (y1 := (g 221, .inr (4, [.ref (g 222), .int 0, .int 0]))) (y2 := (g 222, .inl (κ 5, 8, .inr (.inr (.inr (.inr (fun i => some (a (i + 3) 0)))))))) (R := fun r => c_rb β κ (a r)) (T := c_T β κ g) (fun _ => c_len)
    have h9 : k - 220 < 9 := by omega
    rcases (show k = 220 ∨ k = 221 ∨ k = 222 ∨ k = 223 ∨ k = 224 ∨ k = 225 ∨ k = 226 ∨ k = 227 ∨ k = 228 by omega) with rfl | rfl | rfl | rfl | rfl | rfl | rfl | rfl | rfl
    · exact ⟨_, rfl, fun h => h⟩
    · exact ⟨_, (g2 0 (by decide)).trans rfl, fun h => h⟩
    · refine ⟨_, (g2 1 (by decide)).trans rfl, fun h => c_atq (fun j hj => ?_) h⟩
      rcases (show j = 0 ∨ j = 1 ∨ j = 2 ∨ j = 3 ∨ j = 4 ∨ j = 5 ∨ j = 6 ∨ j = 7 by omega) with rfl | rfl | rfl | rfl | rfl | rfl | rfl | rfl <;> rfl
    · exact ⟨_, (g3 0).trans rfl, fun h => h⟩
    · exact ⟨_, (g3 3).trans rfl, fun h => h⟩
    · exact ⟨_, (g3 1).trans rfl, fun h => h⟩
    · exact ⟨_, (g3 4).trans rfl, fun h => h⟩
    · exact ⟨_, (g3 2).trans rfl, fun h => h⟩
    · exact ⟨_, (g3 5).trans rfl, fun h => h⟩
theorem c_PD {α0 β : Nat → Nat} {D : va_G} {κ : Nat → ClassId} {a : Nat → Nat → Nat} {g : Nat → Nat} {H : Heap} {A : Nat → Prop} (h329 : α0 329 = 0) (hP : va_P D vwCl (c_w β κ a g) H) (hD : va_D A (c_w β κ a g)) : va_P D vwCl (q_ws (c_al a g α0) β κ (c_Y g) q_s0) H ∧ va_D A (q_ws (c_al a g α0) β κ (c_Y g) q_s0) := by
  have key : ∀ (k : Nat) (q : Nat × va_E), (q_ws (c_al a g α0) β κ (c_Y g) q_s0)[k]? = some q → k < 229 ∧ q = (q_ad (c_al a g α0) (c_Y g) k, q_pc (c_al a g α0) β κ (c_Y g) k (q_s0 k)) := by
    intro k q hq
    have hk : k < 229 := by
      have := (List.getElem?_eq_some_iff.mp hq).1
      rw [q_ws_len] at this
      unfold q_N c_al at this
      rw [if_neg (by decide), if_neg (by decide), h329] at this
      exact this
    rw [q_ws_at hk] at hq
    exact ⟨hk, (Option.some.inj hq).symm⟩
  refine ⟨fun k q hq => ?_, fun i j p q hi hj e => ?_, fun k q hq => ?_⟩
  · obtain ⟨hk, rfl⟩ := key k q hq
    obtain ⟨x, h1, h2⟩ := c_place (α0 := α0) (β := β) (D := D) (κ := κ) (a := a) (g := g) (H := H) k hk
    exact h2 (hP _ _ h1)
  · obtain ⟨hi9, rfl⟩ := key i p hi
    obtain ⟨hj9, rfl⟩ := key j q hj
    obtain ⟨x, h1, -⟩ := c_place (α0 := α0) (β := β) (D := D) (κ := κ) (a := a) (g := g) (H := H) i hi9
    obtain ⟨y, h3, -⟩ := c_place (α0 := α0) (β := β) (D := D) (κ := κ) (a := a) (g := g) (H := H) j hj9
    have := hD.1 _ _ _ _ h1 h3 e
    rw [← c_ji i hi9, ← c_ji j hj9, this]
  · obtain ⟨hk, rfl⟩ := key k q hq
    obtain ⟨x, h1, -⟩ := c_place (α0 := α0) (β := β) (D := D) (κ := κ) (a := a) (g := g) (H := H) k hk
    exact hD.2 _ (_, x) h1
theorem c_Yok {g : Nat → Nat} : q_Yok q_s0 (c_Y g) := by
  refine ⟨⟨0, fun _ => 0, rfl, fun j hj => (by omega), Nat.zero_le _, ?_, ?_, ?_⟩, ⟨0, fun _ => 0, rfl, fun j hj => (by omega), Nat.zero_le _, ?_, ?_, ?_⟩⟩
  · show 16 ≤ 65536
    decide
  · intro j hj
    exact absurd hj (by omega)
  · intro j
    show fits FieldType.byte (Value.int 0) = true
    decide
  · show 16 ≤ 65536
    decide
  · intro j hj
    exact absurd hj (by omega)
  · intro j
    show fits FieldType.byte (Value.int 0) = true
    decide

