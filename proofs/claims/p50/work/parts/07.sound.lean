/-! The machine does what the pure function says. -/
theorem q_has_sub {ls : Array Slot} {nL : Nat} {l l' : List (Nat × Value)} (h : lv_has ls nL l) (hs : ∀ q ∈ l', q ∈ l) : lv_has ls nL l' := ⟨h.1, h.2.1, fun q hq => h.2.2 q (hs q hq)⟩
theorem q_cat (α β : Nat → Nat) (v : Value) : (q_cv α β v).category = v.category := by cases v <;> rfl
theorem q_lget_in {l : q_Lv} {i : Nat} {v : Value} (h : q_lget l i = some v) : (i, v) ∈ l := by
  induction l with
  | nil => cases h
  | cons q t ih =>
    unfold q_lget at h
    cases hb : Nat.beq q.1 i with
    | true =>
      rw [hb] at h
      have e := Nat.eq_of_beq_eq_true hb
      cases h
      rw [← e]
      exact List.mem_cons_self
    | false =>
      rw [hb] at h
      exact List.mem_cons_of_mem _ (ih h)
abbrev q_lm (α β : Nat → Nat) (l : q_Lv) : q_Lv := l.map (fun q => (q.1, q_cv α β q.2))
theorem q_lget_has {α β : Nat → Nat} {ls : Array Slot} {nL : Nat} {l : q_Lv} {i : Nat} {v : Value} (hl : lv_has ls nL (q_lm α β l)) (h : q_lget l i = some v) : ls[i]? = some (.val (q_cv α β v)) :=
  hl.2.2 (i, q_cv α β v) (List.mem_map.mpr ⟨(i, v), q_lget_in h, rfl⟩)
theorem q_ldel_in {l : q_Lv} {i : Nat} {q : Nat × Value} (h : q ∈ q_ldel l i) : q ∈ l ∧ ¬ q.1 = i ∧ ¬ (q.1 + 1 = i ∧ q.2.category = 2) := by
  induction l with
  | nil => cases h
  | cons z t ih =>
    unfold q_ldel at h
    cases hb : (Nat.beq z.1 i || (Nat.beq (z.1 + 1) i && Nat.beq z.2.category 2)) with
    | true =>
      rw [hb] at h
      obtain ⟨a, b⟩ := ih h
      exact ⟨List.mem_cons_of_mem _ a, b⟩
    | false =>
      rw [hb] at h
      rcases List.mem_cons.mp h with rfl | h
      · refine ⟨List.mem_cons_self, ?_, ?_⟩
        · intro e
          rw [e, Nat.beq_refl] at hb
          cases hb
        · rintro ⟨e1, e2⟩
          rw [e1, e2, Nat.beq_refl, Nat.beq_refl] at hb
          simp at hb
      · obtain ⟨a, b⟩ := ih h
        exact ⟨List.mem_cons_of_mem _ a, b⟩
theorem q_lset_has {α β : Nat → Nat} {ls : Array Slot} {nL : Nat} {l : q_Lv} {i : Nat} {v : Value} (h : lv_has ls nL ((i, q_cv α β v) :: (q_lm α β l).filter (fun q => !(q.1 == i) && !(q.1 + 1 == i && q.2.category == 2)))) : lv_has ls nL (q_lm α β (q_lset l i v)) := by
  refine q_has_sub h (fun q hq => ?_)
  obtain ⟨z, hz, rfl⟩ := List.mem_map.mp hq
  rcases List.mem_cons.mp hz with rfl | hz
  · exact List.mem_cons_self
  · obtain ⟨a, b, c⟩ := q_ldel_in hz
    refine List.mem_cons_of_mem _ (List.mem_filter.mpr ⟨List.mem_map.mpr ⟨z, a, rfl⟩, ?_⟩)
    simp only [q_cat]
    have h1 : (z.1 == i) = false := by simpa using b
    rw [h1]
    simp only [Bool.not_false, Bool.true_and, Bool.not_eq_true', Bool.and_eq_false_iff, beq_eq_false_iff_ne, ne_eq]
    by_cases e : z.1 + 1 = i
    · exact Or.inr (fun q => c ⟨e, q⟩)
    · exact Or.inl e
/-- a text that is hidden in the world -/
def q_Y1 (σ : q_M) (Y : q_H) (k : Nat) : Prop := ∃ (n : Nat) (t : Nat → Nat), σ (k - 2) 3 = nI n ∧ (∀ j, j < n → σ k j = nI (t j)) ∧ n ≤ (Y k).2.1 ∧ (Y k).2.1 ≤ 65536 ∧ sb_Lat t n (Y k).2.2.1 ∧ sb_Fit (Y k).2.2.1
def q_Yok (σ : q_M) (Y : q_H) : Prop := q_Y1 σ Y 227 ∧ q_Y1 σ Y 228
theorem q_Yok.to {σ σ' : q_M} {Y : q_H} (h : q_Yok σ Y) (h5 : σ' 225 = σ 225) (h6 : σ' 226 = σ 226) (h7 : σ' 227 = σ 227) (h8 : σ' 228 = σ 228) : q_Yok σ' Y := by
  unfold q_Yok q_Y1 at h ⊢
  rw [show (227 : Nat) - 2 = 225 from rfl, show (228 : Nat) - 2 = 226 from rfl] at h ⊢
  rw [h5, h6, h7, h8]
  exact h
theorem q_Yok.up {σ : q_M} {Y : q_H} {k j : Nat} {v : Int32} (h : q_Yok σ Y) (hk : k < 225 ∨ 228 < k) : q_Yok (q_up σ k j v) Y := h.to (q_up_off (by omega)) (q_up_off (by omega)) (q_up_off (by omega)) (q_up_off (by omega))
theorem q_kd_out {k c : Nat} (h : q_kd k = c) (h1 : c ≠ 1) (h2 : c ≠ 22) : k < 225 ∨ 228 < k := by
  rcases (show k < 225 ∨ 228 < k ∨ k = 225 ∨ k = 226 ∨ k = 227 ∨ k = 228 by omega) with q | q | rfl | rfl | rfl | rfl
  · exact Or.inl q
  · exact Or.inr q
  · exact absurd h.symm h1
  · exact absurd h.symm h1
  · exact absurd h.symm h2
  · exact absurd h.symm h2
/-- a class's field references, and its static constants -/
def q_Fok (own : String) (F : Nat → Option (Nat × Nat)) : Prop := ∀ i a b, F i = some (a, b) → ∃ (C : String) (T : u_T) (N : Nat), vwCl[a]? = some (C, T, N) ∧ b < N ∧ N = q_nf a ∧ 4 ≤ a ∧ a ≤ 9 ∧ (∀ w ∈ u_ws C T N, w ∈ q_W) ∧ Cond.fieldLink own i (T b).1 (T b).2.1 (T b).2.2.1 ∈ q_W
def q_gn (n : Nat) : String × String × String := if n < 5 then (RX5, q_nS.getD n "", "LQuillRelay$Stage;") else if n < 15 then (RX1, q_nF.getD (n - 10) "", "LQuillRelay$Fault;") else (RX7, q_nV.getD (n - 20) "", "LQuillRelay$Verb;")
def q_Gok (own : String) (G : Nat → Option Int32) : Prop := ∀ i x, G i = some x → ∃ n, x = nI n ∧ (n < 5 ∨ (10 ≤ n ∧ n < 15) ∨ (20 ≤ n ∧ n < 28)) ∧ Cond.fieldLink own i (q_gn n).1 (q_gn n).2.1 (q_gn n).2.2 ∈ q_W
/-- what holds all along a method -/
def q_Cx (α β : Nat → Nat) (D : va_G) (κ : Nat → ClassId) (p : Program) (s : State) (m : MethodId) (args : Array Value) (meth : Method) (c : Code) (cc : ByteArray) (own : String) (F : Nat → Option (Nat × Nat)) (G : Nat → Option Int32) (nL : Nat) (A : Nat → Prop) : Prop :=
  p.tables.exec = Jvm.exec ∧ c.code = cc ∧ c.maxLocals = nL ∧ s.vm.findClass own = some m.cls ∧ (∀ w ∈ q_W, w.before args s = true) ∧ va_K D vwCl (q_tys κ) s ∧ q_EF α β A s s.heap ∧ (∀ q : Nat, s.heap.size ≤ q → A q) ∧ meth.locks = false ∧ q_Fok own F ∧ q_Gok own G
/-- a state of a method -/
def q_St (α β : Nat → Nat) (D : va_G) (κ : Nat → ClassId) (p : Program) (l : Launch) (e : Env) (R : Room) (s : State) (m : MethodId) (args : Array Value) (below : List Frame) (meth : Method) (c : Code) (nL : Nat) (A : Nat → Prop) (Q : State → Prop) (n1 n2 : Nat) (σ : q_M) (lv : q_Lv) (pc : Nat) (st : List Value) : Prop :=
  ∀ (Y : q_H) (H : Heap) (locs : List Loc) (ls : Array Slot), q_Yok σ Y → va_P D vwCl (q_ws α β κ Y σ) H → va_D A (q_ws α β κ Y σ) → va_S A s.heap H locs → lv_has ls nL (q_lm α β lv) →
    W p l e R s m args below meth c H locs n1 n2 Q (F0 m pc ls (st.map (q_cv α β)))
section q07
variable {α β : Nat → Nat} {D : va_G} {κ : Nat → ClassId} {p : Program} {l : Launch} {e : Env} {R : Room} {s : State} {m : MethodId} {args : Array Value} {below : List Frame} {meth : Method} {c : Code} {cc : ByteArray} {own : String} {F : Nat → Option (Nat × Nat)} {G : Nat → Option Int32} {nL : Nat} {A : Nat → Prop} {Q : State → Prop} {n1 n2 : Nat}
theorem q_st_i {α β : Nat → Nat} {st : List Value} {x : Int32} : (Value.int x :: st).map (q_cv α β) = Value.int x :: st.map (q_cv α β) := rfl
theorem q_nI_u : ∀ n, n < 28 → (nI n).toUInt32.toNat = n := by decide +kernel
theorem q_ge {x y : Int32} : y ≤ x ↔ ¬ x < y := by rw [Int32.le_iff_toInt_le, Int32.lt_iff_toInt_lt]; omega
theorem q_zb {x : Int32} (h : x = 0 ∨ x = 1) : narrow .boolean (.int x) = .int x ∧ fits .boolean (.int x) = true := by
  rcases h with rfl | rfl <;> decide +kernel
theorem q_all_1 {p : Prop} (h : q_all [p]) : p := h.1
/-- a field's type, and that what q_un takes may be stored in it -/
theorem q_un_ok {α β : Nat → Nat} {a b k : Nat} {v : Value} {cs : List Prop} {x : Int32} (h : q_un a b v = some (cs, x)) (hc : q_all cs) {C : String} {T : u_T} {N : Nat} (hC : vwCl[a]? = some (C, T, N)) :
    q_cv α β (q_fw a b k x) = q_cv α β v ∧ (T b).2.2.2 = false ∧ ∃ ty : FieldType, parseFieldDescriptor (T b).2.2.1 = some ty ∧ narrow ty (q_cv α β v) = q_cv α β v ∧ fits ty (q_cv α β v) = true := by
  unfold q_un at h
  split at h <;> first
    | (cases h; cases hC; exact ⟨rfl, rfl, .int, by decide +kernel, rfl, rfl⟩)
    | (cases h; cases hC; exact ⟨rfl, rfl, .object "QuillRelay$Stage", by decide +kernel, rfl, rfl⟩)
    | (cases h; cases hC; exact ⟨rfl, rfl, .object "QuillRelay$Verb", by decide +kernel, rfl, rfl⟩)
    | (cases h; cases hC; exact ⟨rfl, rfl, .boolean, by decide +kernel, (q_zb (q_all_1 hc)).1, (q_zb (q_all_1 hc)).2⟩)
    | (cases h; done)
theorem q_ty_ok {a : Nat} {C : String} {T : u_T} {N : Nat} (hC : vwCl[a]? = some (C, T, N)) (h4 : 4 ≤ a) (h9 : a ≤ 9) : ∃ ty0 : Nat → FieldType, (∀ k, k < N → parseFieldDescriptor (T k).2.2.1 = some (ty0 k)) ∧ (∀ a, a < N → ∀ b, b < N → a ≠ b → (T a).2.1 ≠ (T b).2.1) := by
  rcases (show a = 4 ∨ a = 5 ∨ a = 6 ∨ a = 7 ∨ a = 8 ∨ a = 9 by omega) with rfl | rfl | rfl | rfl | rfl | rfl <;> cases hC
  · exact ⟨tyX2, tyX2_ok, nmX2⟩
  · exact ⟨tyX3, tyX3_ok, nmX3⟩
  · exact ⟨tyX4, tyX4_ok, nmX4⟩
  · exact ⟨tyX6, tyX6_ok, nmX6⟩
  · exact ⟨tyX8, tyX8_ok, nmX8⟩
end q07
