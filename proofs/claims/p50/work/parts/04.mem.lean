/-! The memory: ints by (place, slot). 20 r .. 20 r + 19: race r (0 the race, 1 before, 2 the snapshot, 3 to 10 the history's rows); 220 the QuillRelay, 221 its history, 222 the rows, 223 the program, 224 its arguments, 225 its text, 226 the banner, 227 and 228 their bytes; behind them the rows that the law has made, 130 ints each: 229 + j, j < α 329. -/
abbrev q_M : Type := Nat → Nat → Int32
def q_up (σ : q_M) (k j : Nat) (v : Int32) : q_M := fun a b => bif (Nat.beq b j && Nat.beq a k) then v else σ a b
theorem q_up_eq (σ : q_M) (k j : Nat) (v : Int32) : q_up σ k j v k j = v := by simp [q_up]
theorem q_up_nk {σ : q_M} {k j a b : Nat} {v : Int32} (h : a ≠ k) : q_up σ k j v a b = σ a b := by
  have e : Nat.beq a k = false := by
    cases hb : Nat.beq a k with
    | true => exact absurd (Nat.eq_of_beq_eq_true hb) h
    | false => rfl
  simp [q_up, e]
theorem q_up_nj {σ : q_M} {k j a b : Nat} {v : Int32} (h : b ≠ j) : q_up σ k j v a b = σ a b := by
  have e : Nat.beq b j = false := by
    cases hb : Nat.beq b j with
    | true => exact absurd (Nat.eq_of_beq_eq_true hb) h
    | false => rfl
  simp [q_up, e]
theorem q_up_row {σ : q_M} {k j : Nat} {v : Int32} : (q_up σ k j v) k = upd (σ k) j v := by
  funext b
  by_cases h : b = j
  · subst h
    rw [q_up_eq]
    simp [upd]
  · rw [q_up_nj h]
    simp [upd, h]
theorem q_up_off {σ : q_M} {k j a : Nat} {v : Int32} (h : a ≠ k) : (q_up σ k j v) a = σ a := by
  funext b
  exact q_up_nk h
theorem q_up_at (σ : q_M) (k j a b : Nat) (v : Int32) : q_up σ k j v a b = if b = j ∧ a = k then v else σ a b := by
  by_cases h1 : b = j
  · by_cases h2 : a = k
    · subst h1; subst h2
      rw [q_up_eq, if_pos ⟨rfl, rfl⟩]
    · rw [q_up_nk h2, if_neg (fun q => h2 q.2)]
  · rw [q_up_nj h1, if_neg (fun q => h1 q.1)]
/-- what kind of thing a place is -/
def q_kd (k : Nat) : Nat :=
  if k < 220 then (if k % 20 = 0 then 6 else if k % 20 = 1 then 30 else if k % 20 % 3 = 2 then 7 else 20)
  else match k with
    | 220 => 8 | 221 => 4 | 222 => 31 | 223 => 5 | 224 => 20 | 225 => 1 | 226 => 1 | 227 => 22 | 228 => 22 | _ => 99
/-- the length of an int array -/
def q_len (k : Nat) : Nat := if k < 220 then 4 else match k with | 224 => 3 | _ => 130
theorem q_kd_lt {k c : Nat} (h : q_kd k = c) (hc : c ≠ 99) : k < 229 := by
  rcases Nat.lt_or_ge k 229 with q | q
  · exact q
  · exfalso
    apply hc
    rw [← h]
    unfold q_kd
    rw [if_neg (by omega)]
    split <;> omega
/-- the values of a walk: an int, null, a place (.ref), a constant (.float: its code) -/
abbrev q_e (x : Int32) : Value := .float x.toUInt32
def q_cv (α β : Nat → Nat) : Value → Value
  | .ref k => .ref (α k)
  | .float b => .ref (β b.toNat)
  | v => v
/-- a field's value, of an object of class ci at the place k -/
def q_fw (ci j k : Nat) (x : Int32) : Value := match ci with
  | 6 => (match j with | 0 => .ref (k + 1) | _ => .int x)
  | 7 => (match j with | 1 => .ref (k + 1) | 2 => .ref (k + 2) | 3 => q_e x | _ => .int x)
  | 8 => (match j with | 0 => .ref 0 | 1 => .ref 20 | 2 => .ref 40 | 3 => .ref 221 | 4 => .ref 223 | 5 => .ref 226 | _ => .int x)
  | 4 => (match j with | 0 => .ref 222 | _ => .int x)
  | 5 => (match j with | 0 => .ref 225 | 1 => .ref 224 | 5 => q_e x | _ => .int x)
  | _ => .int x
/-- how many fields -/
def q_nf (ci : Nat) : Nat := match ci with | 4 => 3 | 5 => 6 | 6 => 4 | 7 => 14 | 8 => 11 | _ => 0
/-- what is hidden of a text: its bytes' address, how many, the bytes, and the builder's maybeLatin1 -/
abbrev q_H : Type := Nat → Nat × Nat × (Nat → Int32) × Int32
def q_pc (α β : Nat → Nat) (κ : Nat → ClassId) (Y : q_H) (k : Nat) (f : Nat → Int32) : va_E := match q_kd k with
  | 20 => .inl (κ 0, q_len k, .inl f)
  | 22 => .inl (κ 1, (Y k).2.1, .inl (Y k).2.2.1)
  | 99 => .inl (κ 0, 130, .inl f)
  | 30 => .inl (κ 4, 6, .inr (.inr (.inr (.inr (fun i => some (α (k + 1 + 3 * i)))))))
  | 31 => .inl (κ 5, 8, .inr (.inr (.inr (.inr (fun i => some (α (60 + 20 * i)))))))
  | 1 => .inr (1, [.ref (Y (k + 2)).1, .int 0, .int (Y (k + 2)).2.2.2, .int (f 3)])
  | ci => .inr (ci, (List.range (q_nf ci)).map (fun j => q_cv α β (q_fw ci j k (f j))))
def q_ad (α : Nat → Nat) (Y : q_H) (k : Nat) : Nat := if k = 227 ∨ k = 228 then (Y k).1 else α k
/-- how many places there are -/
abbrev q_N (α : Nat → Nat) : Nat := 229 + α 329
def q_ws (α β : Nat → Nat) (κ : Nat → ClassId) (Y : q_H) (σ : q_M) : va_W := (List.range (q_N α)).map (fun k => (q_ad α Y k, q_pc α β κ Y k (σ k)))
theorem q_ws_atx {α β : Nat → Nat} {κ : Nat → ClassId} {Y : q_H} {σ : q_M} {k : Nat} (h : k < q_N α) : (q_ws α β κ Y σ)[k]? = some (q_ad α Y k, q_pc α β κ Y k (σ k)) := by
  simp [q_ws, h]
theorem q_ws_at {α β : Nat → Nat} {κ : Nat → ClassId} {Y : q_H} {σ : q_M} {k : Nat} (h : k < 229) : (q_ws α β κ Y σ)[k]? = some (q_ad α Y k, q_pc α β κ Y k (σ k)) := q_ws_atx (Nat.lt_of_lt_of_le h (Nat.le_add_right _ _))
theorem q_ws_len {α β : Nat → Nat} {κ : Nat → ClassId} {Y : q_H} {σ : q_M} : (q_ws α β κ Y σ).length = q_N α := by simp [q_ws]
theorem q_ws_setx {α β : Nat → Nat} {κ : Nat → ClassId} {Y : q_H} {σ : q_M} {k j : Nat} {v : Int32} (h : k < q_N α) {e : va_E} (he : e = q_pc α β κ Y k (upd (σ k) j v)) : (q_ws α β κ Y σ).set k (q_ad α Y k, e) = q_ws α β κ Y (q_up σ k j v) := by
  subst he
  apply List.ext_getElem?
  intro i
  rw [List.getElem?_set]
  by_cases hi : k = i
  · subst hi
    rw [if_pos rfl, q_ws_atx h, if_pos (by rw [q_ws_len]; exact h), q_up_row]
  · rw [if_neg hi]
    unfold q_ws
    rw [List.getElem?_map, List.getElem?_map]
    cases hr : (List.range (q_N α))[i]? with
    | none => rfl
    | some z =>
      have : z = i := by
        have := (List.getElem?_eq_some_iff.mp hr)
        obtain ⟨h1, h2⟩ := this
        rw [List.getElem_range] at h2
        exact h2.symm
      subst this
      simp only [Option.map_some]
      rw [q_up_off (fun q => hi q.symm)]
theorem q_ws_set {α β : Nat → Nat} {κ : Nat → ClassId} {Y : q_H} {σ : q_M} {k j : Nat} {v : Int32} (h : k < 229) {e : va_E} (he : e = q_pc α β κ Y k (upd (σ k) j v)) : (q_ws α β κ Y σ).set k (q_ad α Y k, e) = q_ws α β κ Y (q_up σ k j v) := q_ws_setx (Nat.lt_of_lt_of_le h (Nat.le_add_right _ _)) he
/-- an object's fields -/
theorem q_pc_o {α β : Nat → Nat} {κ : Nat → ClassId} {Y : q_H} {k : Nat} {f : Nat → Int32} {ci : Nat} (h : q_kd k = ci) (h4 : 4 ≤ ci) (h9 : ci ≤ 9) : q_pc α β κ Y k f = .inr (ci, (List.range (q_nf ci)).map (fun j => q_cv α β (q_fw ci j k (f j)))) := by
  unfold q_pc
  rw [h]
  split <;> first | omega | rfl
theorem q_pc_i {α β : Nat → Nat} {κ : Nat → ClassId} {Y : q_H} {k : Nat} {f : Nat → Int32} (h : q_kd k = 20) : q_pc α β κ Y k f = .inl (κ 0, q_len k, .inl f) := by
  unfold q_pc
  rw [h]
  rfl
theorem q_pc_t {α β : Nat → Nat} {κ : Nat → ClassId} {Y : q_H} {k : Nat} {f : Nat → Int32} (h : q_kd k = 30) : q_pc α β κ Y k f = .inl (κ 4, 6, .inr (.inr (.inr (.inr (fun i => some (α (k + 1 + 3 * i))))))) := by
  unfold q_pc
  rw [h]
  rfl
theorem q_pc_r {α β : Nat → Nat} {κ : Nat → ClassId} {Y : q_H} {k : Nat} {f : Nat → Int32} (h : q_kd k = 31) : q_pc α β κ Y k f = .inl (κ 5, 8, .inr (.inr (.inr (.inr (fun i => some (α (60 + 20 * i))))))) := by
  unfold q_pc
  rw [h]
  rfl
theorem q_ad_of {α : Nat → Nat} {Y : q_H} {k c : Nat} (h : q_kd k = c) (hc : c ≠ 22) : q_ad α Y k = α k := by
  unfold q_ad
  rw [if_neg]
  rintro (rfl | rfl)
  · exact hc h.symm
  · exact hc h.symm
theorem q_fs_at {α β : Nat → Nat} {ci j k n : Nat} {f : Nat → Int32} (h : j < n) : ((List.range n).map (fun j => q_cv α β (q_fw ci j k (f j))))[j]? = some (q_cv α β (q_fw ci j k (f j))) := by
  simp [h]
theorem q_fs_set {α β : Nat → Nat} {ci j k n : Nat} {f : Nat → Int32} {x : Int32} {v : Value} (hv : q_cv α β (q_fw ci j k x) = v) : ((List.range n).map (fun j => q_cv α β (q_fw ci j k (f j)))).set j v = (List.range n).map (fun i => q_cv α β (q_fw ci i k (upd f j x i))) := by
  apply List.ext_getElem?
  intro i
  rw [List.getElem?_set, List.getElem?_map, List.getElem?_map]
  by_cases hi : j = i
  · subst hi
    rw [if_pos rfl]
    by_cases hn : j < n
    · rw [if_pos (by simpa using hn)]
      simp [hn, upd, hv]
    · rw [if_neg (by simpa using hn)]
      simp [hn]
  · rw [if_neg hi]
    by_cases hn : i < n
    · simp [hn, upd, Ne.symm hi]
    · simp [hn]
