/-! 36.words. -/
theorem q_okV_i {x : Int32} (h : q_okV x) : x.toUInt32.toNat - 20 < 16 := by
  have h2 := h.2
  omega
abbrev q_z1 (r : Int32) : Prop := r = 0 ∨ r = 1
abbrev q_z2 (r : Int32 × q_M) : Prop := r.1 = 0 ∨ r.1 = 1
theorem q_zL {τ α : Type} (P : τ → Prop) (x : α) (f : α → τ) (h : ∀ y, P (f y)) : P (q_L x f) := h x
theorem q_zM {τ : Type} (P : τ → Prop) (x : Int32) (f : Int32 → τ) (hx : q_z1 x) (h : ∀ y, q_z1 y → P (f y)) : P (q_L x f) := h x hx
theorem q_zif {τ : Type} (P : τ → Prop) (c : Prop) [Decidable c] (a b : τ) (ha : P a) (hb : P b) : P (if c then a else b) := by
  by_cases h : c
  · rw [if_pos h]; exact ha
  · rw [if_neg h]; exact hb
