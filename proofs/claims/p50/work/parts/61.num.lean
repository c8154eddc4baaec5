/-! The numbers: states of the race apart from any memory; what a memory says of one. -/
theorem z_lt {a b : Nat} (ha : a < 2 ^ 31) (hb : b < 2 ^ 31) : (nI a < nI b) = (a < b) := propext (nI_ltI ha hb)
theorem z_le {a b : Nat} (ha : a < 2 ^ 31) (hb : b < 2 ^ 31) : (nI a ≤ nI b) = (a ≤ b) := propext (nI_leI ha hb)
theorem z_eq {a b : Nat} (ha : a < 2 ^ 31) (hb : b < 2 ^ 31) : (nI a = nI b) = (a = b) := propext (nI_eq ha hb)
theorem z_add (a b : Nat) : nI a + nI b = nI (a + b) := nI_add a b
theorem z_mul (a b : Nat) : nI a * nI b = nI (a * b) := pk_mul a b
theorem z_sub {a b : Nat} (h : b ≤ a) : nI a - nI b = nI (a - b) := pk_sub h
theorem z_div {a d : Nat} (ha : a < 2 ^ 31) (h0 : 0 < d) (hd : d < 2 ^ 31) : nI a / nI d = nI (a / d) := pk_div ha h0 hd
theorem z_clamp {n : Nat} (h : n < 2 ^ 31) : (nI n).toNatClampNeg = n := nI_clamp h
theorem z_in {n N : Nat} (h : n < N) (hN : N < 2 ^ 31) : vp_in (nI n) N := vp_in_nI h hN
def z_up (x : Nat → Nat) (j v : Nat) : Nat → Nat := fun i => if i = j then v else x i
def z_ut (t : Nat → Nat → Nat) (w : Nat) (x : Nat → Nat) : Nat → Nat → Nat := fun i => if i = w then x else t i
theorem z_up_s (x : Nat → Nat) (j v : Nat) : z_up x j v j = v := if_pos rfl
theorem z_up_n {x : Nat → Nat} {i j v : Nat} (h : i ≠ j) : z_up x j v i = x i := if_neg h
theorem z_ut_s (t : Nat → Nat → Nat) (w : Nat) (x : Nat → Nat) : z_ut t w x w = x := if_pos rfl
theorem z_ut_n {t : Nat → Nat → Nat} {w i : Nat} {x : Nat → Nat} (h : i ≠ w) : z_ut t w x i = t i := if_neg h
theorem z_ut_ut (t : Nat → Nat → Nat) (w : Nat) (x y : Nat → Nat) : z_ut (z_ut t w x) w y = z_ut t w y := by
  funext i
  unfold z_ut
  by_cases h : i = w <;> simp [h]
/-- the model's row: four numbers and six teams of nineteen -/
def z_M (m : q_M) (b : Nat → Nat) (t : Nat → Nat → Nat) : Prop := (∀ k, k < 4 → m 230 k = nI (b k)) ∧ (∀ w, w < 6 → ∀ k, k < 19 → m 230 (4 + 19 * w + k) = nI (t w k))
theorem z_M.bs {m : q_M} {b : Nat → Nat} {t : Nat → Nat → Nat} (h : z_M m b t) : ∀ k, k < 4 → m 230 k = nI (b k) := h.1
theorem z_M.ts {m : q_M} {b : Nat → Nat} {t : Nat → Nat → Nat} (h : z_M m b t) : ∀ w, w < 6 → ∀ k, k < 19 → m 230 (4 + 19 * w + k) = nI (t w k) := h.2
theorem z_ix {w k : Nat} (hw : w < 6) (hk : k < 19) : (((4 : Int32) + (19 * nI w)) + nI k).toNatClampNeg = 4 + 19 * w + k := by
  have e : ((4 : Int32) + (19 * nI w)) + nI k = nI (4 + 19 * w + k) := by
    show (nI 4 + nI 19 * nI w) + nI k = _
    rw [pk_mul, nI_add, nI_add]
  rw [e, nI_clamp (by omega)]
theorem z_ixp {w k : Nat} (hw : w < 6) (hk : k < 19) : vp_in (((4 : Int32) + (19 * nI w)) + nI k) 118 := by
  have e : ((4 : Int32) + (19 * nI w)) + nI k = nI (4 + 19 * w + k) := by
    show (nI 4 + nI 19 * nI w) + nI k = _
    rw [pk_mul, nI_add, nI_add]
  rw [e]
  exact vp_in_nI (by omega) (by decide)
theorem z_M.of {m : q_M} {b : Nat → Nat} {t : Nat → Nat → Nat} (h : z_M m b t) {w k : Nat} (hw : w < 6) (hk : k < 19) : F_X9_of (nI w) (nI k) m = nI (t w k) := by
  unfold F_X9_of
  rw [z_ix hw hk]
  exact h.ts w hw k hk
theorem z_ofP {m : q_M} {w k : Nat} (hw : w < 6) (hk : k < 19) : P_X9_of (nI w) (nI k) m := ⟨z_ixp hw hk, trivial⟩
theorem z_setsP {m : q_M} {w k : Nat} {v : Int32} (hw : w < 6) (hk : k < 19) : P_X9_sets (nI w) (nI k) v m := ⟨z_ixp hw hk, trivial⟩
theorem z_sets {m : q_M} {w k : Nat} {v : Int32} (hw : w < 6) (hk : k < 19) : F_X9_sets (nI w) (nI k) v m = q_up m 230 (4 + 19 * w + k) v := by
  unfold F_X9_sets
  rw [z_ix hw hk]
theorem z_M.up {m : q_M} {b : Nat → Nat} {t : Nat → Nat → Nat} (h : z_M m b t) {w k y : Nat} (hw : w < 6) (hk : k < 19) : z_M (q_up m 230 (4 + 19 * w + k) (nI y)) b (z_ut t w (z_up (t w) k y)) := by
  refine ⟨fun j hj => ?_, fun i hi j hj => ?_⟩
  · rw [q_up_nj (by omega)]
    exact h.bs j hj
  · by_cases e : i = w
    · subst e
      by_cases e2 : j = k
      · subst e2
        rw [q_up_eq, z_ut_s, z_up_s]
      · rw [q_up_nj (by omega), z_ut_s, z_up_n e2]
        exact h.ts i hi j hj
    · rw [q_up_nj (by omega), z_ut_n e]
      exact h.ts i hi j hj
theorem z_M.set {m : q_M} {b : Nat → Nat} {t : Nat → Nat → Nat} (h : z_M m b t) {w k y : Nat} (hw : w < 6) (hk : k < 19) : z_M (F_X9_sets (nI w) (nI k) (nI y) m) b (z_ut t w (z_up (t w) k y)) := by
  rw [z_sets hw hk]
  exact h.up hw hk
theorem z_M.ub {m : q_M} {b : Nat → Nat} {t : Nat → Nat → Nat} (h : z_M m b t) {k y : Nat} (hk : k < 4) : z_M (q_up m 230 k (nI y)) (z_up b k y) t := by
  refine ⟨fun j hj => ?_, fun i hi j hj => ?_⟩
  · by_cases e : j = k
    · subst e
      rw [q_up_eq, z_up_s]
    · rw [q_up_nj e, z_up_n e]
      exact h.bs j hj
  · rw [q_up_nj (by omega)]
    exact h.ts i hi j hj
theorem z_M.off {m m' : q_M} {b : Nat → Nat} {t : Nat → Nat → Nat} (h : z_M m b t) (e : m' 230 = m 230) : z_M m' b t := ⟨fun j hj => by rw [e]; exact h.bs j hj, fun i hi j hj => by rw [e]; exact h.ts i hi j hj⟩
theorem z_M.u9 {m : q_M} {b : Nat → Nat} {t : Nat → Nat → Nat} (h : z_M m b t) {j : Nat} {v : Int32} : z_M (q_up m 229 j v) b t := h.off (q_up_off (by decide))
/-- a team of the class that is there -/
def z_T (c : q_M) (p w : Nat) (x : Nat → Nat) : Prop := (c p 0 = nI w) ∧ (c p 3 = nI (x 6 + 1)) ∧ (c p 4 = nI (x 4)) ∧ (c p 5 = nI (x 7)) ∧ (c p 6 = nI (x 8)) ∧ (c p 7 = nI (x 9)) ∧ (c p 8 = nI (x 10)) ∧ (c p 9 = nI (x 5)) ∧ (x 6 ≠ 2 → c p 10 = nI (x 13)) ∧ (c p 11 = nI (x 18)) ∧ (c p 12 = nI (x 11)) ∧ (c p 13 = nI (x 12)) ∧ (∀ j, j < 4 → c (p + 1) j = nI (x j)) ∧ (∀ j, j < 4 → c (p + 2) j = nI (x (14 + j) - 1))
theorem z_T.no {c : q_M} {p w : Nat} {x : Nat → Nat} (h : z_T c p w x) : c p 0 = nI w := h.1
theorem z_T.st {c : q_M} {p w : Nat} {x : Nat → Nat} (h : z_T c p w x) : c p 3 = nI (x 6 + 1) := h.2.1
theorem z_T.ln {c : q_M} {p w : Nat} {x : Nat → Nat} (h : z_T c p w x) : c p 4 = nI (x 4) := h.2.2.1
theorem z_T.ps {c : q_M} {p w : Nat} {x : Nat → Nat} (h : z_T c p w x) : c p 5 = nI (x 7) := h.2.2.2.1
theorem z_T.lg {c : q_M} {p w : Nat} {x : Nat → Nat} (h : z_T c p w x) : c p 6 = nI (x 8) := h.2.2.2.2.1
theorem z_T.sr {c : q_M} {p w : Nat} {x : Nat → Nat} (h : z_T c p w x) : c p 7 = nI (x 9) := h.2.2.2.2.2.1
theorem z_T.sd {c : q_M} {p w : Nat} {x : Nat → Nat} (h : z_T c p w x) : c p 8 = nI (x 10) := h.2.2.2.2.2.2.1
theorem z_T.pn {c : q_M} {p w : Nat} {x : Nat → Nat} (h : z_T c p w x) : c p 9 = nI (x 5) := h.2.2.2.2.2.2.2.1
theorem z_T.lp {c : q_M} {p w : Nat} {x : Nat → Nat} (h : z_T c p w x) : x 6 ≠ 2 → c p 10 = nI (x 13) := h.2.2.2.2.2.2.2.2.1
theorem z_T.tm {c : q_M} {p w : Nat} {x : Nat → Nat} (h : z_T c p w x) : c p 11 = nI (x 18) := h.2.2.2.2.2.2.2.2.2.1
theorem z_T.lf {c : q_M} {p w : Nat} {x : Nat → Nat} (h : z_T c p w x) : c p 12 = nI (x 11) := h.2.2.2.2.2.2.2.2.2.2.1
theorem z_T.df {c : q_M} {p w : Nat} {x : Nat → Nat} (h : z_T c p w x) : c p 13 = nI (x 12) := h.2.2.2.2.2.2.2.2.2.2.2.1
theorem z_T.sp {c : q_M} {p w : Nat} {x : Nat → Nat} (h : z_T c p w x) : ∀ j, j < 4 → c (p + 1) j = nI (x j) := h.2.2.2.2.2.2.2.2.2.2.2.2.1
theorem z_T.sl {c : q_M} {p w : Nat} {x : Nat → Nat} (h : z_T c p w x) : ∀ j, j < 4 → c (p + 2) j = nI (x (14 + j) - 1) := h.2.2.2.2.2.2.2.2.2.2.2.2.2
/-- a team that isn't -/
def z_N (c : q_M) (p w : Nat) : Prop := (c p 0 = nI w) ∧ (c p 3 = 0) ∧ (c p 4 = nI (w + 1)) ∧ (∀ j, 5 ≤ j → j < 14 → c p j = 0) ∧ (∀ j, j < 4 → c (p + 1) j = nI 60) ∧ (∀ j, j < 4 → c (p + 2) j = 0)
theorem z_N.no {c : q_M} {p w : Nat} (h : z_N c p w) : c p 0 = nI w := h.1
theorem z_N.st {c : q_M} {p w : Nat} (h : z_N c p w) : c p 3 = 0 := h.2.1
theorem z_N.ln {c : q_M} {p w : Nat} (h : z_N c p w) : c p 4 = nI (w + 1) := h.2.2.1
theorem z_N.z {c : q_M} {p w : Nat} (h : z_N c p w) : ∀ j, 5 ≤ j → j < 14 → c p j = 0 := h.2.2.2.1
theorem z_N.sp {c : q_M} {p w : Nat} (h : z_N c p w) : ∀ j, j < 4 → c (p + 1) j = nI 60 := h.2.2.2.2.1
theorem z_N.sl {c : q_M} {p w : Nat} (h : z_N c p w) : ∀ j, j < 4 → c (p + 2) j = 0 := h.2.2.2.2.2
/-- a race of the class, at its place -/
def z_R (c : q_M) (r : Nat) (b : Nat → Nat) (t : Nat → Nat → Nat) : Prop := (c r 1 = nI (b 1)) ∧ (c r 2 = nI (b 2)) ∧ (c r 3 = nI (b 0)) ∧ (∀ w, w < 6 → w < b 3 → z_T c (r + 2 + 3 * w) w (t w)) ∧ (∀ w, w < 6 → b 3 ≤ w → z_N c (r + 2 + 3 * w) w)
theorem z_R.bg {c : q_M} {r : Nat} {b : Nat → Nat} {t : Nat → Nat → Nat} (h : z_R c r b t) : c r 1 = nI (b 1) := h.1
theorem z_R.ck {c : q_M} {r : Nat} {b : Nat → Nat} {t : Nat → Nat → Nat} (h : z_R c r b t) : c r 2 = nI (b 2) := h.2.1
theorem z_R.ll {c : q_M} {r : Nat} {b : Nat → Nat} {t : Nat → Nat → Nat} (h : z_R c r b t) : c r 3 = nI (b 0) := h.2.2.1
theorem z_R.te {c : q_M} {r : Nat} {b : Nat → Nat} {t : Nat → Nat → Nat} (h : z_R c r b t) : ∀ w, w < 6 → w < b 3 → z_T c (r + 2 + 3 * w) w (t w) := h.2.2.2.1
theorem z_R.ab {c : q_M} {r : Nat} {b : Nat → Nat} {t : Nat → Nat → Nat} (h : z_R c r b t) : ∀ w, w < 6 → b 3 ≤ w → z_N c (r + 2 + 3 * w) w := h.2.2.2.2
/-- what a team's numbers keep to; k: how many changes there have been -/
def z_W0 (k : Nat) (b : Nat → Nat) (x : Nat → Nat) : Prop := (∀ j, j < 4 → 20 ≤ x j ∧ x j ≤ 99) ∧ (1 ≤ x 4 ∧ x 4 ≤ 6) ∧ (x 5 ≤ 10 * k) ∧ (x 6 ≤ 3) ∧ (x 7 ≤ (x 8 + 1) * b 0 + 300) ∧ (x 8 ≤ 3) ∧ (x 9 ≤ b 2) ∧ (x 10 ≤ 20 * k) ∧ (x 11 ≤ 1) ∧ (x 12 ≤ 1) ∧ (x 13 ≤ b 2) ∧ (∀ j, j < 4 → x (14 + j) ≤ b 2 + 1 ∧ (1 ≤ x (14 + j) ↔ j < x 8 ∨ x 6 = 2)) ∧ (x 18 ≤ b 2) ∧ (x 6 = 2 → x 8 = 3) ∧ (x 6 = 1 → x 8 = 3 → x 7 < 4 * b 0) ∧ (b 1 = 0 → x 6 = 0 ∧ x 7 = 0 ∧ x 8 = 0)
theorem z_W0.sp {k : Nat} {b : Nat → Nat} {x : Nat → Nat} (h : z_W0 k b x) : ∀ j, j < 4 → 20 ≤ x j ∧ x j ≤ 99 := h.1
theorem z_W0.ln {k : Nat} {b : Nat → Nat} {x : Nat → Nat} (h : z_W0 k b x) : 1 ≤ x 4 ∧ x 4 ≤ 6 := h.2.1
theorem z_W0.pn {k : Nat} {b : Nat → Nat} {x : Nat → Nat} (h : z_W0 k b x) : x 5 ≤ 10 * k := h.2.2.1
theorem z_W0.st {k : Nat} {b : Nat → Nat} {x : Nat → Nat} (h : z_W0 k b x) : x 6 ≤ 3 := h.2.2.2.1
theorem z_W0.ps {k : Nat} {b : Nat → Nat} {x : Nat → Nat} (h : z_W0 k b x) : x 7 ≤ (x 8 + 1) * b 0 + 300 := h.2.2.2.2.1
theorem z_W0.lg {k : Nat} {b : Nat → Nat} {x : Nat → Nat} (h : z_W0 k b x) : x 8 ≤ 3 := h.2.2.2.2.2.1
theorem z_W0.sr {k : Nat} {b : Nat → Nat} {x : Nat → Nat} (h : z_W0 k b x) : x 9 ≤ b 2 := h.2.2.2.2.2.2.1
theorem z_W0.sd {k : Nat} {b : Nat → Nat} {x : Nat → Nat} (h : z_W0 k b x) : x 10 ≤ 20 * k := h.2.2.2.2.2.2.2.1
theorem z_W0.lf {k : Nat} {b : Nat → Nat} {x : Nat → Nat} (h : z_W0 k b x) : x 11 ≤ 1 := h.2.2.2.2.2.2.2.2.1
theorem z_W0.df {k : Nat} {b : Nat → Nat} {x : Nat → Nat} (h : z_W0 k b x) : x 12 ≤ 1 := h.2.2.2.2.2.2.2.2.2.1
theorem z_W0.lp {k : Nat} {b : Nat → Nat} {x : Nat → Nat} (h : z_W0 k b x) : x 13 ≤ b 2 := h.2.2.2.2.2.2.2.2.2.2.1
theorem z_W0.sl {k : Nat} {b : Nat → Nat} {x : Nat → Nat} (h : z_W0 k b x) : ∀ j, j < 4 → x (14 + j) ≤ b 2 + 1 ∧ (1 ≤ x (14 + j) ↔ j < x 8 ∨ x 6 = 2) := h.2.2.2.2.2.2.2.2.2.2.2.1
theorem z_W0.tm {k : Nat} {b : Nat → Nat} {x : Nat → Nat} (h : z_W0 k b x) : x 18 ≤ b 2 := h.2.2.2.2.2.2.2.2.2.2.2.2.1
theorem z_W0.fi {k : Nat} {b : Nat → Nat} {x : Nat → Nat} (h : z_W0 k b x) : x 6 = 2 → x 8 = 3 := h.2.2.2.2.2.2.2.2.2.2.2.2.2.1
theorem z_W0.ru {k : Nat} {b : Nat → Nat} {x : Nat → Nat} (h : z_W0 k b x) : x 6 = 1 → x 8 = 3 → x 7 < 4 * b 0 := h.2.2.2.2.2.2.2.2.2.2.2.2.2.2.1
theorem z_W0.un {k : Nat} {b : Nat → Nat} {x : Nat → Nat} (h : z_W0 k b x) : b 1 = 0 → x 6 = 0 ∧ x 7 = 0 ∧ x 8 = 0 := h.2.2.2.2.2.2.2.2.2.2.2.2.2.2.2
/-- what a team's numbers keep to besides: where it may be, what its splits sum up to -/
def z_E (b x : Nat → Nat) : Prop := x 8 * b 0 ≤ x 7 + 100 ∧ (x 6 = 2 → (x 14 - 1) + (x 15 - 1) + (x 16 - 1) + (x 17 - 1) = x 18) ∧ (x 6 ≠ 2 → (x 14 - 1) + (x 15 - 1) + (x 16 - 1) + (x 17 - 1) = x 13) ∧ x 5 % 5 = 0 ∧ (x 6 = 2 → 4 * b 0 ≤ x 7) ∧ (x 6 = 0 → b 1 = 0)
def z_W (k : Nat) (b x : Nat → Nat) : Prop := z_W0 k b x ∧ z_E b x
theorem z_W.sp {k : Nat} {b : Nat → Nat} {x : Nat → Nat} (h : z_W k b x) : ∀ j, j < 4 → 20 ≤ x j ∧ x j ≤ 99 := h.1.sp
theorem z_W.ln {k : Nat} {b : Nat → Nat} {x : Nat → Nat} (h : z_W k b x) : 1 ≤ x 4 ∧ x 4 ≤ 6 := h.1.ln
theorem z_W.pn {k : Nat} {b : Nat → Nat} {x : Nat → Nat} (h : z_W k b x) : x 5 ≤ 10 * k := h.1.pn
theorem z_W.st {k : Nat} {b : Nat → Nat} {x : Nat → Nat} (h : z_W k b x) : x 6 ≤ 3 := h.1.st
theorem z_W.ps {k : Nat} {b : Nat → Nat} {x : Nat → Nat} (h : z_W k b x) : x 7 ≤ (x 8 + 1) * b 0 + 300 := h.1.ps
theorem z_W.lg {k : Nat} {b : Nat → Nat} {x : Nat → Nat} (h : z_W k b x) : x 8 ≤ 3 := h.1.lg
theorem z_W.sr {k : Nat} {b : Nat → Nat} {x : Nat → Nat} (h : z_W k b x) : x 9 ≤ b 2 := h.1.sr
theorem z_W.sd {k : Nat} {b : Nat → Nat} {x : Nat → Nat} (h : z_W k b x) : x 10 ≤ 20 * k := h.1.sd
theorem z_W.lf {k : Nat} {b : Nat → Nat} {x : Nat → Nat} (h : z_W k b x) : x 11 ≤ 1 := h.1.lf
theorem z_W.df {k : Nat} {b : Nat → Nat} {x : Nat → Nat} (h : z_W k b x) : x 12 ≤ 1 := h.1.df
theorem z_W.lp {k : Nat} {b : Nat → Nat} {x : Nat → Nat} (h : z_W k b x) : x 13 ≤ b 2 := h.1.lp
theorem z_W.sl {k : Nat} {b : Nat → Nat} {x : Nat → Nat} (h : z_W k b x) : ∀ j, j < 4 → x (14 + j) ≤ b 2 + 1 ∧ (1 ≤ x (14 + j) ↔ j < x 8 ∨ x 6 = 2) := h.1.sl
theorem z_W.tm {k : Nat} {b : Nat → Nat} {x : Nat → Nat} (h : z_W k b x) : x 18 ≤ b 2 := h.1.tm
theorem z_W.fi {k : Nat} {b : Nat → Nat} {x : Nat → Nat} (h : z_W k b x) : x 6 = 2 → x 8 = 3 := h.1.fi
theorem z_W.ru {k : Nat} {b : Nat → Nat} {x : Nat → Nat} (h : z_W k b x) : x 6 = 1 → x 8 = 3 → x 7 < 4 * b 0 := h.1.ru
theorem z_W.un {k : Nat} {b : Nat → Nat} {x : Nat → Nat} (h : z_W k b x) : b 1 = 0 → x 6 = 0 ∧ x 7 = 0 ∧ x 8 = 0 := h.1.un
theorem z_W.ex {k : Nat} {b x : Nat → Nat} (h : z_W k b x) : z_E b x := h.2
theorem z_E.cg {b x y : Nat → Nat} (h : z_E b x) (e : ∀ j, 5 ≤ j → j < 19 → j ≠ 9 → j ≠ 10 → j ≠ 11 → j ≠ 12 → y j = x j) : z_E b y := by
  have g : ∀ j, 5 ≤ j → j < 19 → j ≠ 9 → j ≠ 10 → j ≠ 11 → j ≠ 12 → y j = x j := e
  unfold z_E at h ⊢
  rw [g 5 (by decide) (by decide) (by decide) (by decide) (by decide) (by decide), g 6 (by decide) (by decide) (by decide) (by decide) (by decide) (by decide), g 7 (by decide) (by decide) (by decide) (by decide) (by decide) (by decide), g 8 (by decide) (by decide) (by decide) (by decide) (by decide) (by decide), g 13 (by decide) (by decide) (by decide) (by decide) (by decide) (by decide), g 14 (by decide) (by decide) (by decide) (by decide) (by decide) (by decide), g 15 (by decide) (by decide) (by decide) (by decide) (by decide) (by decide), g 16 (by decide) (by decide) (by decide) (by decide) (by decide) (by decide), g 17 (by decide) (by decide) (by decide) (by decide) (by decide) (by decide), g 18 (by decide) (by decide) (by decide) (by decide) (by decide) (by decide)]
  exact h
def z_V (k : Nat) (b : Nat → Nat) (t : Nat → Nat → Nat) : Prop := (400 ≤ b 0) ∧ (b 0 ≤ 4000) ∧ (b 1 ≤ 1) ∧ (b 2 ≤ 200 * k) ∧ (b 3 ≤ 6) ∧ (∀ w, w < b 3 → z_W k b (t w)) ∧ (∀ w, w < 6 → b 3 ≤ w → ∀ j, j < 19 → t w j = 0) ∧ (∀ w, w < b 3 → t w 4 ≤ b 3 ∧ ∀ v, v < w → t v 4 ≠ t w 4)
theorem z_V.l0 {k : Nat} {b : Nat → Nat} {t : Nat → Nat → Nat} (h : z_V k b t) : 400 ≤ b 0 := h.1
theorem z_V.l1 {k : Nat} {b : Nat → Nat} {t : Nat → Nat → Nat} (h : z_V k b t) : b 0 ≤ 4000 := h.2.1
theorem z_V.bg {k : Nat} {b : Nat → Nat} {t : Nat → Nat → Nat} (h : z_V k b t) : b 1 ≤ 1 := h.2.2.1
theorem z_V.ck {k : Nat} {b : Nat → Nat} {t : Nat → Nat → Nat} (h : z_V k b t) : b 2 ≤ 200 * k := h.2.2.2.1
theorem z_V.n6 {k : Nat} {b : Nat → Nat} {t : Nat → Nat → Nat} (h : z_V k b t) : b 3 ≤ 6 := h.2.2.2.2.1
theorem z_V.te {k : Nat} {b : Nat → Nat} {t : Nat → Nat → Nat} (h : z_V k b t) : ∀ w, w < b 3 → z_W k b (t w) := h.2.2.2.2.2.1
theorem z_V.ab {k : Nat} {b : Nat → Nat} {t : Nat → Nat → Nat} (h : z_V k b t) : ∀ w, w < 6 → b 3 ≤ w → ∀ j, j < 19 → t w j = 0 := h.2.2.2.2.2.2.1
theorem z_V.ls {k : Nat} {b : Nat → Nat} {t : Nat → Nat → Nat} (h : z_V k b t) : ∀ w, w < b 3 → t w 4 ≤ b 3 ∧ ∀ v, v < w → t v 4 ≠ t w 4 := h.2.2.2.2.2.2.2

theorem z_M.o0 {m : q_M} {b : Nat → Nat} {t : Nat → Nat → Nat} (h : z_M m b t) {w : Nat} (hw : w < 6) : F_X9_of (nI w) 0 m = nI (t w 0) := h.of hw (by decide)
theorem z_p0 {m : q_M} {w : Nat} (hw : w < 6) : P_X9_of (nI w) 0 m := z_ofP hw (by decide)
theorem z_q0 {m : q_M} {w : Nat} {v : Int32} (hw : w < 6) : P_X9_sets (nI w) 0 v m := z_setsP hw (by decide)
theorem z_M.s0 {m : q_M} {b : Nat → Nat} {t : Nat → Nat → Nat} (h : z_M m b t) {w y : Nat} (hw : w < 6) : z_M (F_X9_sets (nI w) 0 (nI y) m) b (z_ut t w (z_up (t w) 0 y)) := h.set hw (by decide)
theorem z_M.o1 {m : q_M} {b : Nat → Nat} {t : Nat → Nat → Nat} (h : z_M m b t) {w : Nat} (hw : w < 6) : F_X9_of (nI w) 1 m = nI (t w 1) := h.of hw (by decide)
theorem z_p1 {m : q_M} {w : Nat} (hw : w < 6) : P_X9_of (nI w) 1 m := z_ofP hw (by decide)
theorem z_q1 {m : q_M} {w : Nat} {v : Int32} (hw : w < 6) : P_X9_sets (nI w) 1 v m := z_setsP hw (by decide)
theorem z_M.s1 {m : q_M} {b : Nat → Nat} {t : Nat → Nat → Nat} (h : z_M m b t) {w y : Nat} (hw : w < 6) : z_M (F_X9_sets (nI w) 1 (nI y) m) b (z_ut t w (z_up (t w) 1 y)) := h.set hw (by decide)
theorem z_M.o2 {m : q_M} {b : Nat → Nat} {t : Nat → Nat → Nat} (h : z_M m b t) {w : Nat} (hw : w < 6) : F_X9_of (nI w) 2 m = nI (t w 2) := h.of hw (by decide)
theorem z_p2 {m : q_M} {w : Nat} (hw : w < 6) : P_X9_of (nI w) 2 m := z_ofP hw (by decide)
theorem z_q2 {m : q_M} {w : Nat} {v : Int32} (hw : w < 6) : P_X9_sets (nI w) 2 v m := z_setsP hw (by decide)
theorem z_M.s2 {m : q_M} {b : Nat → Nat} {t : Nat → Nat → Nat} (h : z_M m b t) {w y : Nat} (hw : w < 6) : z_M (F_X9_sets (nI w) 2 (nI y) m) b (z_ut t w (z_up (t w) 2 y)) := h.set hw (by decide)
theorem z_M.o3 {m : q_M} {b : Nat → Nat} {t : Nat → Nat → Nat} (h : z_M m b t) {w : Nat} (hw : w < 6) : F_X9_of (nI w) 3 m = nI (t w 3) := h.of hw (by decide)
theorem z_p3 {m : q_M} {w : Nat} (hw : w < 6) : P_X9_of (nI w) 3 m := z_ofP hw (by decide)
theorem z_q3 {m : q_M} {w : Nat} {v : Int32} (hw : w < 6) : P_X9_sets (nI w) 3 v m := z_setsP hw (by decide)
theorem z_M.s3 {m : q_M} {b : Nat → Nat} {t : Nat → Nat → Nat} (h : z_M m b t) {w y : Nat} (hw : w < 6) : z_M (F_X9_sets (nI w) 3 (nI y) m) b (z_ut t w (z_up (t w) 3 y)) := h.set hw (by decide)
theorem z_M.o4 {m : q_M} {b : Nat → Nat} {t : Nat → Nat → Nat} (h : z_M m b t) {w : Nat} (hw : w < 6) : F_X9_of (nI w) 4 m = nI (t w 4) := h.of hw (by decide)
theorem z_p4 {m : q_M} {w : Nat} (hw : w < 6) : P_X9_of (nI w) 4 m := z_ofP hw (by decide)
theorem z_q4 {m : q_M} {w : Nat} {v : Int32} (hw : w < 6) : P_X9_sets (nI w) 4 v m := z_setsP hw (by decide)
theorem z_M.s4 {m : q_M} {b : Nat → Nat} {t : Nat → Nat → Nat} (h : z_M m b t) {w y : Nat} (hw : w < 6) : z_M (F_X9_sets (nI w) 4 (nI y) m) b (z_ut t w (z_up (t w) 4 y)) := h.set hw (by decide)
theorem z_M.o5 {m : q_M} {b : Nat → Nat} {t : Nat → Nat → Nat} (h : z_M m b t) {w : Nat} (hw : w < 6) : F_X9_of (nI w) 5 m = nI (t w 5) := h.of hw (by decide)
theorem z_p5 {m : q_M} {w : Nat} (hw : w < 6) : P_X9_of (nI w) 5 m := z_ofP hw (by decide)
theorem z_q5 {m : q_M} {w : Nat} {v : Int32} (hw : w < 6) : P_X9_sets (nI w) 5 v m := z_setsP hw (by decide)
theorem z_M.s5 {m : q_M} {b : Nat → Nat} {t : Nat → Nat → Nat} (h : z_M m b t) {w y : Nat} (hw : w < 6) : z_M (F_X9_sets (nI w) 5 (nI y) m) b (z_ut t w (z_up (t w) 5 y)) := h.set hw (by decide)
theorem z_M.o6 {m : q_M} {b : Nat → Nat} {t : Nat → Nat → Nat} (h : z_M m b t) {w : Nat} (hw : w < 6) : F_X9_of (nI w) 6 m = nI (t w 6) := h.of hw (by decide)
theorem z_p6 {m : q_M} {w : Nat} (hw : w < 6) : P_X9_of (nI w) 6 m := z_ofP hw (by decide)
theorem z_q6 {m : q_M} {w : Nat} {v : Int32} (hw : w < 6) : P_X9_sets (nI w) 6 v m := z_setsP hw (by decide)
theorem z_M.s6 {m : q_M} {b : Nat → Nat} {t : Nat → Nat → Nat} (h : z_M m b t) {w y : Nat} (hw : w < 6) : z_M (F_X9_sets (nI w) 6 (nI y) m) b (z_ut t w (z_up (t w) 6 y)) := h.set hw (by decide)
theorem z_M.o7 {m : q_M} {b : Nat → Nat} {t : Nat → Nat → Nat} (h : z_M m b t) {w : Nat} (hw : w < 6) : F_X9_of (nI w) 7 m = nI (t w 7) := h.of hw (by decide)
theorem z_p7 {m : q_M} {w : Nat} (hw : w < 6) : P_X9_of (nI w) 7 m := z_ofP hw (by decide)
theorem z_q7 {m : q_M} {w : Nat} {v : Int32} (hw : w < 6) : P_X9_sets (nI w) 7 v m := z_setsP hw (by decide)
theorem z_M.s7 {m : q_M} {b : Nat → Nat} {t : Nat → Nat → Nat} (h : z_M m b t) {w y : Nat} (hw : w < 6) : z_M (F_X9_sets (nI w) 7 (nI y) m) b (z_ut t w (z_up (t w) 7 y)) := h.set hw (by decide)
theorem z_M.o8 {m : q_M} {b : Nat → Nat} {t : Nat → Nat → Nat} (h : z_M m b t) {w : Nat} (hw : w < 6) : F_X9_of (nI w) 8 m = nI (t w 8) := h.of hw (by decide)
theorem z_p8 {m : q_M} {w : Nat} (hw : w < 6) : P_X9_of (nI w) 8 m := z_ofP hw (by decide)
theorem z_q8 {m : q_M} {w : Nat} {v : Int32} (hw : w < 6) : P_X9_sets (nI w) 8 v m := z_setsP hw (by decide)
theorem z_M.s8 {m : q_M} {b : Nat → Nat} {t : Nat → Nat → Nat} (h : z_M m b t) {w y : Nat} (hw : w < 6) : z_M (F_X9_sets (nI w) 8 (nI y) m) b (z_ut t w (z_up (t w) 8 y)) := h.set hw (by decide)
theorem z_M.o9 {m : q_M} {b : Nat → Nat} {t : Nat → Nat → Nat} (h : z_M m b t) {w : Nat} (hw : w < 6) : F_X9_of (nI w) 9 m = nI (t w 9) := h.of hw (by decide)
theorem z_p9 {m : q_M} {w : Nat} (hw : w < 6) : P_X9_of (nI w) 9 m := z_ofP hw (by decide)
theorem z_q9 {m : q_M} {w : Nat} {v : Int32} (hw : w < 6) : P_X9_sets (nI w) 9 v m := z_setsP hw (by decide)
theorem z_M.s9 {m : q_M} {b : Nat → Nat} {t : Nat → Nat → Nat} (h : z_M m b t) {w y : Nat} (hw : w < 6) : z_M (F_X9_sets (nI w) 9 (nI y) m) b (z_ut t w (z_up (t w) 9 y)) := h.set hw (by decide)
theorem z_M.o10 {m : q_M} {b : Nat → Nat} {t : Nat → Nat → Nat} (h : z_M m b t) {w : Nat} (hw : w < 6) : F_X9_of (nI w) 10 m = nI (t w 10) := h.of hw (by decide)
theorem z_p10 {m : q_M} {w : Nat} (hw : w < 6) : P_X9_of (nI w) 10 m := z_ofP hw (by decide)
theorem z_q10 {m : q_M} {w : Nat} {v : Int32} (hw : w < 6) : P_X9_sets (nI w) 10 v m := z_setsP hw (by decide)
theorem z_M.s10 {m : q_M} {b : Nat → Nat} {t : Nat → Nat → Nat} (h : z_M m b t) {w y : Nat} (hw : w < 6) : z_M (F_X9_sets (nI w) 10 (nI y) m) b (z_ut t w (z_up (t w) 10 y)) := h.set hw (by decide)
theorem z_M.o11 {m : q_M} {b : Nat → Nat} {t : Nat → Nat → Nat} (h : z_M m b t) {w : Nat} (hw : w < 6) : F_X9_of (nI w) 11 m = nI (t w 11) := h.of hw (by decide)
theorem z_p11 {m : q_M} {w : Nat} (hw : w < 6) : P_X9_of (nI w) 11 m := z_ofP hw (by decide)
theorem z_q11 {m : q_M} {w : Nat} {v : Int32} (hw : w < 6) : P_X9_sets (nI w) 11 v m := z_setsP hw (by decide)
theorem z_M.s11 {m : q_M} {b : Nat → Nat} {t : Nat → Nat → Nat} (h : z_M m b t) {w y : Nat} (hw : w < 6) : z_M (F_X9_sets (nI w) 11 (nI y) m) b (z_ut t w (z_up (t w) 11 y)) := h.set hw (by decide)
theorem z_M.o12 {m : q_M} {b : Nat → Nat} {t : Nat → Nat → Nat} (h : z_M m b t) {w : Nat} (hw : w < 6) : F_X9_of (nI w) 12 m = nI (t w 12) := h.of hw (by decide)
theorem z_p12 {m : q_M} {w : Nat} (hw : w < 6) : P_X9_of (nI w) 12 m := z_ofP hw (by decide)
theorem z_q12 {m : q_M} {w : Nat} {v : Int32} (hw : w < 6) : P_X9_sets (nI w) 12 v m := z_setsP hw (by decide)
theorem z_M.s12 {m : q_M} {b : Nat → Nat} {t : Nat → Nat → Nat} (h : z_M m b t) {w y : Nat} (hw : w < 6) : z_M (F_X9_sets (nI w) 12 (nI y) m) b (z_ut t w (z_up (t w) 12 y)) := h.set hw (by decide)
theorem z_M.o13 {m : q_M} {b : Nat → Nat} {t : Nat → Nat → Nat} (h : z_M m b t) {w : Nat} (hw : w < 6) : F_X9_of (nI w) 13 m = nI (t w 13) := h.of hw (by decide)
theorem z_p13 {m : q_M} {w : Nat} (hw : w < 6) : P_X9_of (nI w) 13 m := z_ofP hw (by decide)
theorem z_q13 {m : q_M} {w : Nat} {v : Int32} (hw : w < 6) : P_X9_sets (nI w) 13 v m := z_setsP hw (by decide)
theorem z_M.s13 {m : q_M} {b : Nat → Nat} {t : Nat → Nat → Nat} (h : z_M m b t) {w y : Nat} (hw : w < 6) : z_M (F_X9_sets (nI w) 13 (nI y) m) b (z_ut t w (z_up (t w) 13 y)) := h.set hw (by decide)
theorem z_M.o14 {m : q_M} {b : Nat → Nat} {t : Nat → Nat → Nat} (h : z_M m b t) {w : Nat} (hw : w < 6) : F_X9_of (nI w) 14 m = nI (t w 14) := h.of hw (by decide)
theorem z_p14 {m : q_M} {w : Nat} (hw : w < 6) : P_X9_of (nI w) 14 m := z_ofP hw (by decide)
theorem z_q14 {m : q_M} {w : Nat} {v : Int32} (hw : w < 6) : P_X9_sets (nI w) 14 v m := z_setsP hw (by decide)
theorem z_M.s14 {m : q_M} {b : Nat → Nat} {t : Nat → Nat → Nat} (h : z_M m b t) {w y : Nat} (hw : w < 6) : z_M (F_X9_sets (nI w) 14 (nI y) m) b (z_ut t w (z_up (t w) 14 y)) := h.set hw (by decide)
theorem z_M.o15 {m : q_M} {b : Nat → Nat} {t : Nat → Nat → Nat} (h : z_M m b t) {w : Nat} (hw : w < 6) : F_X9_of (nI w) 15 m = nI (t w 15) := h.of hw (by decide)
theorem z_p15 {m : q_M} {w : Nat} (hw : w < 6) : P_X9_of (nI w) 15 m := z_ofP hw (by decide)
theorem z_q15 {m : q_M} {w : Nat} {v : Int32} (hw : w < 6) : P_X9_sets (nI w) 15 v m := z_setsP hw (by decide)
theorem z_M.s15 {m : q_M} {b : Nat → Nat} {t : Nat → Nat → Nat} (h : z_M m b t) {w y : Nat} (hw : w < 6) : z_M (F_X9_sets (nI w) 15 (nI y) m) b (z_ut t w (z_up (t w) 15 y)) := h.set hw (by decide)
theorem z_M.o16 {m : q_M} {b : Nat → Nat} {t : Nat → Nat → Nat} (h : z_M m b t) {w : Nat} (hw : w < 6) : F_X9_of (nI w) 16 m = nI (t w 16) := h.of hw (by decide)
theorem z_p16 {m : q_M} {w : Nat} (hw : w < 6) : P_X9_of (nI w) 16 m := z_ofP hw (by decide)
theorem z_q16 {m : q_M} {w : Nat} {v : Int32} (hw : w < 6) : P_X9_sets (nI w) 16 v m := z_setsP hw (by decide)
theorem z_M.s16 {m : q_M} {b : Nat → Nat} {t : Nat → Nat → Nat} (h : z_M m b t) {w y : Nat} (hw : w < 6) : z_M (F_X9_sets (nI w) 16 (nI y) m) b (z_ut t w (z_up (t w) 16 y)) := h.set hw (by decide)
theorem z_M.o17 {m : q_M} {b : Nat → Nat} {t : Nat → Nat → Nat} (h : z_M m b t) {w : Nat} (hw : w < 6) : F_X9_of (nI w) 17 m = nI (t w 17) := h.of hw (by decide)
theorem z_p17 {m : q_M} {w : Nat} (hw : w < 6) : P_X9_of (nI w) 17 m := z_ofP hw (by decide)
theorem z_q17 {m : q_M} {w : Nat} {v : Int32} (hw : w < 6) : P_X9_sets (nI w) 17 v m := z_setsP hw (by decide)
theorem z_M.s17 {m : q_M} {b : Nat → Nat} {t : Nat → Nat → Nat} (h : z_M m b t) {w y : Nat} (hw : w < 6) : z_M (F_X9_sets (nI w) 17 (nI y) m) b (z_ut t w (z_up (t w) 17 y)) := h.set hw (by decide)
theorem z_M.o18 {m : q_M} {b : Nat → Nat} {t : Nat → Nat → Nat} (h : z_M m b t) {w : Nat} (hw : w < 6) : F_X9_of (nI w) 18 m = nI (t w 18) := h.of hw (by decide)
theorem z_p18 {m : q_M} {w : Nat} (hw : w < 6) : P_X9_of (nI w) 18 m := z_ofP hw (by decide)
theorem z_q18 {m : q_M} {w : Nat} {v : Int32} (hw : w < 6) : P_X9_sets (nI w) 18 v m := z_setsP hw (by decide)
theorem z_M.s18 {m : q_M} {b : Nat → Nat} {t : Nat → Nat → Nat} (h : z_M m b t) {w y : Nat} (hw : w < 6) : z_M (F_X9_sets (nI w) 18 (nI y) m) b (z_ut t w (z_up (t w) 18 y)) := h.set hw (by decide)
theorem z_T.ln_ {c : q_M} {p w : Nat} {x : Nat → Nat} (h : z_T c p w x) {y : Nat} : z_T (q_up c p 4 (nI y)) p w (z_up x 4 y) := ⟨by rw [q_up_nj (by decide)]; exact h.no, by rw [q_up_nj (by decide)]; exact h.st, by rw [q_up_eq]; rfl, by rw [q_up_nj (by decide)]; exact h.ps, by rw [q_up_nj (by decide)]; exact h.lg, by rw [q_up_nj (by decide)]; exact h.sr, by rw [q_up_nj (by decide)]; exact h.sd, by rw [q_up_nj (by decide)]; exact h.pn, fun e => by rw [q_up_nj (by decide)]; exact h.lp e, by rw [q_up_nj (by decide)]; exact h.tm, by rw [q_up_nj (by decide)]; exact h.lf, by rw [q_up_nj (by decide)]; exact h.df, fun j hj => by rw [q_up_nk (by omega), z_up_n (by omega)]; exact h.sp j hj, fun j hj => by rw [q_up_nk (by omega), z_up_n (by omega)]; exact h.sl j hj⟩
theorem z_T.ps_ {c : q_M} {p w : Nat} {x : Nat → Nat} (h : z_T c p w x) {y : Nat} : z_T (q_up c p 5 (nI y)) p w (z_up x 7 y) := ⟨by rw [q_up_nj (by decide)]; exact h.no, by rw [q_up_nj (by decide)]; exact h.st, by rw [q_up_nj (by decide)]; exact h.ln, by rw [q_up_eq]; rfl, by rw [q_up_nj (by decide)]; exact h.lg, by rw [q_up_nj (by decide)]; exact h.sr, by rw [q_up_nj (by decide)]; exact h.sd, by rw [q_up_nj (by decide)]; exact h.pn, fun e => by rw [q_up_nj (by decide)]; exact h.lp e, by rw [q_up_nj (by decide)]; exact h.tm, by rw [q_up_nj (by decide)]; exact h.lf, by rw [q_up_nj (by decide)]; exact h.df, fun j hj => by rw [q_up_nk (by omega), z_up_n (by omega)]; exact h.sp j hj, fun j hj => by rw [q_up_nk (by omega), z_up_n (by omega)]; exact h.sl j hj⟩
theorem z_T.lg_ {c : q_M} {p w : Nat} {x : Nat → Nat} (h : z_T c p w x) {y : Nat} : z_T (q_up c p 6 (nI y)) p w (z_up x 8 y) := ⟨by rw [q_up_nj (by decide)]; exact h.no, by rw [q_up_nj (by decide)]; exact h.st, by rw [q_up_nj (by decide)]; exact h.ln, by rw [q_up_nj (by decide)]; exact h.ps, by rw [q_up_eq]; rfl, by rw [q_up_nj (by decide)]; exact h.sr, by rw [q_up_nj (by decide)]; exact h.sd, by rw [q_up_nj (by decide)]; exact h.pn, fun e => by rw [q_up_nj (by decide)]; exact h.lp e, by rw [q_up_nj (by decide)]; exact h.tm, by rw [q_up_nj (by decide)]; exact h.lf, by rw [q_up_nj (by decide)]; exact h.df, fun j hj => by rw [q_up_nk (by omega), z_up_n (by omega)]; exact h.sp j hj, fun j hj => by rw [q_up_nk (by omega), z_up_n (by omega)]; exact h.sl j hj⟩
theorem z_T.sr_ {c : q_M} {p w : Nat} {x : Nat → Nat} (h : z_T c p w x) {y : Nat} : z_T (q_up c p 7 (nI y)) p w (z_up x 9 y) := ⟨by rw [q_up_nj (by decide)]; exact h.no, by rw [q_up_nj (by decide)]; exact h.st, by rw [q_up_nj (by decide)]; exact h.ln, by rw [q_up_nj (by decide)]; exact h.ps, by rw [q_up_nj (by decide)]; exact h.lg, by rw [q_up_eq]; rfl, by rw [q_up_nj (by decide)]; exact h.sd, by rw [q_up_nj (by decide)]; exact h.pn, fun e => by rw [q_up_nj (by decide)]; exact h.lp e, by rw [q_up_nj (by decide)]; exact h.tm, by rw [q_up_nj (by decide)]; exact h.lf, by rw [q_up_nj (by decide)]; exact h.df, fun j hj => by rw [q_up_nk (by omega), z_up_n (by omega)]; exact h.sp j hj, fun j hj => by rw [q_up_nk (by omega), z_up_n (by omega)]; exact h.sl j hj⟩
theorem z_T.sd_ {c : q_M} {p w : Nat} {x : Nat → Nat} (h : z_T c p w x) {y : Nat} : z_T (q_up c p 8 (nI y)) p w (z_up x 10 y) := ⟨by rw [q_up_nj (by decide)]; exact h.no, by rw [q_up_nj (by decide)]; exact h.st, by rw [q_up_nj (by decide)]; exact h.ln, by rw [q_up_nj (by decide)]; exact h.ps, by rw [q_up_nj (by decide)]; exact h.lg, by rw [q_up_nj (by decide)]; exact h.sr, by rw [q_up_eq]; rfl, by rw [q_up_nj (by decide)]; exact h.pn, fun e => by rw [q_up_nj (by decide)]; exact h.lp e, by rw [q_up_nj (by decide)]; exact h.tm, by rw [q_up_nj (by decide)]; exact h.lf, by rw [q_up_nj (by decide)]; exact h.df, fun j hj => by rw [q_up_nk (by omega), z_up_n (by omega)]; exact h.sp j hj, fun j hj => by rw [q_up_nk (by omega), z_up_n (by omega)]; exact h.sl j hj⟩
theorem z_T.pn_ {c : q_M} {p w : Nat} {x : Nat → Nat} (h : z_T c p w x) {y : Nat} : z_T (q_up c p 9 (nI y)) p w (z_up x 5 y) := ⟨by rw [q_up_nj (by decide)]; exact h.no, by rw [q_up_nj (by decide)]; exact h.st, by rw [q_up_nj (by decide)]; exact h.ln, by rw [q_up_nj (by decide)]; exact h.ps, by rw [q_up_nj (by decide)]; exact h.lg, by rw [q_up_nj (by decide)]; exact h.sr, by rw [q_up_nj (by decide)]; exact h.sd, by rw [q_up_eq]; rfl, fun e => by rw [q_up_nj (by decide)]; exact h.lp e, by rw [q_up_nj (by decide)]; exact h.tm, by rw [q_up_nj (by decide)]; exact h.lf, by rw [q_up_nj (by decide)]; exact h.df, fun j hj => by rw [q_up_nk (by omega), z_up_n (by omega)]; exact h.sp j hj, fun j hj => by rw [q_up_nk (by omega), z_up_n (by omega)]; exact h.sl j hj⟩
theorem z_T.tm_ {c : q_M} {p w : Nat} {x : Nat → Nat} (h : z_T c p w x) {y : Nat} : z_T (q_up c p 11 (nI y)) p w (z_up x 18 y) := ⟨by rw [q_up_nj (by decide)]; exact h.no, by rw [q_up_nj (by decide)]; exact h.st, by rw [q_up_nj (by decide)]; exact h.ln, by rw [q_up_nj (by decide)]; exact h.ps, by rw [q_up_nj (by decide)]; exact h.lg, by rw [q_up_nj (by decide)]; exact h.sr, by rw [q_up_nj (by decide)]; exact h.sd, by rw [q_up_nj (by decide)]; exact h.pn, fun e => by rw [q_up_nj (by decide)]; exact h.lp e, by rw [q_up_eq]; rfl, by rw [q_up_nj (by decide)]; exact h.lf, by rw [q_up_nj (by decide)]; exact h.df, fun j hj => by rw [q_up_nk (by omega), z_up_n (by omega)]; exact h.sp j hj, fun j hj => by rw [q_up_nk (by omega), z_up_n (by omega)]; exact h.sl j hj⟩
theorem z_T.lf_ {c : q_M} {p w : Nat} {x : Nat → Nat} (h : z_T c p w x) {y : Nat} : z_T (q_up c p 12 (nI y)) p w (z_up x 11 y) := ⟨by rw [q_up_nj (by decide)]; exact h.no, by rw [q_up_nj (by decide)]; exact h.st, by rw [q_up_nj (by decide)]; exact h.ln, by rw [q_up_nj (by decide)]; exact h.ps, by rw [q_up_nj (by decide)]; exact h.lg, by rw [q_up_nj (by decide)]; exact h.sr, by rw [q_up_nj (by decide)]; exact h.sd, by rw [q_up_nj (by decide)]; exact h.pn, fun e => by rw [q_up_nj (by decide)]; exact h.lp e, by rw [q_up_nj (by decide)]; exact h.tm, by rw [q_up_eq]; rfl, by rw [q_up_nj (by decide)]; exact h.df, fun j hj => by rw [q_up_nk (by omega), z_up_n (by omega)]; exact h.sp j hj, fun j hj => by rw [q_up_nk (by omega), z_up_n (by omega)]; exact h.sl j hj⟩
theorem z_T.df_ {c : q_M} {p w : Nat} {x : Nat → Nat} (h : z_T c p w x) {y : Nat} : z_T (q_up c p 13 (nI y)) p w (z_up x 12 y) := ⟨by rw [q_up_nj (by decide)]; exact h.no, by rw [q_up_nj (by decide)]; exact h.st, by rw [q_up_nj (by decide)]; exact h.ln, by rw [q_up_nj (by decide)]; exact h.ps, by rw [q_up_nj (by decide)]; exact h.lg, by rw [q_up_nj (by decide)]; exact h.sr, by rw [q_up_nj (by decide)]; exact h.sd, by rw [q_up_nj (by decide)]; exact h.pn, fun e => by rw [q_up_nj (by decide)]; exact h.lp e, by rw [q_up_nj (by decide)]; exact h.tm, by rw [q_up_nj (by decide)]; exact h.lf, by rw [q_up_eq]; rfl, fun j hj => by rw [q_up_nk (by omega), z_up_n (by omega)]; exact h.sp j hj, fun j hj => by rw [q_up_nk (by omega), z_up_n (by omega)]; exact h.sl j hj⟩
theorem z_T.lp_ {c : q_M} {p w : Nat} {x : Nat → Nat} (h : z_T c p w x) {y : Nat} : z_T (q_up c p 10 (nI y)) p w (z_up x 13 y) := ⟨by rw [q_up_nj (by decide)]; exact h.no, by rw [q_up_nj (by decide)]; exact h.st, by rw [q_up_nj (by decide)]; exact h.ln, by rw [q_up_nj (by decide)]; exact h.ps, by rw [q_up_nj (by decide)]; exact h.lg, by rw [q_up_nj (by decide)]; exact h.sr, by rw [q_up_nj (by decide)]; exact h.sd, by rw [q_up_nj (by decide)]; exact h.pn, fun e => by rw [q_up_eq]; rfl, by rw [q_up_nj (by decide)]; exact h.tm, by rw [q_up_nj (by decide)]; exact h.lf, by rw [q_up_nj (by decide)]; exact h.df, fun j hj => by rw [q_up_nk (by omega), z_up_n (by omega)]; exact h.sp j hj, fun j hj => by rw [q_up_nk (by omega), z_up_n (by omega)]; exact h.sl j hj⟩
theorem z_T.lpf {c : q_M} {p w : Nat} {x : Nat → Nat} (h : z_T c p w x) (h6 : x 6 = 2) {v : Int32} : z_T (q_up c p 10 v) p w x := ⟨by rw [q_up_nj (by decide)]; exact h.no, by rw [q_up_nj (by decide)]; exact h.st, by rw [q_up_nj (by decide)]; exact h.ln, by rw [q_up_nj (by decide)]; exact h.ps, by rw [q_up_nj (by decide)]; exact h.lg, by rw [q_up_nj (by decide)]; exact h.sr, by rw [q_up_nj (by decide)]; exact h.sd, by rw [q_up_nj (by decide)]; exact h.pn, fun e => absurd h6 e, by rw [q_up_nj (by decide)]; exact h.tm, by rw [q_up_nj (by decide)]; exact h.lf, by rw [q_up_nj (by decide)]; exact h.df, fun j hj => by rw [q_up_nk (by omega)]; exact h.sp j hj, fun j hj => by rw [q_up_nk (by omega)]; exact h.sl j hj⟩
theorem z_T.st_ {c : q_M} {p w : Nat} {x : Nat → Nat} (h : z_T c p w x) {y : Nat} (h9 : z_up x 6 y 6 ≠ 2 → c p 10 = nI (x 13)) : z_T (q_up c p 3 (nI (y + 1))) p w (z_up x 6 y) := ⟨by rw [q_up_nj (by decide)]; exact h.no, by rw [q_up_eq]; rfl, by rw [q_up_nj (by decide)]; exact h.ln, by rw [q_up_nj (by decide)]; exact h.ps, by rw [q_up_nj (by decide)]; exact h.lg, by rw [q_up_nj (by decide)]; exact h.sr, by rw [q_up_nj (by decide)]; exact h.sd, by rw [q_up_nj (by decide)]; exact h.pn, fun e => by rw [q_up_nj (by decide)]; exact h9 e, by rw [q_up_nj (by decide)]; exact h.tm, by rw [q_up_nj (by decide)]; exact h.lf, by rw [q_up_nj (by decide)]; exact h.df, fun j hj => by rw [q_up_nk (by omega), z_up_n (by omega)]; exact h.sp j hj, fun j hj => by rw [q_up_nk (by omega), z_up_n (by omega)]; exact h.sl j hj⟩
theorem z_T.sp_ {c : q_M} {p w : Nat} {x : Nat → Nat} (h : z_T c p w x) {j y : Nat} (hj : j < 4) : z_T (q_up c (p + 1) j (nI y)) p w (z_up x j y) := ⟨by rw [q_up_nk (by omega)]; exact h.no, by rw [q_up_nk (by omega), z_up_n (by omega)]; exact h.st, by rw [q_up_nk (by omega), z_up_n (by omega)]; exact h.ln, by rw [q_up_nk (by omega), z_up_n (by omega)]; exact h.ps, by rw [q_up_nk (by omega), z_up_n (by omega)]; exact h.lg, by rw [q_up_nk (by omega), z_up_n (by omega)]; exact h.sr, by rw [q_up_nk (by omega), z_up_n (by omega)]; exact h.sd, by rw [q_up_nk (by omega), z_up_n (by omega)]; exact h.pn, fun e => by rw [q_up_nk (by omega), z_up_n (by omega)]; exact h.lp (by rw [z_up_n (by omega)] at e; exact e), by rw [q_up_nk (by omega), z_up_n (by omega)]; exact h.tm, by rw [q_up_nk (by omega), z_up_n (by omega)]; exact h.lf, by rw [q_up_nk (by omega), z_up_n (by omega)]; exact h.df, fun i hi => by
  by_cases e : i = j
  · subst e; rw [q_up_eq, z_up_s]
  · rw [q_up_nj e, z_up_n e]; exact h.sp i hi, fun i hi => by rw [q_up_nk (by omega), z_up_n (by omega)]; exact h.sl i hi⟩
theorem z_T.sl_ {c : q_M} {p w : Nat} {x : Nat → Nat} (h : z_T c p w x) {j y : Nat} (hj : j < 4) : z_T (q_up c (p + 2) j (nI y)) p w (z_up x (14 + j) (y + 1)) := ⟨by rw [q_up_nk (by omega)]; exact h.no, by rw [q_up_nk (by omega), z_up_n (by omega)]; exact h.st, by rw [q_up_nk (by omega), z_up_n (by omega)]; exact h.ln, by rw [q_up_nk (by omega), z_up_n (by omega)]; exact h.ps, by rw [q_up_nk (by omega), z_up_n (by omega)]; exact h.lg, by rw [q_up_nk (by omega), z_up_n (by omega)]; exact h.sr, by rw [q_up_nk (by omega), z_up_n (by omega)]; exact h.sd, by rw [q_up_nk (by omega), z_up_n (by omega)]; exact h.pn, fun e => by rw [q_up_nk (by omega), z_up_n (by omega)]; exact h.lp (by rw [z_up_n (by omega)] at e; exact e), by rw [q_up_nk (by omega), z_up_n (by omega)]; exact h.tm, by rw [q_up_nk (by omega), z_up_n (by omega)]; exact h.lf, by rw [q_up_nk (by omega), z_up_n (by omega)]; exact h.df, fun i hi => by rw [q_up_nk (by omega), z_up_n (by omega)]; exact h.sp i hi, fun i hi => by
  by_cases e : i = j
  · subst e; rw [q_up_eq, z_up_s, Nat.add_sub_cancel]
  · rw [q_up_nj e, z_up_n (by omega)]; exact h.sl i hi⟩
theorem z_T.off {c c2 : q_M} {p w : Nat} {x : Nat → Nat} (h : z_T c p w x) (e0 : c2 p = c p) (e1 : c2 (p + 1) = c (p + 1)) (e2 : c2 (p + 2) = c (p + 2)) : z_T c2 p w x := ⟨by rw [e0]; exact h.no, by rw [e0]; exact h.st, by rw [e0]; exact h.ln, by rw [e0]; exact h.ps, by rw [e0]; exact h.lg, by rw [e0]; exact h.sr, by rw [e0]; exact h.sd, by rw [e0]; exact h.pn, fun e => by rw [e0]; exact h.lp e, by rw [e0]; exact h.tm, by rw [e0]; exact h.lf, by rw [e0]; exact h.df, fun i hi => by rw [e1]; exact h.sp i hi, fun i hi => by rw [e2]; exact h.sl i hi⟩
theorem z_N.off {c c2 : q_M} {p w : Nat} (h : z_N c p w) (e0 : c2 p = c p) (e1 : c2 (p + 1) = c (p + 1)) (e2 : c2 (p + 2) = c (p + 2)) : z_N c2 p w := ⟨by rw [e0]; exact h.no, by rw [e0]; exact h.st, by rw [e0]; exact h.ln, fun j h5 hj => by rw [e0]; exact h.z j h5 hj, fun i hi => by rw [e1]; exact h.sp i hi, fun i hi => by rw [e2]; exact h.sl i hi⟩
theorem z_T.cg {c : q_M} {p w : Nat} {x y : Nat → Nat} (h : z_T c p w x) (e : ∀ k, k < 19 → x k = y k) : z_T c p w y := ⟨h.no, by rw [← e 6 (by decide)]; exact h.st, by rw [← e 4 (by decide)]; exact h.ln, by rw [← e 7 (by decide)]; exact h.ps, by rw [← e 8 (by decide)]; exact h.lg, by rw [← e 9 (by decide)]; exact h.sr, by rw [← e 10 (by decide)]; exact h.sd, by rw [← e 5 (by decide)]; exact h.pn, fun e6 => by rw [← e 13 (by decide)]; exact h.lp (by rw [e 6 (by decide)]; exact e6), by rw [← e 18 (by decide)]; exact h.tm, by rw [← e 11 (by decide)]; exact h.lf, by rw [← e 12 (by decide)]; exact h.df, fun j hj => by rw [← e j (by omega)]; exact h.sp j hj, fun j hj => by rw [← e (14 + j) (by omega)]; exact h.sl j hj⟩
