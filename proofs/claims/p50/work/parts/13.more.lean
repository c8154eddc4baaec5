/-! More rows: outcomes of methods that may throw, Math, places. -/
/-- a value by a name -/
def q_L {α β : Type} (x : α) (f : α → β) : β := f x
theorem q_let {α β : Type} {X : α} {f : α → β} {r : β} {x : α} (e : X = x) (h : q_L X f = r) : f x = r := by
  rw [← e]
  exact h
theorem q_cg {α : Type} (P : α → Prop) {x y : α} (e : x = y) (h : P x) : P y := by
  rw [← e]
  exact h
def q_L2 {α β γ : Type} (x : α × β) (f : α → β → γ) : γ := f x.1 x.2
theorem q_let2 {α β γ : Type} {X : α × β} {f : α → β → γ} {r : γ} {x : α} {y : β} (e : X = (x, y)) (h : q_L2 X f = r) : f x y = r := by
  rw [e] at h
  exact h
def q_oo (r : Option Nat) : q_O := match r with | none => q_on | some k => q_or k
def q_oxi (r : Int32 ⊕ String) : q_O := match r with | .inl x => q_oi x | .inr E => q_ox E
def q_oxr (r : Nat ⊕ String) : q_O := match r with | .inl k => q_or k | .inr E => q_ox E
def q_oxv (r : Option String) : q_O := match r with | none => q_ov | some E => q_ox E
def q_max (x y : Int32) : Int32 := if x < y then y else x
def q_min (x y : Int32) : Int32 := if y < x then y else x
theorem q_u32 {x y : Int32} (h : x.toUInt32 = y.toUInt32) : x = y := congrArg Int32.ofUInt32 h
theorem q_kd_sp {t : Nat} (h : q_kd t = 7) : q_kd (t + 1) = 20 := by
  have := q_kd_lt h (by decide)
  revert h
  revert t
  decide +kernel
theorem q_kd_sl {t : Nat} (h : q_kd t = 7) : q_kd (t + 2) = 20 := by
  have := q_kd_lt h (by decide)
  revert h
  revert t
  decide +kernel
theorem q_kd_ta {t : Nat} (h : q_kd t = 6) : q_kd (t + 1) = 30 := by
  have := q_kd_lt h (by decide)
  revert h
  revert t
  decide +kernel
theorem q_kd_te' : ∀ r, r < 229 → q_kd r = 30 → ∀ i, i < 6 → q_kd (r + 1 + 3 * i) = 7 := by decide +kernel
theorem q_vi {x : Int32} {n : Nat} (h : vp_in x n) : x.toNatClampNeg < n := by
  unfold vp_in at h
  rcases Nat.lt_or_ge x.toNatClampNeg n with q | q
  · exact q
  · exact absurd (Or.inr q) h
theorem q_vlt {x y : Int32} {n : Nat} (h0 : ¬ x < 0) (h1 : x < y) (hy : y = nI n) (hn : n < 2 ^ 31) : vp_in x n := by
  subst hy
  rw [vp_in_iff]
  have h2 : ¬ x.toInt < 0 := fun q => h0 (Int32.lt_iff_toInt_lt.mpr q)
  have h3 := Int32.lt_iff_toInt_lt.mp h1
  rw [nI_toInt hn] at h3
  omega
theorem q_kd_te {t : Nat} {x : Int32} (h : q_kd t = 30) (hx : vp_in x 6) : q_kd (t + 1 + 3 * x.toNatClampNeg) = 7 := q_kd_te' t (q_kd_lt h (by decide)) h _ (q_vi hx)
theorem q_kd_ro' : ∀ i, i < 8 → q_kd (60 + 20 * i) = 6 := by decide +kernel
theorem q_kd_ro {x : Int32} (hx : vp_in x 8) : q_kd (60 + 20 * x.toNatClampNeg) = 6 := q_kd_ro' _ (q_vi hx)
theorem q_len7 {t : Nat} (h : q_kd t = 7) : q_len (t + 1) = 4 ∧ q_len (t + 2) = 4 := by
  have := q_kd_lt h (by decide)
  revert h
  revert t
  decide +kernel
set_option maxRecDepth 100000 in
theorem q_mx1 : Cond.static Lib.Math.max.name ∈ q_W := q_t1 192 rfl rfl
set_option maxRecDepth 100000 in
theorem q_mx2 : Cond.code Lib.Math.max.name Lib.Math.max.code 2 (some .int) ∈ q_W := q_t1 193 rfl rfl
set_option maxRecDepth 100000 in
theorem q_mn1 : Cond.static Lib.Math.min.name ∈ q_W := q_t1 210 rfl rfl
set_option maxRecDepth 100000 in
theorem q_mn2 : Cond.code Lib.Math.min.name Lib.Math.min.code 2 (some .int) ∈ q_W := q_t1 211 rfl rfl
set_option maxRecDepth 100000 in
theorem lk_X8_417 : Cond.methodLink RX8 417 Lib.Math.max.name ∈ q_W := q_t3 138 rfl rfl
set_option maxRecDepth 100000 in
theorem lk_X2_29 : Cond.methodLink RX2 29 Lib.Math.min.name ∈ q_W := q_t3 94 rfl rfl
set_option maxRecDepth 100000 in
theorem lk_X3_65 : Cond.methodLink RX3 65 Lib.Math.max.name ∈ q_W := q_t6 6 rfl rfl
set_option maxRecDepth 100000 in
theorem lk_X6_92 : Cond.methodLink RX6 92 Lib.Math.min.name ∈ q_W := q_t3 139 rfl rfl
theorem nl_X4_88 : Cond.methodLinkNest RX4 88 yX8_isLeg "QuillRelay" ∈ q_NW := List.mem_of_getElem? (i := 5) rfl
theorem nl_X4_106 : Cond.methodLinkNest RX4 106 yX8_isKind "QuillRelay" ∈ q_NW := List.mem_of_getElem? (i := 4) rfl
theorem nl_X6_34 : Cond.methodLinkNest RX6 34 yX8_copyRow "QuillRelay" ∈ q_NW := List.mem_of_getElem? (i := 0) rfl
theorem nl_X6_66 : Cond.methodLinkNest RX6 66 yX8_at "QuillRelay" ∈ q_NW := List.mem_of_getElem? (i := 1) rfl
theorem nl_X6_70 : Cond.methodLinkNest RX6 70 yX8_put "QuillRelay" ∈ q_NW := List.mem_of_getElem? (i := 3) rfl
theorem nl_X6_88 : Cond.methodLinkNest RX6 88 yX8_pace "QuillRelay" ∈ q_NW := List.mem_of_getElem? (i := 2) rfl
set_option maxRecDepth 100000 in
theorem xk_IllegalArgumentException : q_xk "java/lang/IllegalArgumentException" 205 209 := ⟨by decide +kernel, by decide +kernel, q_t3 51 rfl rfl, q_t1 18 rfl rfl, fun w h => q_W_in ((by decide +kernel : ∀ w ∈ (vx_atS RX8 209 "java/lang/IllegalArgumentException" q_sup).filter goodWord, w ∈ lw_tbl) w h) (List.mem_filter.mp h).2, by decide +kernel, by decide +kernel⟩
set_option maxRecDepth 100000 in
theorem xk_ArithmeticException : q_xk "java/lang/ArithmeticException" 246 250 := ⟨by decide +kernel, by decide +kernel, q_t6 147 rfl rfl, q_t1 24 rfl rfl, fun w h => q_W_in ((by decide +kernel : ∀ w ∈ (vx_atS RX8 250 "java/lang/ArithmeticException" q_sup).filter goodWord, w ∈ lw_tbl) w h) (List.mem_filter.mp h).2, by decide +kernel, by decide +kernel⟩
set_option maxRecDepth 100000 in
theorem xk_IllegalStateException : q_xk "java/lang/IllegalStateException" 261 265 := ⟨by decide +kernel, by decide +kernel, q_t3 55 rfl rfl, q_t1 19 rfl rfl, fun w h => q_W_in ((by decide +kernel : ∀ w ∈ (vx_atS RX8 265 "java/lang/IllegalStateException" q_sup).filter goodWord, w ∈ lw_tbl) w h) (List.mem_filter.mp h).2, by decide +kernel, by decide +kernel⟩
set_option maxRecDepth 100000 in
theorem xk_UnsupportedOperationException : q_xk "java/lang/UnsupportedOperationException" 266 270 := ⟨by decide +kernel, by decide +kernel, q_t3 73 rfl rfl, q_t1 20 rfl rfl, fun w h => q_W_in ((by decide +kernel : ∀ w ∈ (vx_atS RX8 270 "java/lang/UnsupportedOperationException" q_sup).filter goodWord, w ∈ lw_tbl) w h) (List.mem_filter.mp h).2, by decide +kernel, by decide +kernel⟩
set_option maxRecDepth 100000 in
theorem xk_IndexOutOfBoundsException : q_xk "java/lang/IndexOutOfBoundsException" 293 297 := ⟨by decide +kernel, by decide +kernel, q_t1 49 rfl rfl, q_t1 17 rfl rfl, fun w h => q_W_in ((by decide +kernel : ∀ w ∈ (vx_atS RX8 297 "java/lang/IndexOutOfBoundsException" q_sup).filter goodWord, w ∈ lw_tbl) w h) (List.mem_filter.mp h).2, by decide +kernel, by decide +kernel⟩
section q13
variable {α β : Nat → Nat} {D : va_G} {κ : Nat → ClassId} {p : Program} {l : Launch} {e : Env} {R : Room} {s : State} {m : MethodId} {args : Array Value} {below : List Frame} {meth : Method} {c : Code} {cc : ByteArray} {own : String} {F : Nat → Option (Nat × Nat)} {G : Nat → Option Int32} {nL : Nat} {A : Nat → Prop} {Q : State → Prop} {n1 n2 : Nat}
theorem q_mmax (C : q_Cx α β D κ p s m args meth c cc own F G nL A) {idx pc : Nat} {σ : q_M} {lv : q_Lv} {rest : List Value} {x y : Int32} (hlnk : Cond.methodLink own idx Lib.Math.max.name ∈ q_W) (hd : decode cc pc = .ok (.invokestatic idx, 3)) (hrest : (rest.map fun v => v.category).sum ≤ 8) (hR : 1 ≤ R.frames ∧ 21 ≤ R.locals) (hcs : n1 ≤ R.cells ∧ n2 ≤ R.slots) (kk : q_St α β D κ p l e R s m args below meth c nL A Q (n1) (n2) σ lv (pc + 3) (.int (q_max x y) :: rest)) : q_St α β D κ p l e R s m args below meth c nL A Q (n1) (n2) σ lv pc (.int y :: .int x :: rest) := by
  obtain ⟨hx, hb, hml, hown, hts, hK, hE, hA, hlk, hF, hG⟩ := C
  intro Y H locs ls hY hP hD hS hl
  exact va_mmax hx hb (hml.trans hl.1.symm) hown (hts _ hlnk) (hts _ q_mx1) (hts _ q_init_java_lang_Math) (hts _ q_mx2) hR.1 (Nat.le_trans (Nat.add_le_add_right (q_sum_cat hrest) _) hR.2) hcs.1 hcs.2 hd (kk Y H locs ls hY hP hD hS hl)
theorem q_mmin (C : q_Cx α β D κ p s m args meth c cc own F G nL A) {idx pc : Nat} {σ : q_M} {lv : q_Lv} {rest : List Value} {x y : Int32} (hlnk : Cond.methodLink own idx Lib.Math.min.name ∈ q_W) (hd : decode cc pc = .ok (.invokestatic idx, 3)) (hrest : (rest.map fun v => v.category).sum ≤ 8) (hR : 1 ≤ R.frames ∧ 21 ≤ R.locals) (hcs : n1 ≤ R.cells ∧ n2 ≤ R.slots) (kk : q_St α β D κ p l e R s m args below meth c nL A Q (n1) (n2) σ lv (pc + 3) (.int (q_min x y) :: rest)) : q_St α β D κ p l e R s m args below meth c nL A Q (n1) (n2) σ lv pc (.int y :: .int x :: rest) := by
  obtain ⟨hx, hb, hml, hown, hts, hK, hE, hA, hlk, hF, hG⟩ := C
  intro Y H locs ls hY hP hD hS hl
  exact va_mmin hx hb (hml.trans hl.1.symm) hown (hts _ hlnk) (hts _ q_mn1) (hts _ q_init_java_lang_Math) (hts _ q_mn2) hR.1 (Nat.le_trans (Nat.add_le_add_right (q_sum_cat hrest) _) hR.2) hcs.1 hcs.2 hd (kk Y H locs ls hY hP hD hS hl)
theorem q_lvpick (ks : List Nat) {lv lv' : q_Lv} {σ : q_M} {pc : Nat} {st : List Value} (h : lv_pick lv ks = lv') (kk : q_St α β D κ p l e R s m args below meth c nL A Q (n1) (n2) σ lv' pc st) : q_St α β D κ p l e R s m args below meth c nL A Q (n1) (n2) σ lv pc st := by
  refine q_lvsub (fun q hq => ?_) kk
  rw [← h] at hq
  obtain ⟨k, -, hk⟩ := List.mem_filterMap.mp hq
  exact List.mem_of_getElem? hk
theorem q_nrm {σ : q_M} {lv : q_Lv} {pc : Nat} {st : List Value} (pc1 : Nat) (st1 : List Value) (k1 k2 : Nat) (hp : pc = pc1) (hs : st = st1) (h1 : n1 = k1) (h2 : n2 = k2) (kk : q_St α β D κ p l e R s m args below meth c nL A Q k1 k2 σ lv pc1 st1) : q_St α β D κ p l e R s m args below meth c nL A Q (n1) (n2) σ lv pc st := by
  subst hp
  subst hs
  subst h1
  subst h2
  exact kk
theorem q_mrg {σ : q_M} {lv : q_Lv} {pc : Nat} {st : List Value} (v : Int32) (M : Nat) (σ1 : q_M) (lv1 : q_Lv) (st1 : List Value) (kk : ∀ x : Int32, v = x → q_St α β D κ p l e R s m args below meth c nL A Q (n1) (n2) σ1 lv1 M (.int x :: st1)) (h : q_St α β D κ p l e R s m args below meth c nL A Q (n1) (n2) σ1 lv1 M (.int v :: st1) → q_St α β D κ p l e R s m args below meth c nL A Q (n1) (n2) σ lv pc st) : q_St α β D κ p l e R s m args below meth c nL A Q (n1) (n2) σ lv pc st := h (kk v rfl)
def q_rg (x : Int32) : Int32 := [3, 1, 1, 0, 2].getD x.toUInt32.toNat 0
def q_okS (x : Int32) : Prop := x.toUInt32.toNat < 5
theorem q_getR (C : q_Cx α β D κ p s m args meth c cc own F G nL A) {idx pc : Nat} {σ : q_M} {lv : q_Lv} {rest : List Value} {x : Int32} (hlnk : Cond.fieldLink own idx "QuillRelay$Stage" "rankGroup" "I" ∈ q_W) (hd : decode cc pc = .ok (.getfield idx, 3)) (hx : q_okS x) (kk : q_St α β D κ p l e R s m args below meth c nL A Q (n1) (n2) σ lv (pc + 3) (.int (q_rg x) :: rest)) : q_St α β D κ p l e R s m args below meth c nL A Q (n1) (n2) σ lv pc (q_e x :: rest) := by
  obtain ⟨ha, hb, hml, hown, hts, hK, hE, hA, hlk, hF, hG⟩ := C
  intro Y H locs ls hY hP hD hS hl
  exact va_getE ha hb hE.1 (i := x.toUInt32.toNat) hx hS hown (q := ("QuillRelay$Stage", "rankGroup", "I", [3, 1, 1, 0, 2])) List.mem_cons_self (hts _ hlnk) (fun _ h9 => h9) hd (kk Y H locs ls hY hP hD hS hl)
set_option maxRecDepth 100000 in
theorem rk_X6_98 : Cond.fieldLink RX6 98 "QuillRelay$Stage" "rankGroup" "I" ∈ q_W := q_t6 202 rfl rfl
theorem q_ldc (C : q_Cx α β D κ p s m args meth c cc own F G nL A) {idx pc : Nat} {σ : q_M} {lv : q_Lv} {rest : List Value} {v : Int32} (hw : Cond.constant own idx v ∈ q_W) (hd : decode cc pc = .ok (.ldc idx, 2)) (kk : q_St α β D κ p l e R s m args below meth c nL A Q (n1) (n2) σ lv (pc + 2) (.int v :: rest)) : q_St α β D κ p l e R s m args below meth c nL A Q (n1) (n2) σ lv pc rest := by
  obtain ⟨ha, hb, hml, hown, hts, hK, hE, hA, hlk, hF, hG⟩ := C
  intro Y H locs ls hY hP hD hS hl
  exact lv_ldc ha hb hown (hts _ hw) hd (kk Y H locs ls hY hP hD hS hl)
set_option maxRecDepth 100000 in
theorem ck_X6_97 : Cond.constant RX6 97 1000000 ∈ q_W := q_t4 60 rfl rfl
set_option maxRecDepth 100000 in
theorem ck_L_7 : Cond.constant RL 7 69069 ∈ q_W := q_t4 113 rfl rfl
set_option maxRecDepth 100000 in
theorem ck_L_8 : Cond.constant RL 8 1103515245 ∈ q_W := q_t4 114 rfl rfl
set_option maxRecDepth 100000 in
theorem ck_L_17 : Cond.constant RL 17 (-900001) ∈ q_W := q_t3 103 rfl rfl
set_option maxRecDepth 100000 in
theorem ck_L_26 : Cond.constant RL 26 (-900002) ∈ q_W := q_t3 148 rfl rfl
set_option maxRecDepth 100000 in
theorem ck_L_27 : Cond.constant RL 27 (-900003) ∈ q_W := q_t3 175 rfl rfl
set_option maxRecDepth 100000 in
theorem ck_L_95 : Cond.constant RL 95 2147483647 ∈ q_W := q_t4 115 rfl rfl
set_option maxRecDepth 100000 in
theorem ck_L_109 : Cond.constant RL 109 (-900009) ∈ q_W := q_t5 184 rfl rfl
set_option maxRecDepth 100000 in
theorem ck_L_132 : Cond.constant RL 132 (-90000000) ∈ q_W := q_t5 130 rfl rfl
set_option maxRecDepth 100000 in
theorem ck_L_267 : Cond.constant RL 267 (-900000) ∈ q_W := q_t6 167 rfl rfl
end q13
