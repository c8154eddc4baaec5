/-! Rows for the law: its script, its rows of 130 ints, its text; values that are there. -/
def q_us (x y : Int32) : Int32 := (x.toUInt32 >>> (y.toUInt32 &&& Int32.toUInt32 31)).toInt32
def q_isl (r : Int32 ⊕ String) : Prop := ∃ v, r = .inl v
def q_gi (r : Int32 ⊕ String) : Int32 := match r with | .inl v => v | .inr _ => 0
def q_isd (r : UInt64 ⊕ String) : Prop := ∃ v, r = .inl v
def q_gd (r : UInt64 ⊕ String) : UInt64 := match r with | .inl v => v | .inr _ => 0
theorem q_oxi_l {r : Int32 ⊕ String} (h : q_isl r) : q_oxi r = q_oi (q_gi r) := by
  obtain ⟨v, rfl⟩ := h
  rfl
theorem q_oxd_l {r : UInt64 ⊕ String} (h : q_isd r) : q_oxd r = q_od (q_gd r) := by
  obtain ⟨v, rfl⟩ := h
  rfl
/-- a row that the law has made -/
def q_row (α : Nat → Nat) (k : Nat) : Prop := 229 ≤ k ∧ k < q_N α
theorem q_kd_99 {k : Nat} (h : 229 ≤ k) : q_kd k = 99 := by
  unfold q_kd
  rw [if_neg (by omega)]
  split <;> first | omega | rfl
theorem q_at_row {α β : Nat → Nat} {κ : Nat → ClassId} {Y : q_H} {σ : q_M} {k : Nat} (h : q_row α k) : (q_ws α β κ Y σ)[k]? = some (α k, .inl (κ 0, 130, .inl (σ k))) := by
  have h1 := h.1
  rw [q_ws_atx h.2, q_ad_of (q_kd_99 h.1) (by decide)]
  unfold q_pc
  rw [q_kd_99 h.1]
  rfl
theorem q_set_row {α β : Nat → Nat} {κ : Nat → ClassId} {Y : q_H} {σ : q_M} {k b : Nat} {x : Int32} (h : q_row α k) : (q_ws α β κ Y σ).set k (α k, .inl (κ 0, 130, .inl (upd (σ k) b x))) = q_ws α β κ Y (q_up σ k b x) := by
  rw [← q_ad_of (α := α) (Y := Y) (q_kd_99 h.1) (by decide)]
  refine q_ws_setx h.2 ?_
  unfold q_pc
  rw [q_kd_99 h.1]
  rfl
theorem q_EF.tx {α β : Nat → Nat} {A : Nat → Prop} {U : State} {H : Heap} (h : q_EF α β A U H) : q_TX α A U H := h.2.2.2.2.2.2.2.2.2.1.2.2.2.2.2.2.2
theorem q_rng {x : Int32} {lo hi : Int} (f : ∀ z : Int, lo ≤ z → z ≤ hi → ¬ x.toInt = z) : x.toInt < lo ∨ hi < x.toInt := by
  rcases (show x.toInt < lo ∨ hi < x.toInt ∨ (lo ≤ x.toInt ∧ x.toInt ≤ hi) by omega) with h | h | ⟨h1, h2⟩
  · exact Or.inl h
  · exact Or.inr h
  · exact absurd rfl (f _ h1 h2)
theorem q_rg0_22 {x : Int32} (f : ∀ z : Int32, (z = 0 ∨ z = 1 ∨ z = 2 ∨ z = 3 ∨ z = 4 ∨ z = 5 ∨ z = 6 ∨ z = 7 ∨ z = 8 ∨ z = 9 ∨ z = 10 ∨ z = 11 ∨ z = 12 ∨ z = 13 ∨ z = 14 ∨ z = 15 ∨ z = 16 ∨ z = 17 ∨ z = 18 ∨ z = 19 ∨ z = 20 ∨ z = 21 ∨ z = 22) → ¬ x = z) : x.toInt < 0 ∨ 22 < x.toInt := by
  refine q_rng (fun z h1 h2 hx => ?_)
  have e : x = Int32.ofInt z := by rw [← hx, Int32.ofInt_toInt]
  rcases (show z = 0 ∨ z = 1 ∨ z = 2 ∨ z = 3 ∨ z = 4 ∨ z = 5 ∨ z = 6 ∨ z = 7 ∨ z = 8 ∨ z = 9 ∨ z = 10 ∨ z = 11 ∨ z = 12 ∨ z = 13 ∨ z = 14 ∨ z = 15 ∨ z = 16 ∨ z = 17 ∨ z = 18 ∨ z = 19 ∨ z = 20 ∨ z = 21 ∨ z = 22 by omega) with rfl | rfl | rfl | rfl | rfl | rfl | rfl | rfl | rfl | rfl | rfl | rfl | rfl | rfl | rfl | rfl | rfl | rfl | rfl | rfl | rfl | rfl | rfl <;> exact f x (by rw [e]; decide +kernel) rfl
section q43
variable {α β : Nat → Nat} {D : va_G} {κ : Nat → ClassId} {p : Program} {l : Launch} {e : Env} {R : Room} {s : State} {m : MethodId} {args : Array Value} {below : List Frame} {meth : Method} {c : Code} {cc : ByteArray} {own : String} {F : Nat → Option (Nat × Nat)} {G : Nat → Option Int32} {nL : Nat} {A : Nat → Prop} {Q : State → Prop} {n1 n2 : Nat} {pc : Nat} {σ : q_M} {lv : q_Lv} {rest st : List Value} {x y : Int32}
theorem q_wdn {k1 k2 : Nat} (h1 : n1 ≤ k1) (h2 : n2 ≤ k2) (kk : q_St α β D κ p l e R s m args below meth c nL A Q k1 k2 σ lv pc st) : q_St α β D κ p l e R s m args below meth c nL A Q n1 n2 σ lv pc st :=
  fun Y H locs ls hY hP hD hS hl => W.widen h1 h2 (kk Y H locs ls hY hP hD hS hl)
theorem q_nmI {X : Int32} (kk : ∀ x, X = x → q_St α β D κ p l e R s m args below meth c nL A Q n1 n2 σ lv pc (.int x :: rest)) : q_St α β D κ p l e R s m args below meth c nL A Q n1 n2 σ lv pc (.int X :: rest) := kk X rfl
theorem q_nmM {X : q_M} (kk : ∀ x, X = x → q_St α β D κ p l e R s m args below meth c nL A Q n1 n2 x lv pc st) : q_St α β D κ p l e R s m args below meth c nL A Q n1 n2 X lv pc st := kk X rfl
theorem q_jn (M : Nat) (σ1 : q_M) (lv1 : q_Lv) (st1 : List Value) (k1 k2 : Nat) (kk : q_St α β D κ p l e R s m args below meth c nL A Q k1 k2 σ1 lv1 M st1) (h : q_St α β D κ p l e R s m args below meth c nL A Q k1 k2 σ1 lv1 M st1 → q_St α β D κ p l e R s m args below meth c nL A Q n1 n2 σ lv pc st) : q_St α β D κ p l e R s m args below meth c nL A Q n1 n2 σ lv pc st := h kk
theorem q_mrgW (v : Int32) (M : Nat) (σ1 : q_M) (lv1 : q_Lv) (st1 : List Value) (k1 k2 : Nat) (kk : ∀ x : Int32, v = x → q_St α β D κ p l e R s m args below meth c nL A Q k1 k2 σ1 lv1 M (.int x :: st1)) (h : q_St α β D κ p l e R s m args below meth c nL A Q k1 k2 σ1 lv1 M (.int v :: st1) → q_St α β D κ p l e R s m args below meth c nL A Q n1 n2 σ lv pc st) : q_St α β D κ p l e R s m args below meth c nL A Q n1 n2 σ lv pc st := h (kk v rfl)
theorem q_ixor (C : q_Cx α β D κ p s m args meth c cc own F G nL A) (hd : decode cc pc = .ok (.ixor, 1)) (kk : q_St α β D κ p l e R s m args below meth c nL A Q n1 n2 σ lv (pc + 1) (.int (x ^^^ y) :: rest)) : q_St α β D κ p l e R s m args below meth c nL A Q n1 n2 σ lv pc (.int y :: .int x :: rest) :=
  fun Y H locs ls hY hP hD hS hl => lv_ixor C.1 C.2.1 hd (kk Y H locs ls hY hP hD hS hl)
theorem q_iushr (C : q_Cx α β D κ p s m args meth c cc own F G nL A) (hd : decode cc pc = .ok (.iushr, 1)) (kk : q_St α β D κ p l e R s m args below meth c nL A Q n1 n2 σ lv (pc + 1) (.int (q_us x y) :: rest)) : q_St α β D κ p l e R s m args below meth c nL A Q n1 n2 σ lv pc (.int y :: .int x :: rest) :=
  fun Y H locs ls hY hP hD hS hl => lv_iushr C.1 C.2.1 hd rfl (kk Y H locs ls hY hP hD hS hl)
theorem q_dcmp (C : q_Cx α β D κ p s m args meth c cc own F G nL A) {u w : UInt64} {op : CmpOp} (hd : decode cc pc = .ok (.dcmp op, 1)) (kk : q_St α β D κ p l e R s m args below meth c nL A Q n1 n2 σ lv (pc + 1) (.int (Op.cmpValue (FP.dcmp u w) op) :: rest)) : q_St α β D κ p l e R s m args below meth c nL A Q n1 n2 σ lv pc (.double w :: .double u :: rest) :=
  fun Y H locs ls hY hP hD hS hl => lv_dcmp C.1 C.2.1 hd (kk Y H locs ls hY hP hD hS hl)
theorem q_scLen (C : q_Cx α β D κ p s m args meth c cc own F G nL A) (hd : decode cc pc = .ok (.arraylength, 1)) (kk : q_St α β D κ p l e R s m args below meth c nL A Q n1 n2 σ lv (pc + 1) (.int (nI (α 336)) :: rest)) : q_St α β D κ p l e R s m args below meth c nL A Q n1 n2 σ lv pc (.ref 335 :: rest) := by
  obtain ⟨hx, hb, hml, hown, hts, hK, hE, hA, hlk, hF, hG⟩ := C
  intro Y H locs ls hY hP hD hS hl
  exact va_tlen hx hb hE.tx.2.2.2.1 hS (v := nI (α 336)) rfl hd (kk Y H locs ls hY hP hD hS hl)
theorem q_scAt (C : q_Cx α β D κ p s m args meth c cc own F G nL A) (hi : vp_in x (α 336)) (hd : decode cc pc = .ok (.iaload, 1)) (kk : q_St α β D κ p l e R s m args below meth c nL A Q n1 n2 σ lv (pc + 1) (.int (q_scr α x.toNatClampNeg) :: rest)) : q_St α β D κ p l e R s m args below meth c nL A Q n1 n2 σ lv pc (.int x :: .ref 335 :: rest) := by
  obtain ⟨hx, hb, hml, hown, hts, hK, hE, hA, hlk, hF, hG⟩ := C
  intro Y H locs ls hY hP hD hS hl
  exact va_ti hx hb hE.tx.2.2.2.1 hS (i := x) hi (v := .int (q_scr α x.toNatClampNeg)) rfl hd (kk Y H locs ls hY hP hD hS hl)
theorem q_rowLen (C : q_Cx α β D κ p s m args meth c cc own F G nL A) {k : Nat} (h : q_row α k) (hd : decode cc pc = .ok (.arraylength, 1)) (kk : q_St α β D κ p l e R s m args below meth c nL A Q n1 n2 σ lv (pc + 1) (.int 130 :: rest)) : q_St α β D κ p l e R s m args below meth c nL A Q n1 n2 σ lv pc (.ref k :: rest) := by
  obtain ⟨hx, hb, hml, hown, hts, hK, hE, hA, hlk, hF, hG⟩ := C
  intro Y H locs ls hY hP hD hS hl
  exact va_alen hx hb hK hP k 0 (q_at_row h) rfl (v := 130) rfl hd (kk Y H locs ls hY hP hD hS hl)
theorem q_rowAt (C : q_Cx α β D κ p s m args meth c cc own F G nL A) {k : Nat} (h : q_row α k) (hi : vp_in x 130) (hd : decode cc pc = .ok (.iaload, 1)) (kk : q_St α β D κ p l e R s m args below meth c nL A Q n1 n2 σ lv (pc + 1) (.int (σ k x.toNatClampNeg) :: rest)) : q_St α β D κ p l e R s m args below meth c nL A Q n1 n2 σ lv pc (.int x :: .ref k :: rest) := by
  obtain ⟨hx, hb, hml, hown, hts, hK, hE, hA, hlk, hF, hG⟩ := C
  intro Y H locs ls hY hP hD hS hl
  exact va_iald hx hb hK hP k 0 (q_at_row h) rfl hi hd (kk Y H locs ls hY hP hD hS hl)
theorem q_rowSt (C : q_Cx α β D κ p s m args meth c cc own F G nL A) {k j : Nat} (h : q_row α k) (hi : vp_in x 130) (hj : x.toNatClampNeg = j) (hd : decode cc pc = .ok (.iastore, 1)) (kk : q_St α β D κ p l e R s m args below meth c nL A Q n1 n2 (q_up σ k j y) lv (pc + 1) rest) : q_St α β D κ p l e R s m args below meth c nL A Q n1 n2 σ lv pc (.int y :: .int x :: .ref k :: rest) := by
  subst hj
  obtain ⟨hx, hb, hml, hown, hts, hK, hE, hA, hlk, hF, hG⟩ := C
  intro Y H locs ls hY hP hD hS hl
  refine va_iast hx hb hK hP hD hS k 0 (q_at_row h) rfl hi hd (fun H1 locs1 hP1 hD1 hS1 => ?_)
  rw [q_set_row h] at hP1 hD1
  have h1 := h.1
  exact kk Y H1 locs1 ls (hY.up (Or.inr (by omega))) hP1 hD1 hS1 hl
theorem q_recvD (C : q_Cx α β D κ p s m args meth c cc own F G nL A) : ∀ (Y : q_H) (H : Heap) (locs : List Loc), va_P D vwCl (q_ws α β κ Y σ) H → va_S A s.heap H locs → ∃ cell : Cell, H[α 356]? = some cell ∧ cell.vm.isStatics = false ∧ s.vm.findClass "java/lang/String" = some cell.cls := by
  intro Y H locs hP hS
  obtain ⟨cell, h1, h2, h3, -⟩ := (s_T C.2.2.2.2.2.2.1.loc (i := 16) (by decide)).1.kept hS.2.1
  exact ⟨cell, h1, h2, h3⟩
end q43
section q43b
variable {α β : Nat → Nat} {D : va_G} {κ : Nat → ClassId}
theorem k_dynLen (σ : q_M) : q_C α β D κ yJ0_length_8abf5 cJ0_length_8abf5 1 (Option.some Jvm.ClassFile.FieldType.int) 1 20 0 0 [.ref 356] σ (q_oi (nI (α 700))) σ := by
  rw [show α 700 = q_tl α 16 from (if_pos rfl).symm]
  exact s_liftW (wc := fun _ => []) [] rfl (fun _ => rfl) (fun _ => rfl) (fun l Y sz hY => s_strLen 16 (by decide) l sz)
theorem q_MetE {l : Launch} {y : MethodName} {ws : List Cond} {rm : Room} {vs : List Value} {wc : va_W} {sz mc ms : Nat} {Qc : Array Value → State → Outcome → State → Prop} {free : Nat → Prop} (h : ∀ U : State, s_E α (va_A wc sz) U U.heap → Met l y ws rm (s_Pc α D κ vs wc sz) Qc mc ms free) : Met l y ws rm (s_Pc α D κ vs wc sz) Qc mc ms free :=
  fun p e ha hc hk s m args below hf happ hP hK => h s hP.2.2.2.2.2 p e ha hc hk s m args below hf happ hP hK
theorem k_dynAt (x : Int32) (σ : q_M) (hx : vp_in x (α 700)) : q_C α β D κ yJ0_charAt_5068e cJ0_charAt_5068e 2 (Option.some Jvm.ClassFile.FieldType.char) 3 70 0 0 [.ref 356, .int x] σ (q_oi (nI (α (701 + x.toNatClampNeg)))) σ := by
  refine s_liftW (wc := fun _ => []) [] rfl (fun _ => rfl) (fun _ => rfl) (fun l Y sz hY => q_MetE (fun U hE => ?_))
  have h7 : α 700 ≤ 100 := hE.2.1.2.2.2.2.2.2.2.1
  obtain ⟨j, hj, rfl⟩ := vp_in_of hx (by omega)
  have e : (nI j).toNatClampNeg = j := nI_clamp (by omega)
  rw [e, ← q_tc_d hj]
  exact s_strAt 16 j (by decide) (by rw [show q_tl α 16 = α 700 from if_pos rfl]; exact hj) l sz
end q43b
/-! What does not throw. -/
def F_N8_laneOf (n : Int32) (σ : q_M) : Int32 := q_gi (F_X8_laneOf n σ)
def P_N8_laneOf (n : Int32) (σ : q_M) : Prop := q_isl (F_X8_laneOf n σ)
theorem n_X8_laneOf {α β : Nat → Nat} {D : va_G} {κ : Nat → ClassId} (n : Int32) (σ : q_M) (hP : P_N8_laneOf n σ) : q_C α β D κ yX8_laneOf cX8_laneOf 2 (Option.some Jvm.ClassFile.FieldType.int) 7 112 1 6 [.ref 220, .int n] σ (q_oi (F_N8_laneOf n σ)) σ := by
  have h := k_X8_laneOf (α := α) (β := β) (D := D) (κ := κ) n σ
  rw [q_oxi_l hP] at h
  exact h
def F_N8_speedOf (n : Int32) (g : Int32) (σ : q_M) : Int32 := q_gi (F_X8_speedOf n g σ)
def P_N8_speedOf (n : Int32) (g : Int32) (σ : q_M) : Prop := P_X8_speedOf n g σ ∧ q_isl (F_X8_speedOf n g σ)
theorem n_X8_speedOf {α β : Nat → Nat} {D : va_G} {κ : Nat → ClassId} (n : Int32) (g : Int32) (σ : q_M) (hP : P_N8_speedOf n g σ) : q_C α β D κ yX8_speedOf cX8_speedOf 3 (Option.some Jvm.ClassFile.FieldType.int) 8 135 2 12 [.ref 220, .int n, .int g] σ (q_oi (F_N8_speedOf n g σ)) σ := by
  have h := k_X8_speedOf (α := α) (β := β) (D := D) (κ := κ) n g σ hP.1
  rw [q_oxi_l hP.2] at h
  exact h
def F_N8_positionOf (n : Int32) (σ : q_M) : Int32 := q_gi (F_X8_positionOf n σ)
def P_N8_positionOf (n : Int32) (σ : q_M) : Prop := q_isl (F_X8_positionOf n σ)
theorem n_X8_positionOf {α β : Nat → Nat} {D : va_G} {κ : Nat → ClassId} (n : Int32) (σ : q_M) (hP : P_N8_positionOf n σ) : q_C α β D κ yX8_positionOf cX8_positionOf 2 (Option.some Jvm.ClassFile.FieldType.int) 7 112 1 6 [.ref 220, .int n] σ (q_oi (F_N8_positionOf n σ)) σ := by
  have h := k_X8_positionOf (α := α) (β := β) (D := D) (κ := κ) n σ
  rw [q_oxi_l hP] at h
  exact h
def F_N8_legOf (n : Int32) (σ : q_M) : Int32 := q_gi (F_X8_legOf n σ)
def P_N8_legOf (n : Int32) (σ : q_M) : Prop := q_isl (F_X8_legOf n σ)
theorem n_X8_legOf {α β : Nat → Nat} {D : va_G} {κ : Nat → ClassId} (n : Int32) (σ : q_M) (hP : P_N8_legOf n σ) : q_C α β D κ yX8_legOf cX8_legOf 2 (Option.some Jvm.ClassFile.FieldType.int) 7 112 1 6 [.ref 220, .int n] σ (q_oi (F_N8_legOf n σ)) σ := by
  have h := k_X8_legOf (α := α) (β := β) (D := D) (κ := κ) n σ
  rw [q_oxi_l hP] at h
  exact h
def F_N8_isRunning (n : Int32) (σ : q_M) : Int32 := q_gi (F_X8_isRunning n σ)
def P_N8_isRunning (n : Int32) (σ : q_M) : Prop := q_isl (F_X8_isRunning n σ)
theorem n_X8_isRunning {α β : Nat → Nat} {D : va_G} {κ : Nat → ClassId} (n : Int32) (σ : q_M) (hP : P_N8_isRunning n σ) : q_C α β D κ yX8_isRunning cX8_isRunning 2 (Option.some Jvm.ClassFile.FieldType.boolean) 7 112 1 6 [.ref 220, .int n] σ (q_oi (F_N8_isRunning n σ)) σ := by
  have h := k_X8_isRunning (α := α) (β := β) (D := D) (κ := κ) n σ
  rw [q_oxi_l hP] at h
  exact h
def F_N8_isInZone (n : Int32) (σ : q_M) : Int32 := q_gi (F_X8_isInZone n σ)
def P_N8_isInZone (n : Int32) (σ : q_M) : Prop := q_isl (F_X8_isInZone n σ)
theorem n_X8_isInZone {α β : Nat → Nat} {D : va_G} {κ : Nat → ClassId} (n : Int32) (σ : q_M) (hP : P_N8_isInZone n σ) : q_C α β D κ yX8_isInZone cX8_isInZone 2 (Option.some Jvm.ClassFile.FieldType.boolean) 7 112 1 6 [.ref 220, .int n] σ (q_oi (F_N8_isInZone n σ)) σ := by
  have h := k_X8_isInZone (α := α) (β := β) (D := D) (κ := κ) n σ
  rw [q_oxi_l hP] at h
  exact h
def F_N8_standingOf (n : Int32) (σ : q_M) : Int32 := q_gi (F_X8_standingOf n σ)
def P_N8_standingOf (n : Int32) (σ : q_M) : Prop := q_isl (F_X8_standingOf n σ)
theorem n_X8_standingOf {α β : Nat → Nat} {D : va_G} {κ : Nat → ClassId} (n : Int32) (σ : q_M) (hP : P_N8_standingOf n σ) : q_C α β D κ yX8_standingOf cX8_standingOf 2 (Option.some Jvm.ClassFile.FieldType.int) 7 112 1 6 [.ref 220, .int n] σ (q_oi (F_N8_standingOf n σ)) σ := by
  have h := k_X8_standingOf (α := α) (β := β) (D := D) (κ := κ) n σ
  rw [q_oxi_l hP] at h
  exact h
def F_N8_penaltyOf (n : Int32) (σ : q_M) : Int32 := q_gi (F_X8_penaltyOf n σ)
def P_N8_penaltyOf (n : Int32) (σ : q_M) : Prop := q_isl (F_X8_penaltyOf n σ)
theorem n_X8_penaltyOf {α β : Nat → Nat} {D : va_G} {κ : Nat → ClassId} (n : Int32) (σ : q_M) (hP : P_N8_penaltyOf n σ) : q_C α β D κ yX8_penaltyOf cX8_penaltyOf 2 (Option.some Jvm.ClassFile.FieldType.int) 7 112 1 6 [.ref 220, .int n] σ (q_oi (F_N8_penaltyOf n σ)) σ := by
  have h := k_X8_penaltyOf (α := α) (β := β) (D := D) (κ := κ) n σ
  rw [q_oxi_l hP] at h
  exact h
def F_N8_hasFoul (n : Int32) (k : Int32) (σ : q_M) : Int32 := q_gi (F_X8_hasFoul n k σ)
def P_N8_hasFoul (n : Int32) (k : Int32) (σ : q_M) : Prop := P_X8_hasFoul n k σ ∧ q_isl (F_X8_hasFoul n k σ)
theorem n_X8_hasFoul {α β : Nat → Nat} {D : va_G} {κ : Nat → ClassId} (n : Int32) (k : Int32) (σ : q_M) (hP : P_N8_hasFoul n k σ) : q_C α β D κ yX8_hasFoul cX8_hasFoul 4 (Option.some Jvm.ClassFile.FieldType.boolean) 7 112 2 12 [.ref 220, .int n, .int k] σ (q_oi (F_N8_hasFoul n k σ)) σ := by
  have h := k_X8_hasFoul (α := α) (β := β) (D := D) (κ := κ) n k σ hP.1
  rw [q_oxi_l hP.2] at h
  exact h
def F_N8_splitSum (n : Int32) (σ : q_M) : Int32 := q_gi (F_X8_splitSum n σ)
def P_N8_splitSum (n : Int32) (σ : q_M) : Prop := P_X8_splitSum n σ ∧ q_isl (F_X8_splitSum n σ)
theorem n_X8_splitSum {α β : Nat → Nat} {D : va_G} {κ : Nat → ClassId} (n : Int32) (σ : q_M) (hP : P_N8_splitSum n σ) : q_C α β D κ yX8_splitSum cX8_splitSum 7 (Option.some Jvm.ClassFile.FieldType.int) 7 112 1 6 [.ref 220, .int n] σ (q_oi (F_N8_splitSum n σ)) σ := by
  have h := k_X8_splitSum (α := α) (β := β) (D := D) (κ := κ) n σ hP.1
  rw [q_oxi_l hP.2] at h
  exact h
def F_N8_rankOf (n : Int32) (σ : q_M) : Int32 := q_gi (F_X8_rankOf n σ)
def P_N8_rankOf (n : Int32) (σ : q_M) : Prop := P_X8_rankOf n σ ∧ q_isl (F_X8_rankOf n σ)
theorem n_X8_rankOf {α β : Nat → Nat} {D : va_G} {κ : Nat → ClassId} (n : Int32) (σ : q_M) (hP : P_N8_rankOf n σ) : q_C α β D κ yX8_rankOf cX8_rankOf 2 (Option.some Jvm.ClassFile.FieldType.int) 7 112 1 6 [.ref 220, .int n] σ (q_oi (F_N8_rankOf n σ)) σ := by
  have h := k_X8_rankOf (α := α) (β := β) (D := D) (κ := κ) n σ hP.1
  rw [q_oxi_l hP.2] at h
  exact h
def F_N8_type (ch : Int32) (σ : q_M) : Int32 × q_M := (q_gi (F_X8_type ch σ).1, (F_X8_type ch σ).2)
def P_N8_type (ch : Int32) (σ : q_M) : Prop := P_X8_type ch σ ∧ q_isl (F_X8_type ch σ).1
theorem n_X8_type {α β : Nat → Nat} {D : va_G} {κ : Nat → ClassId} (ch : Int32) (σ : q_M) (hP : P_N8_type ch σ) : q_C α β D κ yX8_type cX8_type 2 (Option.some Jvm.ClassFile.FieldType.int) 6 161 1 204 [.ref 220, .int ch] σ (q_oi (F_N8_type ch σ).1) (F_N8_type ch σ).2 := by
  have h := k_X8_type (α := α) (β := β) (D := D) (κ := κ) ch σ hP.1
  rw [q_oxi_l hP.2] at h
  exact h
def F_N8_writeBanner (n : Int32) (σ : q_M) : Int32 × q_M := (q_gi (F_X8_writeBanner n σ).1, (F_X8_writeBanner n σ).2)
def P_N8_writeBanner (n : Int32) (σ : q_M) : Prop := P_X8_writeBanner n σ ∧ q_isl (F_X8_writeBanner n σ).1
theorem n_X8_writeBanner {α β : Nat → Nat} {D : va_G} {κ : Nat → ClassId} (n : Int32) (σ : q_M) (hP : P_N8_writeBanner n σ) : q_C α β D κ yX8_writeBanner cX8_writeBanner 3 (Option.some Jvm.ClassFile.FieldType.int) 7 182 10 1922 [.ref 220, .int n] σ (q_oi (F_N8_writeBanner n σ).1) (F_N8_writeBanner n σ).2 := by
  have h := k_X8_writeBanner (α := α) (β := β) (D := D) (κ := κ) n σ hP.1
  rw [q_oxi_l hP.2] at h
  exact h
def F_N8_meanTime  (σ : q_M) : UInt64 := q_gd (F_X8_meanTime σ)
def P_N8_meanTime  (σ : q_M) : Prop := P_X8_meanTime σ ∧ q_isd (F_X8_meanTime σ)
theorem n_X8_meanTime {α β : Nat → Nat} {D : va_G} {κ : Nat → ClassId}  (σ : q_M) (hP : P_N8_meanTime σ) : q_C α β D κ yX8_meanTime cX8_meanTime 2 (Option.some Jvm.ClassFile.FieldType.double) 6 90 1 6 [.ref 220] σ (q_od (F_N8_meanTime σ)) σ := by
  have h := k_X8_meanTime (α := α) (β := β) (D := D) (κ := κ) σ hP.1
  rw [q_oxd_l hP.2] at h
  exact h
