/-! Texts: contracts and calls. -/
set_option maxRecDepth 100000 in
theorem q_init_J0 : Cond.initialized "java/lang/String" ∈ q_W := q_t1 10 rfl rfl
set_option maxRecDepth 100000 in
theorem q_init_J4 : Cond.initialized "java/lang/StringBuilder" ∈ q_W := q_t1 9 rfl rfl
set_option maxRecDepth 100000 in
theorem mw_J4_setLength_d00df : q_mw yJ4_setLength_d00df cJ4_setLength_d00df 2 (Option.none : Option Jvm.ClassFile.FieldType) 1 := ⟨q_t1 127 rfl rfl, by decide +kernel, by decide +kernel, q_init_J4⟩
set_option maxRecDepth 100000 in
theorem mi_J4_setLength_d00df : Cond.instanceMethod yJ4_setLength_d00df ∈ q_W := q_t1 125 rfl rfl
set_option maxRecDepth 100000 in
theorem me_J4_setLength_d00df : Cond.selects yJ4_setLength_d00df.cls yJ4_setLength_d00df yJ4_setLength_d00df ∈ q_W := q_t1 126 rfl rfl
set_option maxRecDepth 100000 in
theorem mw_J4_append_cf468 : q_mw yJ4_append_cf468 cJ4_append_cf468 2 (Option.some (Jvm.ClassFile.FieldType.object "java/lang/StringBuilder")) 1 := ⟨q_t2 205 rfl rfl, by decide +kernel, by decide +kernel, q_init_J4⟩
set_option maxRecDepth 100000 in
theorem mi_J4_append_cf468 : Cond.instanceMethod yJ4_append_cf468 ∈ q_W := q_t2 203 rfl rfl
set_option maxRecDepth 100000 in
theorem me_J4_append_cf468 : Cond.selects yJ4_append_cf468.cls yJ4_append_cf468 yJ4_append_cf468 ∈ q_W := q_t2 204 rfl rfl
set_option maxRecDepth 100000 in
theorem mw_J4_append_bf812 : q_mw yJ4_append_bf812 cJ4_append_bf812 2 (Option.some (Jvm.ClassFile.FieldType.object "java/lang/StringBuilder")) 1 := ⟨q_t2 52 rfl rfl, by decide +kernel, by decide +kernel, q_init_J4⟩
set_option maxRecDepth 100000 in
theorem mi_J4_append_bf812 : Cond.instanceMethod yJ4_append_bf812 ∈ q_W := q_t2 50 rfl rfl
set_option maxRecDepth 100000 in
theorem me_J4_append_bf812 : Cond.selects yJ4_append_bf812.cls yJ4_append_bf812 yJ4_append_bf812 ∈ q_W := q_t2 51 rfl rfl
set_option maxRecDepth 100000 in
theorem mw_J4_length_8abf5 : q_mw yJ4_length_8abf5 cJ4_length_8abf5 1 (Option.some Jvm.ClassFile.FieldType.int) 0 := ⟨q_t2 97 rfl rfl, by decide +kernel, by decide +kernel, q_init_J4⟩
set_option maxRecDepth 100000 in
theorem mi_J4_length_8abf5 : Cond.instanceMethod yJ4_length_8abf5 ∈ q_W := q_t2 96 rfl rfl
set_option maxRecDepth 100000 in
theorem me_J4_length_8abf5 : Cond.selects yJ4_length_8abf5.cls yJ4_length_8abf5 yJ4_length_8abf5 ∈ q_W := q_t6 179 rfl rfl
set_option maxRecDepth 100000 in
theorem mw_J4_charAt_5068e : q_mw yJ4_charAt_5068e cJ4_charAt_5068e 2 (Option.some Jvm.ClassFile.FieldType.char) 1 := ⟨q_t5 212 rfl rfl, by decide +kernel, by decide +kernel, q_init_J4⟩
set_option maxRecDepth 100000 in
theorem mi_J4_charAt_5068e : Cond.instanceMethod yJ4_charAt_5068e ∈ q_W := q_t5 210 rfl rfl
set_option maxRecDepth 100000 in
theorem me_J4_charAt_5068e : Cond.selects yJ4_charAt_5068e.cls yJ4_charAt_5068e yJ4_charAt_5068e ∈ q_W := q_t5 211 rfl rfl
set_option maxRecDepth 100000 in
theorem mw_J0_length_8abf5 : q_mw yJ0_length_8abf5 cJ0_length_8abf5 1 (Option.some Jvm.ClassFile.FieldType.int) 0 := ⟨q_t2 9 rfl rfl, by decide +kernel, by decide +kernel, q_init_J0⟩
set_option maxRecDepth 100000 in
theorem mi_J0_length_8abf5 : Cond.instanceMethod yJ0_length_8abf5 ∈ q_W := q_t2 7 rfl rfl
set_option maxRecDepth 100000 in
theorem me_J0_length_8abf5 : Cond.selects yJ0_length_8abf5.cls yJ0_length_8abf5 yJ0_length_8abf5 ∈ q_W := q_t2 8 rfl rfl
set_option maxRecDepth 100000 in
theorem mw_J0_charAt_5068e : q_mw yJ0_charAt_5068e cJ0_charAt_5068e 2 (Option.some Jvm.ClassFile.FieldType.char) 1 := ⟨q_t5 166 rfl rfl, by decide +kernel, by decide +kernel, q_init_J0⟩
set_option maxRecDepth 100000 in
theorem mi_J0_charAt_5068e : Cond.instanceMethod yJ0_charAt_5068e ∈ q_W := q_t5 164 rfl rfl
set_option maxRecDepth 100000 in
theorem me_J0_charAt_5068e : Cond.selects yJ0_charAt_5068e.cls yJ0_charAt_5068e yJ0_charAt_5068e ∈ q_W := q_t5 165 rfl rfl
set_option maxRecDepth 100000 in
theorem mw_J4_append_15ec4 : q_mw yJ4_append_15ec4 cJ4_append_15ec4 2 (Option.some (Jvm.ClassFile.FieldType.object "java/lang/StringBuilder")) 1 := ⟨q_t1 172 rfl rfl, by decide +kernel, by decide +kernel, q_init_J4⟩
set_option maxRecDepth 100000 in
theorem mi_J4_append_15ec4 : Cond.instanceMethod yJ4_append_15ec4 ∈ q_W := q_t1 170 rfl rfl
set_option maxRecDepth 100000 in
theorem me_J4_append_15ec4 : Cond.selects yJ4_append_15ec4.cls yJ4_append_15ec4 yJ4_append_15ec4 ∈ q_W := q_t1 171 rfl rfl
set_option maxRecDepth 100000 in
theorem mw_J4_toString_0e30d : q_mw yJ4_toString_0e30d cJ4_toString_0e30d 1 (Option.some (Jvm.ClassFile.FieldType.object "java/lang/String")) 0 := ⟨q_t2 77 rfl rfl, by decide +kernel, by decide +kernel, q_init_J4⟩
set_option maxRecDepth 100000 in
theorem mi_J4_toString_0e30d : Cond.instanceMethod yJ4_toString_0e30d ∈ q_W := q_t2 75 rfl rfl
set_option maxRecDepth 100000 in
theorem me_J4_toString_0e30d : Cond.selects yJ4_toString_0e30d.cls yJ4_toString_0e30d yJ4_toString_0e30d ∈ q_W := q_t2 76 rfl rfl
set_option maxRecDepth 100000 in
theorem mw_J4_init_da8c8 : q_mw yJ4_init_da8c8 cJ4_init_da8c8 1 (Option.none : Option Jvm.ClassFile.FieldType) 0 := ⟨q_t1 141 rfl rfl, by decide +kernel, by decide +kernel, q_init_J4⟩
set_option maxRecDepth 100000 in
theorem mi_J4_init_da8c8 : Cond.instanceMethod yJ4_init_da8c8 ∈ q_W := q_t1 140 rfl rfl
set_option maxRecDepth 100000 in
theorem lk_X8_38 : Cond.methodLink RX8 38 yJ4_init_da8c8 ∈ q_W := q_t5 29 rfl rfl
set_option maxRecDepth 100000 in
theorem lk_X8_276 : Cond.methodLink RX8 276 yJ4_setLength_d00df ∈ q_W := q_t1 124 rfl rfl
set_option maxRecDepth 100000 in
theorem lk_X8_279 : Cond.methodLink RX8 279 yJ4_append_cf468 ∈ q_W := q_t2 202 rfl rfl
set_option maxRecDepth 100000 in
theorem lk_X8_283 : Cond.methodLink RX8 283 yJ4_append_bf812 ∈ q_W := q_t2 224 rfl rfl
set_option maxRecDepth 100000 in
theorem lk_X8_290 : Cond.methodLink RX8 290 yJ4_length_8abf5 ∈ q_W := q_t2 239 rfl rfl
set_option maxRecDepth 100000 in
theorem lk_X3_11 : Cond.methodLink RX3 11 yJ4_init_da8c8 ∈ q_W := q_t5 2 rfl rfl
set_option maxRecDepth 100000 in
theorem lk_X3_38 : Cond.methodLink RX3 38 yJ4_length_8abf5 ∈ q_W := q_t5 200 rfl rfl
set_option maxRecDepth 100000 in
theorem lk_X3_74 : Cond.methodLink RX3 74 yJ0_length_8abf5 ∈ q_W := q_t5 225 rfl rfl
set_option maxRecDepth 100000 in
theorem lk_X3_77 : Cond.methodLink RX3 77 yJ0_charAt_5068e ∈ q_W := q_t5 226 rfl rfl
set_option maxRecDepth 100000 in
theorem lk_X3_91 : Cond.methodLink RX3 91 yJ4_charAt_5068e ∈ q_W := q_t5 209 rfl rfl
set_option maxRecDepth 100000 in
theorem lk_L_96 : Cond.methodLink RL 96 yJ0_length_8abf5 ∈ q_W := q_t5 162 rfl rfl
set_option maxRecDepth 100000 in
theorem lk_L_101 : Cond.methodLink RL 101 yJ0_charAt_5068e ∈ q_W := q_t5 163 rfl rfl
set_option maxRecDepth 100000 in
theorem lk_L_156 : Cond.methodLink RL 156 yJ4_init_da8c8 ∈ q_W := q_t5 147 rfl rfl
set_option maxRecDepth 100000 in
theorem lk_L_159 : Cond.methodLink RL 159 yJ4_append_15ec4 ∈ q_W := q_t5 149 rfl rfl
set_option maxRecDepth 100000 in
theorem lk_L_163 : Cond.methodLink RL 163 yJ4_append_bf812 ∈ q_W := q_t5 150 rfl rfl
set_option maxRecDepth 100000 in
theorem lk_L_168 : Cond.methodLink RL 168 yJ4_toString_0e30d ∈ q_W := q_t5 152 rfl rfl
/-- what a builder's text becomes -/
def q_cut (σ : q_M) (k : Nat) : Prop := ∃ n, n < 100 ∧ σ k 3 = nI n
def q_apC (k : Nat) (x : Int32) (σ : q_M) : q_M := q_up (q_up σ k 3 (σ k 3 + 1)) (k + 2) (σ k 3).toNatClampNeg x
def q_dgs (σ : q_M) (k n : Nat) (f : Nat → Nat) : Nat → q_M
  | 0 => σ
  | w + 1 => q_up (q_dgs σ k n f w) k (n + w) (nI (f w))
def q_apI (k : Nat) (x : Int32) (σ : q_M) : q_M := q_up (q_dgs σ (k + 2) (σ k 3).toNatClampNeg (sb_dec x.toNatClampNeg) (sb_dg x.toNatClampNeg)) k 3 (nI ((σ k 3).toNatClampNeg + sb_dg x.toNatClampNeg))
theorem q_dgs_off {σ : q_M} {k n a : Nat} {f : Nat → Nat} (h : a ≠ k) : ∀ w, q_dgs σ k n f w a = σ a := by
  intro w
  induction w with
  | zero => rfl
  | succ w ih => unfold q_dgs; rw [q_up_off h, ih]
theorem q_dgs_lo {σ : q_M} {k n j : Nat} {f : Nat → Nat} (h : j < n) : ∀ w, q_dgs σ k n f w k j = σ k j := by
  intro w
  induction w with
  | zero => rfl
  | succ w ih => unfold q_dgs; rw [q_up_nj (by omega), ih]
theorem q_dgs_at {σ : q_M} {k n : Nat} {f : Nat → Nat} : ∀ w i, i < w → q_dgs σ k n f w k (n + i) = nI (f i) := by
  intro w
  induction w with
  | zero => intro i h; omega
  | succ w ih =>
    intro i h
    unfold q_dgs
    by_cases e : i = w
    · subst e
      exact q_up_eq _ _ _ _
    · rw [q_up_nj (by omega)]
      exact ih i (by omega)
section q35
variable {α β : Nat → Nat} {D : va_G} {κ : Nat → ClassId}
theorem k_strLen (i : Nat) (σ : q_M) (h_i : i < 16) : q_C α β D κ yJ0_length_8abf5 cJ0_length_8abf5 1 (Option.some Jvm.ClassFile.FieldType.int) 1 20 0 0 [.ref (340 + i)] σ (q_oi (nI (q_sl.getD i 0))) σ :=
  by
  rw [← q_tl_k (α := α) h_i]
  exact s_liftW (wc := fun _ => []) [] rfl (fun _ => rfl) (fun _ => rfl) (fun l Y sz hY => s_strLen i (by omega) l sz)
theorem k_strAt (i : Nat) (x : Int32) (σ : q_M) (h_i : i < 16) (hx : vp_in x (q_sl.getD i 0)) : q_C α β D κ yJ0_charAt_5068e cJ0_charAt_5068e 2 (Option.some Jvm.ClassFile.FieldType.char) 3 70 0 0 [.ref (340 + i), .int x] σ (q_oi (q_ch i x.toNatClampNeg)) σ := by
  obtain ⟨j, hj, rfl⟩ := vp_in_of hx (Nat.lt_trans (q_sl_lt i h_i) (by decide))
  have e : (nI j).toNatClampNeg = j := nI_clamp (Nat.lt_trans hj (Nat.lt_trans (q_sl_lt i h_i) (by decide)))
  rw [e]
  rw [← q_tc_k (α := α) h_i]
  exact s_liftW (wc := fun _ => []) [] rfl (fun _ => rfl) (fun _ => rfl) (fun l Y sz hY => s_strAt i j (by omega) (by rw [q_tl_k h_i]; exact hj) l sz)
theorem k_sbLen (k : Nat) (σ : q_M) (hk : k = 225 ∨ k = 226) : q_C α β D κ yJ4_length_8abf5 cJ4_length_8abf5 1 (Option.some Jvm.ClassFile.FieldType.int) 1 20 0 0 [.ref k] σ (q_oi (σ k 3)) σ :=
  s_liftW (wc := fun Y => [(α k, .inr (1, [.ref (Y (k + 2)).1, .int 0, .int (Y (k + 2)).2.2.2, .int (σ k 3)]))]) [k] rfl (fun Y => by show [(q_ws α β κ Y σ)[k]?] = _; rw [s_g0 hk]; rfl) (fun Y => by simp only [List.filterMap_cons, List.filterMap_nil, s_g0 hk]) (fun l Y sz hY => s_Len (α k) (Y (k + 2)).1 (Y (k + 2)).2.2.2 (σ k 3) l sz)
theorem q_Y1of {Y : q_H} {σ : q_M} {k : Nat} (hk : k = 225 ∨ k = 226) (hY : q_Yok σ Y) : ∃ (n : Nat) (t : Nat → Nat), σ k 3 = nI n ∧ (∀ j, j < n → σ (k + 2) j = nI (t j)) ∧ n ≤ (Y (k + 2)).2.1 ∧ (Y (k + 2)).2.1 ≤ 65536 ∧ sb_Lat t n (Y (k + 2)).2.2.1 ∧ sb_Fit (Y (k + 2)).2.2.1 := by
  rcases hk with rfl | rfl
  · exact hY.1
  · exact hY.2
theorem k_sbAt (k : Nat) (x : Int32) (σ : q_M) (hk : k = 225 ∨ k = 226) (h0 : ¬ x < 0) (hx : x < σ k 3) : q_C α β D κ yJ4_charAt_5068e cJ4_charAt_5068e 2 (Option.some Jvm.ClassFile.FieldType.char) 3 75 0 0 [.ref k, .int x] σ (q_oi (σ (k + 2) x.toNatClampNeg)) σ := by
  obtain ⟨j, hj, rfl⟩ := nI_of h0
  rw [nI_clamp hj]
  refine s_liftW (wc := fun Y => s_wB α κ Y σ k) [k, k + 2] (s_gN hk) (fun Y => s_gC hk) (fun Y => s_gC2 hk) (fun l Y sz hY => ?_)
  obtain ⟨n, t, e1, e2, e3, e4, e5, e6⟩ := q_Y1of hk hY
  rw [e1] at hx
  have hjn : j < n := (nI_ltI hj (by omega)).mp hx
  have h9 := s_At (α := α) (D := D) (κ := κ) (α k) (Y (k + 2)).1 (Y (k + 2)).2.2.2 (Y (k + 2)).2.1 n (Y (k + 2)).2.2.1 t j e4 e3 e5 hjn l sz
  rw [← e1, ← e2 j hjn] at h9
  exact h9
theorem q_capC {n mm : Nat} (hn : n < 100) (hm : n ≤ mm) : n + 1 ≤ mm ∨ sb_cap (n + 1) mm ≤ 204 := by
  by_cases h : n + 1 ≤ mm
  · exact Or.inl h
  · right
    unfold sb_cap
    (repeat' split) <;> omega
theorem k_sbAppC (k : Nat) (x : Int32) (σ : q_M) (hk : k = 225 ∨ k = 226) (h0 : ¬ x < 0) (hx : x < 256) (hc : q_cut σ k) : q_C α β D κ yJ4_append_cf468 cJ4_append_cf468 2 (Option.some (Jvm.ClassFile.FieldType.object "java/lang/StringBuilder")) 5 140 1 204 [.ref k, .int x] σ (q_or k) (q_apC k x σ) := by
  obtain ⟨c0, hj, rfl⟩ := nI_of h0
  have hc0 : c0 < 256 := (nI_ltI (b := 256) hj (by decide)).mp hx
  have hne : k ≠ k + 2 := by omega
  refine s_liftB hk (fun j n0 n1 => ?_) (fun l Y sz hY => ?_)
  · unfold q_apC
    rw [q_up_off n1, q_up_off n0]
  obtain ⟨n, t, e1, e2, e3, e4, e5, e6⟩ := q_Y1of hk hY
  obtain ⟨n9, hn9, e9⟩ := hc
  have hnn : n < 100 := by
    have := (nI_eq (a := n) (b := n9) (by omega) (by omega)).mp (e1.symm.trans e9)
    omega
  have ek : q_apC k (nI c0) σ k 3 = nI (n + 1) := by
    unfold q_apC
    rw [q_up_nk hne, q_up_eq, e1, nI_1]
  have eb : (q_apC k (nI c0) σ) (k + 2) = upd (σ (k + 2)) n (nI c0) := by
    unfold q_apC
    rw [q_up_row, q_up_off (Ne.symm hne), e1, nI_clamp (n := n) (by omega)]
  refine ⟨_, by
    have h9 := s_AppC (α := α) (D := D) (κ := κ) (α k) (Y (k + 2)).1 (Y (k + 2)).2.2.2 (Y (k + 2)).2.1 n (Y (k + 2)).2.2.1 t c0 204 e4 e3 e5 e6 hc0 (q_capC hnn e3) l sz
    rw [← e1] at h9
    exact h9, ?_⟩
  rintro a st oc tt ⟨⟨⟨b2, a2⟩, ra, ho, ⟨hLat, hf⟩, hra, hP1, hD1⟩, hF⟩
  subst hra
  refine ⟨ho, hF, b2, sb_cap (n + 1) (Y (k + 2)).2.1, a2, (Y (k + 2)).2.2.2, ⟨n + 1, sb_cat t n (fun _ => c0), ek, fun j hj2 => ?_, sb_cap_ge _ _, ?_, hLat, hf⟩, ?_, ?_⟩
  · rw [eb]
    by_cases h : j = n
    · subst h
      rw [pk_us]
      show nI c0 = nI (if j < j then t j else c0)
      rw [if_neg (Nat.lt_irrefl j)]
    · rw [pk_un h, sb_cat_lo (by omega)]
      exact e2 j (by omega)
  · rcases q_capC hnn e3 with q | q
    · unfold sb_cap
      rw [if_pos q]
      exact e4
    · omega
  · rw [ek]
    exact hP1
  · rw [ek]
    exact hD1
theorem q_capI {n v mm : Nat} (hn : n < 100) (hm : n ≤ mm) : n + sb_dg v ≤ mm ∨ sb_cap (n + sb_dg v) mm ≤ 224 := by
  have hd := sb_dg_in v
  by_cases h : n + sb_dg v ≤ mm
  · exact Or.inl h
  · right
    unfold sb_cap
    (repeat' split) <;> omega
theorem k_sbAppI (k : Nat) (x : Int32) (σ : q_M) (hk : k = 225 ∨ k = 226) (h0 : ¬ x < 0) (hc : q_cut σ k) : q_C α β D κ yJ4_append_bf812 cJ4_append_bf812 2 (Option.some (Jvm.ClassFile.FieldType.object "java/lang/StringBuilder")) 5 140 1 224 [.ref k, .int x] σ (q_or k) (q_apI k x σ) := by
  obtain ⟨v, hj, rfl⟩ := nI_of h0
  have hne : k ≠ k + 2 := by omega
  refine s_liftB hk (fun j n0 n1 => ?_) (fun l Y sz hY => ?_)
  · unfold q_apI
    rw [q_up_off n0, q_dgs_off n1]
  obtain ⟨n, t, e1, e2, e3, e4, e5, e6⟩ := q_Y1of hk hY
  obtain ⟨n9, hn9, e9⟩ := hc
  have hnn : n < 100 := by
    have := (nI_eq (a := n) (b := n9) (by omega) (by omega)).mp (e1.symm.trans e9)
    omega
  have ec : (nI n).toNatClampNeg = n := nI_clamp (by omega)
  have ev : (nI v).toNatClampNeg = v := nI_clamp hj
  have ek : q_apI k (nI v) σ k 3 = nI (n + sb_dg v) := by
    unfold q_apI
    rw [q_up_eq, e1, ec, ev]
  have eb : (q_apI k (nI v) σ) (k + 2) = (q_dgs σ (k + 2) n (sb_dec v) (sb_dg v)) (k + 2) := by
    unfold q_apI
    rw [q_up_off (Ne.symm hne), e1, ec, ev]
  have hcap : sb_cap (n + sb_dg v) (Y (k + 2)).2.1 ≤ 65536 := by
    rcases q_capI (v := v) hnn e3 with q | q
    · unfold sb_cap
      rw [if_pos q]
      exact e4
    · omega
  refine ⟨_, by
    have h9 := s_AppI (α := α) (D := D) (κ := κ) (α k) (Y (k + 2)).1 (Y (k + 2)).2.2.2 (Y (k + 2)).2.1 n (Y (k + 2)).2.2.1 t v 224 e4 e3 e5 e6 hj (q_capI hnn e3) hcap l sz
    rw [← e1] at h9
    exact h9, ?_⟩
  rintro a st oc tt ⟨⟨⟨b2, a2⟩, ra, ho, ⟨hLat, hf⟩, hra, hP1, hD1⟩, hF⟩
  subst hra
  refine ⟨ho, hF, b2, sb_cap (n + sb_dg v) (Y (k + 2)).2.1, a2, (Y (k + 2)).2.2.2, ⟨n + sb_dg v, sb_cat t n (sb_dec v), ek, fun j hj2 => ?_, sb_cap_ge _ _, hcap, hLat, hf⟩, ?_, ?_⟩
  · rw [eb]
    by_cases h : j < n
    · rw [sb_cat_lo h, q_dgs_lo h]
      exact e2 j h
    · obtain ⟨i, rfl⟩ : ∃ i, j = n + i := ⟨j - n, by omega⟩
      rw [sb_cat_hi, q_dgs_at _ i (by omega)]
  · rw [ek]
    exact hP1
  · rw [ek]
    exact hD1
theorem k_sbSet0 (k : Nat) (σ : q_M) (hk : k = 225 ∨ k = 226) : q_C α β D κ yJ4_setLength_d00df cJ4_setLength_d00df 2 (Option.none : Option Jvm.ClassFile.FieldType) 5 140 0 0 [.ref k, .int 0] σ q_ov (q_up σ k 3 0) := by
  have hne : k ≠ k + 2 := by omega
  refine s_liftB hk (fun j n0 n1 => q_up_off n0) (fun l Y sz hY => ?_)
  obtain ⟨n, t, e1, e2, e3, e4, e5, e6⟩ := q_Y1of hk hY
  have ek : q_up σ k 3 0 k 3 = 0 := q_up_eq _ _ _ _
  refine ⟨_, by
    have h9 := s_Set0 (α := α) (D := D) (κ := κ) (α k) (Y (k + 2)).1 (Y (k + 2)).2.2.2 (Y (k + 2)).2.1 n (Y (k + 2)).2.2.1 e4 e3 l sz
    rw [← e1] at h9
    exact h9, ?_⟩
  rintro a st oc tt ⟨⟨ml2, ho, -, hP1, hD1⟩, hF⟩
  refine ⟨ho, hF, (Y (k + 2)).1, (Y (k + 2)).2.1, (Y (k + 2)).2.2.1, ml2, ⟨0, t, ek.trans nI_0.symm, fun j hj2 => absurd hj2 (Nat.not_lt_zero j), Nat.zero_le _, e4, fun j hj2 => absurd hj2 (Nat.not_lt_zero j), e6⟩, ?_, ?_⟩
  · rw [ek]
    exact hP1
  · rw [ek]
    exact hD1
end q35
section q35b
variable {α β : Nat → Nat} {D : va_G} {κ : Nat → ClassId} {p : Program} {l : Launch} {e : Env} {R : Room} {s : State} {m : MethodId} {args : Array Value} {below : List Frame} {meth : Method} {c : Code} {cc : ByteArray} {own : String} {F : Nat → Option (Nat × Nat)} {G : Nat → Option Int32} {nL : Nat} {A : Nat → Prop} {Q : State → Prop} {n1 n2 : Nat}
variable {y : MethodName} {cc' : ByteArray} {maxL' : Nat} {ret' : Option FieldType} {fr' lo' mc' ms' n idx : Nat} {As rest st : List Value} {σ σ1 : q_M} {lv : q_Lv} {pc : Nat}
theorem q_callG (C : q_Cx α β D κ p s m args meth c cc own F G nL A) (hfl : l.flags = flags0) (hm : q_mw y cc' maxL' ret' n) (hi : Cond.instanceMethod y ∈ q_W) (hsel : Cond.selects y.cls y y ∈ q_W) (hlnk : Cond.methodLink own idx y ∈ q_W) {k : Nat} {v : Option Value} (hc : q_C α β D κ y cc' maxL' ret' fr' lo' mc' ms' (.ref k :: As) σ (.inl v) σ1) (hst : st = As.reverse ++ .ref k :: rest)
    (hrecv : ∀ (Y : q_H) (H : Heap) (locs : List Loc), va_P D vwCl (q_ws α β κ Y σ) H → va_S A s.heap H locs → ∃ cell : Cell, H[α k]? = some cell ∧ cell.vm.isStatics = false ∧ s.vm.findClass y.cls = some cell.cls) (hn : As.length = n) (hd : decode cc pc = .ok (.invokevirtual idx, 3)) (hrest : (rest.map fun v => v.category).sum ≤ 8) (hR : fr' + 1 ≤ R.frames ∧ 8 + (maxL' + 11) + lo' ≤ R.locals) (hcs : n1 + mc' ≤ R.cells ∧ n2 + ms' ≤ R.slots)
    (kk : q_St α β D κ p l e R s m args below meth c nL A Q (n1 + mc') (n2 + ms') σ1 lv (pc + 3) (v.toList ++ rest)) : q_St α β D κ p l e R s m args below meth c nL A Q (n1) (n2) σ lv pc st := by
  subst hst
  intro Y H locs ls hY hP hD hS hl
  rw [q_map_rev]
  have C0 := C
  obtain ⟨hx, hb, hml, hown, hts, hK, hE, hA, hlk, hF, hG⟩ := C
  obtain ⟨hm1, hm2, hm3, hm4⟩ := hm
  have hG2 : GoodIn q_W (wsV own idx y.cls y (Cond.code y cc' maxL' ret' :: q_W)) := by
    have g := q_GI hm1
    intro w hw
    unfold wsV at hw
    rcases List.mem_append.mp hw with h | h
    · have hw' : w ∈ q_W := by
        simp only [List.mem_cons, List.not_mem_nil, or_false] at h
        rcases h with rfl | rfl | rfl | rfl
        · exact hlnk
        · exact hi
        · exact hsel
        · exact hm4
      exact ⟨hw', good_of_word (List.mem_filter.mp hw').2⟩
    · exact g w h
  refine q_run_ret C0 hD hS (vx_runV (n := n) (As := As.map (q_cv α β)) ⟨hx, hb, hml, hown, hts⟩ (hc l hfl Y H.size) (cwV n hts hG2 rfl rfl rfl ⟨rfl, hm2.1, hm2.2, hm3⟩ hR) ⟨q_FB, hrecv Y H locs hP hS, q_pre C0 hY hP hD hS⟩ rfl (by rw [List.length_map]; exact hn) hl.1 rfl (lv_room (q_sum_cat hrest)) hd hcs) rfl (fun Y' H1 locs1 hY1 hP1 hD1 hS1 => ?_)
  have h := kk Y' H1 locs1 ls hY1 hP1 hD1 hS1 hl
  cases v <;> exact h
theorem q_recvK (C : q_Cx α β D κ p s m args meth c cc own F G nL A) {i : Nat} (hi : i < 16) : ∀ (Y : q_H) (H : Heap) (locs : List Loc), va_P D vwCl (q_ws α β κ Y σ) H → va_S A s.heap H locs → ∃ cell : Cell, H[α (340 + i)]? = some cell ∧ cell.vm.isStatics = false ∧ s.vm.findClass "java/lang/String" = some cell.cls :=
  fun Y H locs hP hS => vk_recv (A := A) (N := 16) (adK := fun i => α (340 + i)) (i := i) C.2.2.2.2.2.2.1.loc.1 hi hS
theorem q_recvB (C : q_Cx α β D κ p s m args meth c cc own F G nL A) {k : Nat} (hk : k = 225 ∨ k = 226) : ∀ (Y : q_H) (H : Heap) (locs : List Loc), va_P D vwCl (q_ws α β κ Y σ) H → va_S A s.heap H locs → ∃ cell : Cell, H[α k]? = some cell ∧ cell.vm.isStatics = false ∧ s.vm.findClass "java/lang/StringBuilder" = some cell.cls :=
  fun Y H locs hP hS => va_recv C.2.2.2.2.2.1 hP (show vwCl[1]? = some (RJ4, TJ4, 4) from rfl) (s_g0 hk)
theorem q_ldcS (C : q_Cx α β D κ p s m args meth c cc RL F G nL A) {i ix : Nat} {tx : String} (hi : i < 8) (hix : (q_mk.getD i (0, "")) = (ix, tx)) (hd : decode cc pc = .ok (.ldc ix, 2)) (kk : q_St α β D κ p l e R s m args below meth c nL A Q n1 n2 σ lv (pc + 2) (.ref (348 + i) :: rest)) : q_St α β D κ p l e R s m args below meth c nL A Q n1 n2 σ lv pc rest := by
  obtain ⟨hx, hb, hml, hown, hts, hK, hE, hA, hlk, hF, hG⟩ := C
  intro Y H locs ls hY hP hD hS hl
  have h1 := hE.2.2.2.2.2.2.2.2.2.2.2.2.1 i hi
  rw [hix] at h1
  exact va_ldcS hx hb hown h1 hd (kk Y H locs ls hY hP hD hS hl)
end q35b
