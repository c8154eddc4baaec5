/-! What the law says: the texts of its deeds. -/
def q_kn (i j : Nat) : Nat := (q_ch i j).toNatClampNeg
theorem q_tnk {α : Nat → Nat} {i : Nat} (h : i < 16) : q_tn α i = q_kn i := by
  funext j
  unfold q_tn q_kn
  rw [q_tc_k h]
abbrev q_z0 : Nat → Nat := fun _ => 0
def q_in0 (a : Nat) : Nat × (Nat → Nat) := (7, sb_cat (sb_cat q_z0 0 (q_kn 9)) 6 (sb_dec a))
def q_in1 (a b : Nat) : Nat × (Nat → Nat) := (21, sb_cat (sb_cat (sb_cat (sb_cat (sb_cat (sb_cat (sb_cat (sb_cat q_z0 0 (q_kn 10)) 6 (sb_dec a)) 7 (q_kn 11)) 8 (sb_dec b)) 9 (q_kn 12)) 18 (sb_dec b)) 19 (sb_dec a)) 20 (q_kn 13))
def q_in2 (a b : Nat) : Nat × (Nat → Nat) := (19, sb_cat (sb_cat (sb_cat (sb_cat (sb_cat (sb_cat q_z0 0 (q_kn 14)) 6 (sb_dec a)) 7 (q_kn 12)) 16 (sb_dec a)) 17 (sb_dec b)) 18 (q_kn 15))
def q_inn (c : Int32) (a b : Nat) : Nat × (Nat → Nat) := if c - c / 3 * 3 = 0 then q_in0 a else if c - c / 3 * 3 = 1 then q_in1 a b else q_in2 a b
def q_out (c : Nat) : Nat → Nat := sb_cat (sb_cat q_z0 0 (q_kn 8)) 4 (sb_dec (1 + c))
def q_say2 (c : Nat) (u : Nat × (Nat → Nat)) : Nat × (Nat → Nat) := (4 + sb_dg (1 + c) + u.1, sb_cat (q_out c) (4 + sb_dg (1 + c)) (fun j => if j < u.1 then u.2 j else 0))
/-- the text of a deed -/
def q_say (c a b : Int32) : Nat × (Nat → Nat) := q_say2 c.toNatClampNeg (q_inn c a.toNatClampNeg b.toNatClampNeg)
/-- letters typed -/
def q_ty (T : Nat → Nat) : Nat → q_M → q_M
  | 0, σ => σ
  | j + 1, σ => q_apC 225 (nI (T j)) (q_ty T j σ)
theorem q_ty_n {T : Nat → Nat} {σ : q_M} (h0 : σ 225 3 = 0) : ∀ j, q_ty T j σ 225 3 = nI j := by
  intro j
  induction j with
  | zero => exact h0
  | succ j ih =>
    show q_apC 225 (nI (T j)) (q_ty T j σ) 225 3 = _
    unfold q_apC
    rw [q_up_nk (by decide), q_up_eq, ih, nI_1]
theorem z_type {T : Nat → Nat} {σ : q_M} {j : Nat} (h0 : σ 225 3 = 0) (hj : j < 60) (h1 : 32 ≤ T j) (h2 : T j ≤ 126) : P_N8_type (nI (T j)) (q_ty T j σ) ∧ F_N8_type (nI (T j)) (q_ty T j σ) = (nI (j + 1), q_ty T (j + 1) σ) := by
  have e := q_ty_n (T := T) h0 j
  have c1 : ¬ nI (T j) < 32 := nI_nlt (a := T j) (b := 32) h1 (by omega)
  have c2 : ¬ (126 : Int32) < nI (T j) := nI_nlt (a := 126) (b := T j) h2 (by omega)
  have c3 : q_ty T j σ 225 3 < 60 := by rw [e]; exact (nI_ltI (b := 60) (by omega) (by decide)).mpr hj
  have hF : F_X8_type (nI (T j)) (q_ty T j σ) = (.inl (nI (j + 1)), q_ty T (j + 1) σ) := by
    unfold F_X8_type
    rw [if_neg c1, if_neg c2, if_pos c3]
    show (Sum.inl (q_ty T (j + 1) σ 225 3), q_ty T (j + 1) σ) = _
    rw [q_ty_n h0]
  refine ⟨⟨?_, _, congrArg Prod.fst hF⟩, ?_⟩
  · unfold P_X8_type
    refine ⟨fun h => absurd h c1, fun _ => ⟨fun h => absurd h c2, fun _ => ⟨fun _ => ⟨nI_pos (by omega), ?_, ⟨j, by omega, e⟩, trivial⟩, fun _ => trivial⟩⟩⟩
    exact (nI_ltI (b := 256) (by omega) (by decide)).mpr (by omega)
  · unfold F_N8_type
    rw [hF]
    rfl
theorem z_doesL {ζ T : Nat → Nat} {n : Nat} {σ : q_M} (h7 : ζ 700 = n) (hn : n ≤ 60) (hT : ∀ j, j < n → ζ (701 + j) = T j) (h1 : ∀ j, j < n → 32 ≤ T j ∧ T j ≤ 126) (h0 : σ 225 3 = 0) : ∀ (k nn j : Nat) (v : Nat), j + k = n → k < nn → v ≤ 60 * j → ∃ v' : Nat, v' ≤ 60 * n ∧ PL_L_does_4 ζ nn (nI v) (nI j) (q_ty T j σ) ∧ FL_L_does_4 ζ nn (nI v) (nI j) (q_ty T j σ) = (nI v', q_ty T n σ) := by
  intro k
  induction k with
  | zero =>
    intro nn j v hj hk hv
    obtain ⟨nn, rfl⟩ : ∃ m, nn = m + 1 := ⟨nn - 1, by omega⟩
    have hjn : j = n := by omega
    subst hjn
    have c : ¬ nI j < nI (ζ 700) := by rw [h7]; exact nI_nlt (Nat.le_refl _) (by omega)
    refine ⟨v, hv, ⟨fun h => absurd h c, fun _ => trivial⟩, ?_⟩
    unfold FL_L_does_4
    rw [if_neg c]
  | succ k ih =>
    intro nn j v hj hk hv
    obtain ⟨nn, rfl⟩ : ∃ m, nn = m + 1 := ⟨nn - 1, by omega⟩
    have hjn : j < n := by omega
    have c : nI j < nI (ζ 700) := by rw [h7]; exact (nI_ltI (by omega) (by omega)).mpr hjn
    have ej : (nI j).toNatClampNeg = j := nI_clamp (by omega)
    obtain ⟨t1, t2⟩ := h1 j hjn
    obtain ⟨z1, z2⟩ := z_type (σ := σ) h0 (by omega) t1 t2
    obtain ⟨v', b1, b2, b3⟩ := ih nn (j + 1) (v + (j + 1)) (by omega) (by omega) (by omega)
    rw [← nI_1 j] at b2 b3
    refine ⟨v', b1, ⟨fun _ => ⟨by rw [h7]; exact vp_in_nI hjn (by omega), ?_, ?_⟩, fun h => absurd c h⟩, ?_⟩
    · rw [ej, hT j hjn]; exact z1
    · rw [ej, hT j hjn, z2]
      rintro _ rfl _ rfl _ rfl
      rw [nI_add]
      exact b2
    · unfold FL_L_does_4
      rw [if_pos c, ej, hT j hjn, z2]
      show FL_L_does_4 ζ nn (nI v + nI (j + 1)) (nI j + 1) (q_ty T (j + 1) σ) = _
      rw [nI_add]
      exact b3
theorem z_does {ζ T : Nat → Nat} {n : Nat} {σ : q_M} (h7 : ζ 700 = n) (hn : n ≤ 60) (hT : ∀ j, j < n → ζ (701 + j) = T j) (h1 : ∀ j, j < n → 32 ≤ T j ∧ T j ≤ 126) (h0 : σ 225 3 = 0) (hQ : Q_execute (q_ty T n σ)) : P_L_does ζ σ ∧ F_L_does ζ σ = W_execute (q_ty T n σ) := by
  obtain ⟨v', b1, b2, b3⟩ := z_doesL (σ := σ) h7 hn hT h1 h0 n 101 0 0 (by omega) (by omega) (by omega)
  have b2' : PL_L_does_4 ζ 101 0 0 σ := b2
  have b3' : FL_L_does_4 ζ 101 0 0 σ = (nI v', q_ty T n σ) := b3
  constructor
  · unfold P_L_does
    refine ⟨b2', ?_⟩
    intro y τ hy
    rw [b3'] at hy
    cases hy
    refine ⟨nI_pos (by omega), hQ, ?_⟩
    simp
  · unfold F_L_does
    rw [b3']
    rfl
def F_says (c a b : Int32) (σ : q_M) : Int32 × q_M := W_execute (q_ty (q_say c a b).2 (q_say c a b).1 σ)
def P_says (c a b : Int32) (σ : q_M) : Prop := (∃ c' a' b' : Nat, c = nI c' ∧ a = nI a' ∧ b = nI b' ∧ c' < 60 ∧ a' < 7 ∧ b' < 7) ∧ σ 225 3 = 0 ∧ Q_execute (q_ty (q_say c a b).2 (q_say c a b).1 σ)
/-- letters that may be typed -/
def q_okt (t : Nat → Nat) (n : Nat) : Prop := ∀ j, j < n → 32 ≤ t j ∧ t j ≤ 126
theorem q_okc {t s : Nat → Nat} {n k : Nat} (h1 : q_okt t n) (h2 : q_okt s k) : q_okt (sb_cat t n s) (n + k) := by
  intro j hj
  unfold sb_cat
  split
  next h => exact h1 j h
  next h => exact h2 _ (by omega)
theorem q_okk : ∀ i, i < 16 → ∀ j, j < q_sl.getD i 0 → 32 ≤ q_kn i j ∧ q_kn i j ≤ 126 := by decide +kernel
theorem q_okd (v k : Nat) : q_okt (sb_dec v) k := by
  intro j _
  unfold sb_dec
  omega
theorem q_dg1 {v : Nat} (h : v < 10) : sb_dg v = 1 := by unfold sb_dg; rw [if_pos h]
theorem q_dg2 {v : Nat} (h : v < 100) : 1 ≤ sb_dg v ∧ sb_dg v ≤ 2 := by
  unfold sb_dg
  constructor <;> (repeat' split) <;> omega
theorem q_okn (t : Nat → Nat) : q_okt t 0 := fun j hj => absurd hj (Nat.not_lt_zero j)
theorem q_okp (i : Nat) (h : i < 16) : q_okt (q_kn i) (q_sl.getD i 0) := fun j hj => q_okk i h j hj
theorem q_ok0 (a : Nat) : q_okt (q_in0 a).2 7 := q_okc (n := 6) (q_okc (n := 0) (q_okn _) (q_okp 9 (by decide))) (q_okd a 1)
theorem q_ok1 (a b : Nat) : q_okt (q_in1 a b).2 21 := q_okc (n := 20) (q_okc (n := 19) (q_okc (n := 18) (q_okc (n := 9) (q_okc (n := 8) (q_okc (n := 7) (q_okc (n := 6) (q_okc (n := 0) (q_okn _) (q_okp 10 (by decide))) (q_okd a 1)) (q_okp 11 (by decide))) (q_okd b 1)) (q_okp 12 (by decide))) (q_okd b 1)) (q_okd a 1)) (q_okp 13 (by decide))
theorem q_ok2 (a b : Nat) : q_okt (q_in2 a b).2 19 := q_okc (n := 18) (q_okc (n := 17) (q_okc (n := 16) (q_okc (n := 7) (q_okc (n := 6) (q_okc (n := 0) (q_okn _) (q_okp 14 (by decide))) (q_okd a 1)) (q_okp 12 (by decide))) (q_okd a 1)) (q_okd b 1)) (q_okp 15 (by decide))
theorem q_oki (c : Int32) (a b : Nat) : q_okt (q_inn c a b).2 (q_inn c a b).1 ∧ ((q_inn c a b).1 = 7 ∨ (q_inn c a b).1 = 21 ∨ (q_inn c a b).1 = 19) := by
  unfold q_inn
  split
  · exact ⟨q_ok0 a, Or.inl rfl⟩
  · split
    · exact ⟨q_ok1 a b, Or.inr (Or.inl rfl)⟩
    · exact ⟨q_ok2 a b, Or.inr (Or.inr rfl)⟩
theorem q_oks {c : Nat} (hc : c < 60) {u : Nat × (Nat → Nat)} (h : q_okt u.2 u.1) : q_okt (q_say2 c u).2 (q_say2 c u).1 := by
  show q_okt (sb_cat (q_out c) (4 + sb_dg (1 + c)) (fun j => if j < u.1 then u.2 j else 0)) (4 + sb_dg (1 + c) + u.1)
  refine q_okc (n := 4 + sb_dg (1 + c)) (q_okc (n := 4) (q_okc (n := 0) (q_okn _) (q_okp 8 (by decide))) (q_okd _ _)) (fun j hj => ?_)
  rw [if_pos hj]
  exact h j hj
section q46c
variable {α β : Nat → Nat} {D : va_G} {κ : Nat → ClassId} {p : Program} {l : Launch} {e : Env} {R : Room} {s : State} {m : MethodId} {args : Array Value} {below : List Frame} {meth : Method} {c : Code} {cc : ByteArray} {own : String} {F : Nat → Option (Nat × Nat)} {G : Nat → Option Int32} {nL : Nat} {A : Nat → Prop} {Q : State → Prop} {n1 n2 : Nat}
variable {w : va_W} {h n mm : Nat} {tx : Nat → Nat} {lv : q_Lv} {pc : Nat} {st rest : List Value}
theorem t_nm {n' mm' : Nat} {tx' : Nat → Nat} (e1 : n = n') (e2 : mm = mm') (e3 : tx = tx') (kk : t_W α β D κ p l e R s m args below meth c nL A Q n1 n2 w h n' mm' tx' lv pc st) : t_W α β D κ p l e R s m args below meth c nL A Q n1 n2 w h n mm tx lv pc st := by
  subst e1; subst e2; subst e3
  exact kk
theorem t_cw {k1 k2 : Nat} (e1 : n1 = k1) (e2 : n2 = k2) (kk : t_W α β D κ p l e R s m args below meth c nL A Q k1 k2 w h n mm tx lv pc st) : t_W α β D κ p l e R s m args below meth c nL A Q n1 n2 w h n mm tx lv pc st := by
  subst e1; subst e2
  exact kk
end q46c
set_option maxRecDepth 100000 in
theorem t_tail {α β : Nat → Nat} {D : va_G} {κ : Nat → ClassId} {p : Program} {l : Launch} {e : Env} {R : Room} {s : State} {m : MethodId} {args : Array Value} {below : List Frame} {meth : Method} {c : Code} {A : Nat → Prop} {Q : State → Prop} (hfl : l.flags = flags0) (C : q_Cx α β D κ p s m args meth c cL_acts RL (fun _ => none) (fun _ => none) 6 A) (hRf : 20 ≤ R.frames) (hRl : 400 ≤ R.locals) {Y : q_H} {σ : q_M} (hY : q_Yok σ Y) {lv : q_Lv} {g u hh b dg : Nat} {ml : Int32} {a c9 : Nat → Int32} {V : Nat × (Nat → Nat)} {txo : Nat → Nat} (hd1 : 1 ≤ dg) (hd2 : dg ≤ 2) (hn1 : V.1 = 7 ∨ V.1 = 21 ∨ V.1 = 19) (hL1 : sb_Lat V.2 V.1 c9) (hV : q_okt V.2 V.1) (hLo : sb_Lat txo (4 + dg) a) (hto : q_okt txo (4 + dg)) (hf : sb_Fit a) (u1 u2 : Nat) (hRc : u1 + 105 ≤ R.cells) (hRs : u2 + 20690 ≤ R.slots) (h0 : σ 225 3 = 0) (hQ : Q_execute (q_ty (sb_cat txo (4 + dg) (fun j => if j < V.1 then V.2 j else 0)) (4 + dg + V.1) σ))
    (kk : q_St α β D κ p l e R s m args below meth c 6 A Q (u1 + 105) (u2 + 20690) (W_execute (q_ty (sb_cat txo (4 + dg) (fun j => if j < V.1 then V.2 j else 0)) (4 + dg + V.1) σ)).2 lv 474 [.int (W_execute (q_ty (sb_cat txo (4 + dg) (fun j => if j < V.1 then V.2 j else 0)) (4 + dg + V.1) σ)).1]) : t_0 α β D p l e R s m args below meth c 6 A Q u1 u2 (q_ws α β κ Y σ ++ t_sb hh b ml (4 + dg) 16 κ a ++ t_tx g u V.1 κ c9) lv 465 [.ref g, .ref hh, .ref (α 220)] := by
  intro H locs ls hP hD hS hl
  have hP := t_swapP hP
  have hD := t_swapD hD
  have hV7 : ∀ j, j < V.1 → V.2 j < 128 := fun j hj => by have := hV j hj; omega
  have e700 : q_dy α g u V.1 V.2 700 = V.1 := by unfold q_dy; rw [if_neg (by decide), if_neg (by decide), if_pos rfl]
  have etl : q_tl (q_dy α g u V.1 V.2) 16 = V.1 := by unfold q_tl; rw [if_pos rfl]; exact e700
  have etn : q_tn (q_dy α g u V.1 V.2) 16 = (fun j => if j < V.1 then V.2 j else 0) := by
    funext j
    unfold q_tn
    by_cases hj : j < V.1
    · rw [q_tc_d (by rw [e700]; exact hj), q_dy_t (by omega), if_pos hj, nI_clamp (by have := hV7 j hj; omega)]
    · rw [if_neg hj]
      unfold q_tc q_txb
      rw [if_pos rfl, e700]
      have : ((List.range V.1).map (fun i => nI (q_dy α g u V.1 V.2 (701 + i)))).getD j 0 = 0 := by
        rw [List.getD_eq_getElem?_getD, List.getElem?_eq_none (by simp; omega)]
        rfl
      rw [this]
      rfl
  have cap : ∃ mm', sb_cap (4 + dg + V.1) 16 = mm' ∧ mm' ≤ 65536 ∧ 4 + dg + V.1 < mm' ∧ (4 + dg + V.1 ≤ 16 ∨ mm' ≤ 34) := by
    rcases hn1 with e1 | e1 | e1
    · exact ⟨16, by rw [e1]; unfold sb_cap; rw [if_pos (by omega)], by decide, by omega, by omega⟩
    · exact ⟨34, by rw [e1]; unfold sb_cap; rw [if_neg (by omega), if_neg (by omega)], by decide, by omega, by omega⟩
    · exact ⟨34, by rw [e1]; unfold sb_cap; rw [if_neg (by omega), if_neg (by omega)], by decide, by omega, by omega⟩
  obtain ⟨mm', em, hm1, hm2, hm3⟩ := cap
  have hok := q_okc hto (s := fun j => if j < V.1 then V.2 j else 0) (k := V.1) (fun j hj => by dsimp only; rw [if_pos hj]; exact hV j hj)
  generalize hT : sb_cat txo (4 + dg) (fun j => if j < V.1 then V.2 j else 0) = T at hQ kk hok
  have hle : 4 + dg + V.1 ≤ 60 := by omega
  refine (t_appS C (t_envD C (by omega) hL1 hV7) 34 (i := 16) (by decide) (by decide) (by omega) (by rw [etl, em]; exact hm3) (by rw [etl, em]; exact hm1) (q_dc (z := (465, .invokevirtual 159, 3, 0, 0)) tk_L_acts 192 rfl) (Nat.le_of_ble_eq_true rfl) ⟨by omega, by omega⟩ (by omega) (by omega) (t_nm (n' := 4 + dg + V.1) (mm' := mm') (tx' := T) (by rw [etl]) (by rw [etl]; exact em) (by rw [etn]; exact hT) (t_toS C hm1 hm2 (q_dc (z := (468, .invokevirtual 168, 3, 0, 0)) tk_L_acts 193 rfl) (Nat.le_of_ble_eq_true rfl) ⟨by omega, by omega⟩ (by omega) (by omega) ?_)) : t_W α β D κ p l e R s m args below meth c 6 A Q u1 u2 (q_ws α β κ Y σ ++ t_tx g u V.1 κ c9) hh (4 + dg) 16 txo lv 465 [.ref (q_dy α g u V.1 V.2 (340 + 16)), .ref hh, .ref (α 220)]) b ml a hLo hf H locs ls hP hD hS hl
  intro g2 u2' c10 hL2 H locs ls hP hD hS hl
  have e7 : q_dy α g2 u2' (4 + dg + V.1) T 700 = 4 + dg + V.1 := by unfold q_dy; rw [if_neg (by decide), if_neg (by decide), if_pos rfl]
  obtain ⟨z1, z2⟩ := z_does (ζ := q_dy α g2 u2' (4 + dg + V.1) T) (T := T) (σ := σ) e7 hle (fun j hj => by rw [q_dy_t (by omega), if_pos hj]) (fun j hj => hok j hj) h0 hQ
  have hc := k_L_does (α := q_dy α g2 u2' (4 + dg + V.1) T) (β := β) (D := D) (κ := κ) σ z1
  rw [z2] at hc
  exact t_does (n := 4 + dg + V.1) (tx := T) (w0 := t_tx g u V.1 κ c9) (rest := []) C hfl mw_L_does ms_L_does lk_L_184 (by omega) hL2 (fun j hj => by have := hok j hj; omega) hc (q_dc (z := (471, .invokestatic 184, 3, 0, 0)) tk_L_acts 194 rfl) (Nat.le_of_ble_eq_true rfl) ⟨by omega, by omega⟩ ⟨by omega, by omega⟩ hY hP hD hS hl (q_wdn (by omega) (by omega) kk)
set_option maxRecDepth 100000 in
theorem t_way0 {α β : Nat → Nat} {D : va_G} {κ : Nat → ClassId} {p : Program} {l : Launch} {e : Env} {R : Room} {s : State} {m : MethodId} {args : Array Value} {below : List Frame} {meth : Method} {c : Code} {A : Nat → Prop} {Q : State → Prop} (hfl : l.flags = flags0) (C : q_Cx α β D κ p s m args meth c cL_acts RL (fun _ => none) (fun _ => none) 6 A) (hRf : 20 ≤ R.frames) (hRl : 400 ≤ R.locals) {Y : q_H} {σ : q_M} (hY : q_Yok σ Y) {hh b0 dg : Nat} {ml : Int32} {a0 : Nat → Int32} {txo : Nat → Nat} {i9 c0 : Int32} {a b : Nat} (ha7 : a < 7) (hb7 : b < 7) (hd1 : 1 ≤ dg) (hd2 : dg ≤ 2) (hLo : sb_Lat txo (4 + dg) a0) (hto : q_okt txo (4 + dg)) (hf : sb_Fit a0) (u1 u2 : Nat) (hRc : u1 + 120 ≤ R.cells) (hRs : u2 + 21200 ≤ R.slots) (h0 : σ 225 3 = 0) (hQ : Q_execute (q_ty (sb_cat txo (4 + dg) (fun j => if j < (q_in0 a).1 then (q_in0 a).2 j else 0)) (4 + dg + (q_in0 a).1) σ)) (kk : q_St α β D κ p l e R s m args below meth c 6 A Q (u1 + 120) (u2 + 21200) (W_execute (q_ty (sb_cat txo (4 + dg) (fun j => if j < (q_in0 a).1 then (q_in0 a).2 j else 0)) (4 + dg + (q_in0 a).1) σ)).2 [(0, .ref 220), (1, .ref 335), (2, .int i9), (3, .int (nI a)), (4, .int (nI b)), (5, .int c0)] 474 [.int (W_execute (q_ty (sb_cat txo (4 + dg) (fun j => if j < (q_in0 a).1 then (q_in0 a).2 j else 0)) (4 + dg + (q_in0 a).1) σ)).1]) : t_0 α β D p l e R s m args below meth c 6 A Q u1 u2 (q_ws α β κ Y σ ++ t_sb hh b0 ml (4 + dg) 16 κ a0) [(0, .ref 220), (1, .ref 335), (2, .int i9), (3, .int (nI a)), (4, .int (nI b)), (5, .int c0)] 346 [.ref hh, .ref (α 220)] := by
  have ha : sb_dg a = 1 := q_dg1 (by omega)
  have hb : sb_dg b = 1 := q_dg1 (by omega)
  refine t_new C (q_dc (z := (346, .new 154, 3, 0, 0)) tk_L_acts 141 rfl) (q_dc (z := (349, .dup, 1, 0, 0)) tk_L_acts 142 rfl) (q_dc (z := (350, .invokespecial 156, 3, 0, 0)) tk_L_acts 143 rfl) (Nat.le_of_ble_eq_true rfl) ⟨by omega, by omega⟩ (by omega) (by omega) (fun h2 => ?_)
  refine t_nm (n' := 0) (mm' := 16) (tx' := q_z0) rfl rfl rfl ?_
  refine t_ldc (j := 1) (ix := 166) C (by decide) rfl (q_dc (z := (353, .ldc 166, 2, 0, 0)) tk_L_acts 144 rfl) ?_
  refine t_appS (i := 9) C (t_env C _) 34 (by decide) (by decide) (by decide) (by rw [q_tl_k (by decide)]; decide) (by rw [q_tl_k (by decide)]; decide) (q_dc (z := (355, .invokevirtual 159, 3, 0, 0)) tk_L_acts 145 rfl) (Nat.le_of_ble_eq_true rfl) ⟨by omega, by omega⟩ (by omega) (by omega) ?_
  refine t_nm (n' := 6) (mm' := 16) (tx' := (sb_cat q_z0 0 (q_kn 9))) (by rw [q_tl_k (by decide)]; rfl) (by rw [q_tl_k (by decide)]; rfl) (by rw [q_tnk (by decide)]) ?_
  refine t_cw (k1 := u1 + 3) (k2 := u2 + 54) (by omega) (by omega) ?_
  refine t_iload (k := 0) (x := 3) C (v := nI a) rfl (q_dc (z := (358, .iload_n 3, 1, 0, 0)) tk_L_acts 146 rfl) ?_
  refine t_appI (v := a) C 34 (by omega) (by decide) (by decide) (by rw [ha]; decide) (by rw [ha]; decide) (q_dc (z := (359, .invokevirtual 163, 3, 0, 0)) tk_L_acts 147 rfl) (Nat.le_of_ble_eq_true rfl) ⟨by omega, by omega⟩ (by omega) (by omega) ?_
  refine t_nm (n' := 7) (mm' := 16) (tx' := (sb_cat (sb_cat q_z0 0 (q_kn 9)) 6 (sb_dec a))) (by rw [ha]) (by rw [ha]; rfl) rfl ?_
  refine t_cw (k1 := u1 + 4) (k2 := u2 + 88) (by omega) (by omega) ?_
  refine t_toS C (by decide) (by decide) (q_dc (z := (362, .invokevirtual 168, 3, 0, 0)) tk_L_acts 148 rfl) (Nat.le_of_ble_eq_true rfl) ⟨by omega, by omega⟩ (by omega) (by omega) (fun g u c9 hL9 => ?_)
  intro H locs ls hP hD hS hl
  refine lv_goto C.1 C.2.1 (q_dc (z := (365, .goto 100, 3, 0, 465)) tk_L_acts 149 rfl) (tgt := 465) (by decide) ?_
  refine (?_ : t_0 α β D p l e R s m args below meth c 6 A Q _ _ (q_ws α β κ Y σ ++ t_sb hh b0 ml (4 + dg) 16 κ a0 ++ t_tx g u (q_in0 a).1 κ c9) [(0, .ref 220), (1, .ref 335), (2, .int i9), (3, .int (nI a)), (4, .int (nI b)), (5, .int c0)] 465 [.ref g, .ref hh, .ref (α 220)]) H locs ls hP hD hS hl
  exact t_tail (V := q_in0 a) hfl C hRf hRl hY hd1 hd2 (Or.inl rfl) hL9 (q_ok0 a) hLo hto hf _ _ (by omega) (by omega) h0 hQ (q_wdn (by omega) (by omega) kk)
set_option maxRecDepth 100000 in
theorem t_way1 {α β : Nat → Nat} {D : va_G} {κ : Nat → ClassId} {p : Program} {l : Launch} {e : Env} {R : Room} {s : State} {m : MethodId} {args : Array Value} {below : List Frame} {meth : Method} {c : Code} {A : Nat → Prop} {Q : State → Prop} (hfl : l.flags = flags0) (C : q_Cx α β D κ p s m args meth c cL_acts RL (fun _ => none) (fun _ => none) 6 A) (hRf : 20 ≤ R.frames) (hRl : 400 ≤ R.locals) {Y : q_H} {σ : q_M} (hY : q_Yok σ Y) {hh b0 dg : Nat} {ml : Int32} {a0 : Nat → Int32} {txo : Nat → Nat} {i9 c0 : Int32} {a b : Nat} (ha7 : a < 7) (hb7 : b < 7) (hd1 : 1 ≤ dg) (hd2 : dg ≤ 2) (hLo : sb_Lat txo (4 + dg) a0) (hto : q_okt txo (4 + dg)) (hf : sb_Fit a0) (u1 u2 : Nat) (hRc : u1 + 120 ≤ R.cells) (hRs : u2 + 21200 ≤ R.slots) (h0 : σ 225 3 = 0) (hQ : Q_execute (q_ty (sb_cat txo (4 + dg) (fun j => if j < (q_in1 a b).1 then (q_in1 a b).2 j else 0)) (4 + dg + (q_in1 a b).1) σ)) (kk : q_St α β D κ p l e R s m args below meth c 6 A Q (u1 + 120) (u2 + 21200) (W_execute (q_ty (sb_cat txo (4 + dg) (fun j => if j < (q_in1 a b).1 then (q_in1 a b).2 j else 0)) (4 + dg + (q_in1 a b).1) σ)).2 [(0, .ref 220), (1, .ref 335), (2, .int i9), (3, .int (nI a)), (4, .int (nI b)), (5, .int c0)] 474 [.int (W_execute (q_ty (sb_cat txo (4 + dg) (fun j => if j < (q_in1 a b).1 then (q_in1 a b).2 j else 0)) (4 + dg + (q_in1 a b).1) σ)).1]) : t_0 α β D p l e R s m args below meth c 6 A Q u1 u2 (q_ws α β κ Y σ ++ t_sb hh b0 ml (4 + dg) 16 κ a0) [(0, .ref 220), (1, .ref 335), (2, .int i9), (3, .int (nI a)), (4, .int (nI b)), (5, .int c0)] 376 [.ref hh, .ref (α 220)] := by
  have ha : sb_dg a = 1 := q_dg1 (by omega)
  have hb : sb_dg b = 1 := q_dg1 (by omega)
  refine t_new C (q_dc (z := (376, .new 154, 3, 0, 0)) tk_L_acts 155 rfl) (q_dc (z := (379, .dup, 1, 0, 0)) tk_L_acts 156 rfl) (q_dc (z := (380, .invokespecial 156, 3, 0, 0)) tk_L_acts 157 rfl) (Nat.le_of_ble_eq_true rfl) ⟨by omega, by omega⟩ (by omega) (by omega) (fun h2 => ?_)
  refine t_nm (n' := 0) (mm' := 16) (tx' := q_z0) rfl rfl rfl ?_
  refine t_ldc (j := 2) (ix := 172) C (by decide) rfl (q_dc (z := (383, .ldc 172, 2, 0, 0)) tk_L_acts 158 rfl) ?_
  refine t_appS (i := 10) C (t_env C _) 34 (by decide) (by decide) (by decide) (by rw [q_tl_k (by decide)]; decide) (by rw [q_tl_k (by decide)]; decide) (q_dc (z := (385, .invokevirtual 159, 3, 0, 0)) tk_L_acts 159 rfl) (Nat.le_of_ble_eq_true rfl) ⟨by omega, by omega⟩ (by omega) (by omega) ?_
  refine t_nm (n' := 6) (mm' := 16) (tx' := (sb_cat q_z0 0 (q_kn 10))) (by rw [q_tl_k (by decide)]; rfl) (by rw [q_tl_k (by decide)]; rfl) (by rw [q_tnk (by decide)]) ?_
  refine t_cw (k1 := u1 + 3) (k2 := u2 + 54) (by omega) (by omega) ?_
  refine t_iload (k := 0) (x := 3) C (v := nI a) rfl (q_dc (z := (388, .iload_n 3, 1, 0, 0)) tk_L_acts 160 rfl) ?_
  refine t_appI (v := a) C 34 (by omega) (by decide) (by decide) (by rw [ha]; decide) (by rw [ha]; decide) (q_dc (z := (389, .invokevirtual 163, 3, 0, 0)) tk_L_acts 161 rfl) (Nat.le_of_ble_eq_true rfl) ⟨by omega, by omega⟩ (by omega) (by omega) ?_
  refine t_nm (n' := 7) (mm' := 16) (tx' := (sb_cat (sb_cat q_z0 0 (q_kn 10)) 6 (sb_dec a))) (by rw [ha]) (by rw [ha]; rfl) rfl ?_
  refine t_cw (k1 := u1 + 4) (k2 := u2 + 88) (by omega) (by omega) ?_
  refine t_ldc (j := 3) (ix := 174) C (by decide) rfl (q_dc (z := (392, .ldc 174, 2, 0, 0)) tk_L_acts 162 rfl) ?_
  refine t_appS (i := 11) C (t_env C _) 34 (by decide) (by decide) (by decide) (by rw [q_tl_k (by decide)]; decide) (by rw [q_tl_k (by decide)]; decide) (q_dc (z := (394, .invokevirtual 159, 3, 0, 0)) tk_L_acts 163 rfl) (Nat.le_of_ble_eq_true rfl) ⟨by omega, by omega⟩ (by omega) (by omega) ?_
  refine t_nm (n' := 8) (mm' := 16) (tx' := (sb_cat (sb_cat (sb_cat q_z0 0 (q_kn 10)) 6 (sb_dec a)) 7 (q_kn 11))) (by rw [q_tl_k (by decide)]; rfl) (by rw [q_tl_k (by decide)]; rfl) (by rw [q_tnk (by decide)]) ?_
  refine t_cw (k1 := u1 + 5) (k2 := u2 + 122) (by omega) (by omega) ?_
  refine t_iloadw C (x := 4) (v := nI b) rfl (q_dc (z := (397, .iload 4, 2, 0, 0)) tk_L_acts 164 rfl) ?_
  refine t_appI (v := b) C 34 (by omega) (by decide) (by decide) (by rw [hb]; decide) (by rw [hb]; decide) (q_dc (z := (399, .invokevirtual 163, 3, 0, 0)) tk_L_acts 165 rfl) (Nat.le_of_ble_eq_true rfl) ⟨by omega, by omega⟩ (by omega) (by omega) ?_
  refine t_nm (n' := 9) (mm' := 16) (tx' := (sb_cat (sb_cat (sb_cat (sb_cat q_z0 0 (q_kn 10)) 6 (sb_dec a)) 7 (q_kn 11)) 8 (sb_dec b))) (by rw [hb]) (by rw [hb]; rfl) rfl ?_
  refine t_cw (k1 := u1 + 6) (k2 := u2 + 156) (by omega) (by omega) ?_
  refine t_ldc (j := 4) (ix := 176) C (by decide) rfl (q_dc (z := (402, .ldc 176, 2, 0, 0)) tk_L_acts 166 rfl) ?_
  refine t_appS (i := 12) C (t_env C _) 34 (by decide) (by decide) (by decide) (by rw [q_tl_k (by decide)]; decide) (by rw [q_tl_k (by decide)]; decide) (q_dc (z := (404, .invokevirtual 159, 3, 0, 0)) tk_L_acts 167 rfl) (Nat.le_of_ble_eq_true rfl) ⟨by omega, by omega⟩ (by omega) (by omega) ?_
  refine t_nm (n' := 18) (mm' := 34) (tx' := (sb_cat (sb_cat (sb_cat (sb_cat (sb_cat q_z0 0 (q_kn 10)) 6 (sb_dec a)) 7 (q_kn 11)) 8 (sb_dec b)) 9 (q_kn 12))) (by rw [q_tl_k (by decide)]; rfl) (by rw [q_tl_k (by decide)]; rfl) (by rw [q_tnk (by decide)]) ?_
  refine t_cw (k1 := u1 + 7) (k2 := u2 + 190) (by omega) (by omega) ?_
  refine t_iloadw C (x := 4) (v := nI b) rfl (q_dc (z := (407, .iload 4, 2, 0, 0)) tk_L_acts 168 rfl) ?_
  refine t_appI (v := b) C 34 (by omega) (by decide) (by decide) (by rw [hb]; decide) (by rw [hb]; decide) (q_dc (z := (409, .invokevirtual 163, 3, 0, 0)) tk_L_acts 169 rfl) (Nat.le_of_ble_eq_true rfl) ⟨by omega, by omega⟩ (by omega) (by omega) ?_
  refine t_nm (n' := 19) (mm' := 34) (tx' := (sb_cat (sb_cat (sb_cat (sb_cat (sb_cat (sb_cat q_z0 0 (q_kn 10)) 6 (sb_dec a)) 7 (q_kn 11)) 8 (sb_dec b)) 9 (q_kn 12)) 18 (sb_dec b))) (by rw [hb]) (by rw [hb]; rfl) rfl ?_
  refine t_cw (k1 := u1 + 8) (k2 := u2 + 224) (by omega) (by omega) ?_
  refine t_iload (k := 0) (x := 3) C (v := nI a) rfl (q_dc (z := (412, .iload_n 3, 1, 0, 0)) tk_L_acts 170 rfl) ?_
  refine t_appI (v := a) C 34 (by omega) (by decide) (by decide) (by rw [ha]; decide) (by rw [ha]; decide) (q_dc (z := (413, .invokevirtual 163, 3, 0, 0)) tk_L_acts 171 rfl) (Nat.le_of_ble_eq_true rfl) ⟨by omega, by omega⟩ (by omega) (by omega) ?_
  refine t_nm (n' := 20) (mm' := 34) (tx' := (sb_cat (sb_cat (sb_cat (sb_cat (sb_cat (sb_cat (sb_cat q_z0 0 (q_kn 10)) 6 (sb_dec a)) 7 (q_kn 11)) 8 (sb_dec b)) 9 (q_kn 12)) 18 (sb_dec b)) 19 (sb_dec a))) (by rw [ha]) (by rw [ha]; rfl) rfl ?_
  refine t_cw (k1 := u1 + 9) (k2 := u2 + 258) (by omega) (by omega) ?_
  refine t_ldc (j := 5) (ix := 178) C (by decide) rfl (q_dc (z := (416, .ldc 178, 2, 0, 0)) tk_L_acts 172 rfl) ?_
  refine t_appS (i := 13) C (t_env C _) 34 (by decide) (by decide) (by decide) (by rw [q_tl_k (by decide)]; decide) (by rw [q_tl_k (by decide)]; decide) (q_dc (z := (418, .invokevirtual 159, 3, 0, 0)) tk_L_acts 173 rfl) (Nat.le_of_ble_eq_true rfl) ⟨by omega, by omega⟩ (by omega) (by omega) ?_
  refine t_nm (n' := 21) (mm' := 34) (tx' := (sb_cat (sb_cat (sb_cat (sb_cat (sb_cat (sb_cat (sb_cat (sb_cat q_z0 0 (q_kn 10)) 6 (sb_dec a)) 7 (q_kn 11)) 8 (sb_dec b)) 9 (q_kn 12)) 18 (sb_dec b)) 19 (sb_dec a)) 20 (q_kn 13))) (by rw [q_tl_k (by decide)]; rfl) (by rw [q_tl_k (by decide)]; rfl) (by rw [q_tnk (by decide)]) ?_
  refine t_cw (k1 := u1 + 10) (k2 := u2 + 292) (by omega) (by omega) ?_
  refine t_toS C (by decide) (by decide) (q_dc (z := (421, .invokevirtual 168, 3, 0, 0)) tk_L_acts 174 rfl) (Nat.le_of_ble_eq_true rfl) ⟨by omega, by omega⟩ (by omega) (by omega) (fun g u c9 hL9 => ?_)
  intro H locs ls hP hD hS hl
  refine lv_goto C.1 C.2.1 (q_dc (z := (424, .goto 41, 3, 0, 465)) tk_L_acts 175 rfl) (tgt := 465) (by decide) ?_
  refine (?_ : t_0 α β D p l e R s m args below meth c 6 A Q _ _ (q_ws α β κ Y σ ++ t_sb hh b0 ml (4 + dg) 16 κ a0 ++ t_tx g u (q_in1 a b).1 κ c9) [(0, .ref 220), (1, .ref 335), (2, .int i9), (3, .int (nI a)), (4, .int (nI b)), (5, .int c0)] 465 [.ref g, .ref hh, .ref (α 220)]) H locs ls hP hD hS hl
  exact t_tail (V := q_in1 a b) hfl C hRf hRl hY hd1 hd2 (Or.inr (Or.inl rfl)) hL9 (q_ok1 a b) hLo hto hf _ _ (by omega) (by omega) h0 hQ (q_wdn (by omega) (by omega) kk)
set_option maxRecDepth 100000 in
theorem t_way2 {α β : Nat → Nat} {D : va_G} {κ : Nat → ClassId} {p : Program} {l : Launch} {e : Env} {R : Room} {s : State} {m : MethodId} {args : Array Value} {below : List Frame} {meth : Method} {c : Code} {A : Nat → Prop} {Q : State → Prop} (hfl : l.flags = flags0) (C : q_Cx α β D κ p s m args meth c cL_acts RL (fun _ => none) (fun _ => none) 6 A) (hRf : 20 ≤ R.frames) (hRl : 400 ≤ R.locals) {Y : q_H} {σ : q_M} (hY : q_Yok σ Y) {hh b0 dg : Nat} {ml : Int32} {a0 : Nat → Int32} {txo : Nat → Nat} {i9 c0 : Int32} {a b : Nat} (ha7 : a < 7) (hb7 : b < 7) (hd1 : 1 ≤ dg) (hd2 : dg ≤ 2) (hLo : sb_Lat txo (4 + dg) a0) (hto : q_okt txo (4 + dg)) (hf : sb_Fit a0) (u1 u2 : Nat) (hRc : u1 + 120 ≤ R.cells) (hRs : u2 + 21200 ≤ R.slots) (h0 : σ 225 3 = 0) (hQ : Q_execute (q_ty (sb_cat txo (4 + dg) (fun j => if j < (q_in2 a b).1 then (q_in2 a b).2 j else 0)) (4 + dg + (q_in2 a b).1) σ)) (kk : q_St α β D κ p l e R s m args below meth c 6 A Q (u1 + 120) (u2 + 21200) (W_execute (q_ty (sb_cat txo (4 + dg) (fun j => if j < (q_in2 a b).1 then (q_in2 a b).2 j else 0)) (4 + dg + (q_in2 a b).1) σ)).2 [(0, .ref 220), (1, .ref 335), (2, .int i9), (3, .int (nI a)), (4, .int (nI b)), (5, .int c0)] 474 [.int (W_execute (q_ty (sb_cat txo (4 + dg) (fun j => if j < (q_in2 a b).1 then (q_in2 a b).2 j else 0)) (4 + dg + (q_in2 a b).1) σ)).1]) : t_0 α β D p l e R s m args below meth c 6 A Q u1 u2 (q_ws α β κ Y σ ++ t_sb hh b0 ml (4 + dg) 16 κ a0) [(0, .ref 220), (1, .ref 335), (2, .int i9), (3, .int (nI a)), (4, .int (nI b)), (5, .int c0)] 427 [.ref hh, .ref (α 220)] := by
  have ha : sb_dg a = 1 := q_dg1 (by omega)
  have hb : sb_dg b = 1 := q_dg1 (by omega)
  refine t_new C (q_dc (z := (427, .new 154, 3, 0, 0)) tk_L_acts 176 rfl) (q_dc (z := (430, .dup, 1, 0, 0)) tk_L_acts 177 rfl) (q_dc (z := (431, .invokespecial 156, 3, 0, 0)) tk_L_acts 178 rfl) (Nat.le_of_ble_eq_true rfl) ⟨by omega, by omega⟩ (by omega) (by omega) (fun h2 => ?_)
  refine t_nm (n' := 0) (mm' := 16) (tx' := q_z0) rfl rfl rfl ?_
  refine t_ldc (j := 6) (ix := 180) C (by decide) rfl (q_dc (z := (434, .ldc 180, 2, 0, 0)) tk_L_acts 179 rfl) ?_
  refine t_appS (i := 14) C (t_env C _) 34 (by decide) (by decide) (by decide) (by rw [q_tl_k (by decide)]; decide) (by rw [q_tl_k (by decide)]; decide) (q_dc (z := (436, .invokevirtual 159, 3, 0, 0)) tk_L_acts 180 rfl) (Nat.le_of_ble_eq_true rfl) ⟨by omega, by omega⟩ (by omega) (by omega) ?_
  refine t_nm (n' := 6) (mm' := 16) (tx' := (sb_cat q_z0 0 (q_kn 14))) (by rw [q_tl_k (by decide)]; rfl) (by rw [q_tl_k (by decide)]; rfl) (by rw [q_tnk (by decide)]) ?_
  refine t_cw (k1 := u1 + 3) (k2 := u2 + 54) (by omega) (by omega) ?_
  refine t_iload (k := 0) (x := 3) C (v := nI a) rfl (q_dc (z := (439, .iload_n 3, 1, 0, 0)) tk_L_acts 181 rfl) ?_
  refine t_appI (v := a) C 34 (by omega) (by decide) (by decide) (by rw [ha]; decide) (by rw [ha]; decide) (q_dc (z := (440, .invokevirtual 163, 3, 0, 0)) tk_L_acts 182 rfl) (Nat.le_of_ble_eq_true rfl) ⟨by omega, by omega⟩ (by omega) (by omega) ?_
  refine t_nm (n' := 7) (mm' := 16) (tx' := (sb_cat (sb_cat q_z0 0 (q_kn 14)) 6 (sb_dec a))) (by rw [ha]) (by rw [ha]; rfl) rfl ?_
  refine t_cw (k1 := u1 + 4) (k2 := u2 + 88) (by omega) (by omega) ?_
  refine t_ldc (j := 4) (ix := 176) C (by decide) rfl (q_dc (z := (443, .ldc 176, 2, 0, 0)) tk_L_acts 183 rfl) ?_
  refine t_appS (i := 12) C (t_env C _) 34 (by decide) (by decide) (by decide) (by rw [q_tl_k (by decide)]; decide) (by rw [q_tl_k (by decide)]; decide) (q_dc (z := (445, .invokevirtual 159, 3, 0, 0)) tk_L_acts 184 rfl) (Nat.le_of_ble_eq_true rfl) ⟨by omega, by omega⟩ (by omega) (by omega) ?_
  refine t_nm (n' := 16) (mm' := 16) (tx' := (sb_cat (sb_cat (sb_cat q_z0 0 (q_kn 14)) 6 (sb_dec a)) 7 (q_kn 12))) (by rw [q_tl_k (by decide)]; rfl) (by rw [q_tl_k (by decide)]; rfl) (by rw [q_tnk (by decide)]) ?_
  refine t_cw (k1 := u1 + 5) (k2 := u2 + 122) (by omega) (by omega) ?_
  refine t_iload (k := 0) (x := 3) C (v := nI a) rfl (q_dc (z := (448, .iload_n 3, 1, 0, 0)) tk_L_acts 185 rfl) ?_
  refine t_appI (v := a) C 34 (by omega) (by decide) (by decide) (by rw [ha]; decide) (by rw [ha]; decide) (q_dc (z := (449, .invokevirtual 163, 3, 0, 0)) tk_L_acts 186 rfl) (Nat.le_of_ble_eq_true rfl) ⟨by omega, by omega⟩ (by omega) (by omega) ?_
  refine t_nm (n' := 17) (mm' := 34) (tx' := (sb_cat (sb_cat (sb_cat (sb_cat q_z0 0 (q_kn 14)) 6 (sb_dec a)) 7 (q_kn 12)) 16 (sb_dec a))) (by rw [ha]) (by rw [ha]; rfl) rfl ?_
  refine t_cw (k1 := u1 + 6) (k2 := u2 + 156) (by omega) (by omega) ?_
  refine t_iloadw C (x := 4) (v := nI b) rfl (q_dc (z := (452, .iload 4, 2, 0, 0)) tk_L_acts 187 rfl) ?_
  refine t_appI (v := b) C 34 (by omega) (by decide) (by decide) (by rw [hb]; decide) (by rw [hb]; decide) (q_dc (z := (454, .invokevirtual 163, 3, 0, 0)) tk_L_acts 188 rfl) (Nat.le_of_ble_eq_true rfl) ⟨by omega, by omega⟩ (by omega) (by omega) ?_
  refine t_nm (n' := 18) (mm' := 34) (tx' := (sb_cat (sb_cat (sb_cat (sb_cat (sb_cat q_z0 0 (q_kn 14)) 6 (sb_dec a)) 7 (q_kn 12)) 16 (sb_dec a)) 17 (sb_dec b))) (by rw [hb]) (by rw [hb]; rfl) rfl ?_
  refine t_cw (k1 := u1 + 7) (k2 := u2 + 190) (by omega) (by omega) ?_
  refine t_ldc (j := 7) (ix := 182) C (by decide) rfl (q_dc (z := (457, .ldc 182, 2, 0, 0)) tk_L_acts 189 rfl) ?_
  refine t_appS (i := 15) C (t_env C _) 34 (by decide) (by decide) (by decide) (by rw [q_tl_k (by decide)]; decide) (by rw [q_tl_k (by decide)]; decide) (q_dc (z := (459, .invokevirtual 159, 3, 0, 0)) tk_L_acts 190 rfl) (Nat.le_of_ble_eq_true rfl) ⟨by omega, by omega⟩ (by omega) (by omega) ?_
  refine t_nm (n' := 19) (mm' := 34) (tx' := (sb_cat (sb_cat (sb_cat (sb_cat (sb_cat (sb_cat q_z0 0 (q_kn 14)) 6 (sb_dec a)) 7 (q_kn 12)) 16 (sb_dec a)) 17 (sb_dec b)) 18 (q_kn 15))) (by rw [q_tl_k (by decide)]; rfl) (by rw [q_tl_k (by decide)]; rfl) (by rw [q_tnk (by decide)]) ?_
  refine t_cw (k1 := u1 + 8) (k2 := u2 + 224) (by omega) (by omega) ?_
  refine t_toS C (by decide) (by decide) (q_dc (z := (462, .invokevirtual 168, 3, 0, 0)) tk_L_acts 191 rfl) (Nat.le_of_ble_eq_true rfl) ⟨by omega, by omega⟩ (by omega) (by omega) (fun g u c9 hL9 => ?_)
  exact t_tail (V := q_in2 a b) hfl C hRf hRl hY hd1 hd2 (Or.inr (Or.inr rfl)) hL9 (q_ok2 a b) hLo hto hf _ _ (by omega) (by omega) h0 hQ (q_wdn (by omega) (by omega) kk)
set_option maxRecDepth 100000 in
theorem t_says {α β : Nat → Nat} {D : va_G} {κ : Nat → ClassId} {p : Program} {l : Launch} {e : Env} {R : Room} {s : State} {m : MethodId} {args : Array Value} {below : List Frame} {meth : Method} {c : Code} {A : Nat → Prop} {Q : State → Prop} (hfl : l.flags = flags0) (C : q_Cx α β D κ p s m args meth c cL_acts RL (fun _ => none) (fun _ => none) 6 A) (hRf : 20 ≤ R.frames) (hRl : 400 ≤ R.locals) {σ : q_M} {i9 : Int32} {cc a b : Nat} (hc : cc < 60) (ha7 : a < 7) (hb7 : b < 7) (u1 u2 : Nat) (hRc : u1 + 130 ≤ R.cells) (hRs : u2 + 21400 ≤ R.slots) (h0 : σ 225 3 = 0) (hQ : Q_execute (q_ty (q_say (nI cc) (nI a) (nI b)).2 (q_say (nI cc) (nI a) (nI b)).1 σ)) (kk : q_St α β D κ p l e R s m args below meth c 6 A Q (u1 + 130) (u2 + 21400) (F_says (nI cc) (nI a) (nI b) σ).2 [(0, .ref 220), (1, .ref 335), (2, .int i9), (3, .int (nI a)), (4, .int (nI b)), (5, .int (nI cc))] 474 [.int (F_says (nI cc) (nI a) (nI b) σ).1]) : q_St α β D κ p l e R s m args below meth c 6 A Q u1 u2 σ [(0, .ref 220), (1, .ref 335), (2, .int i9), (3, .int (nI a)), (4, .int (nI b)), (5, .int (nI cc))] 319 [] := by
  have es : ∀ V, q_inn (nI cc) a b = V → q_say (nI cc) (nI a) (nI b) = q_say2 cc V := by
    intro V hV
    unfold q_say
    rw [nI_clamp (n := cc) (by omega), nI_clamp (n := a) (by omega), nI_clamp (n := b) (by omega), hV]
  obtain ⟨hd1, hd2⟩ := q_dg2 (v := 1 + cc) (by omega)
  have hto : q_okt (q_out cc) (4 + sb_dg (1 + cc)) := q_okc (n := 4) (q_okc (n := 0) (q_okn _) (q_okp 8 (by decide))) (q_okd _ _)
  unfold F_says at kk
  intro Y H locs ls hY hP hD hS hl
  refine lv_aload_n C.1 C.2.1 (q_dc (z := (319, .aload_n 0, 1, 0, 0)) tk_L_acts 127 rfl) rfl (q_lget_has hl (show q_lget [(0, .ref 220), (1, .ref 335), (2, .int i9), (3, .int (nI a)), (4, .int (nI b)), (5, .int (nI cc))] 0 = some (.ref 220) from rfl)) ?_
  refine (t_new C (q_dc (z := (320, .new 154, 3, 0, 0)) tk_L_acts 128 rfl) (q_dc (z := (323, .dup, 1, 0, 0)) tk_L_acts 129 rfl) (q_dc (z := (324, .invokespecial 156, 3, 0, 0)) tk_L_acts 130 rfl) (Nat.le_of_ble_eq_true rfl) ⟨by omega, by omega⟩ (by omega) (by omega) (fun hh => ?_) : t_0 α β D p l e R s m args below meth c 6 A Q u1 u2 (q_ws α β κ Y σ) [(0, .ref 220), (1, .ref 335), (2, .int i9), (3, .int (nI a)), (4, .int (nI b)), (5, .int (nI cc))] 320 [.ref (α 220)]) H locs ls hP hD hS hl
  refine t_nm (n' := 0) (mm' := 16) (tx' := q_z0) rfl rfl rfl ?_
  refine t_ldc (j := 0) (ix := 157) C (by decide) rfl (q_dc (z := (327, .ldc 157, 2, 0, 0)) tk_L_acts 131 rfl) ?_
  refine t_appS (i := 8) C (t_env C _) 34 (by decide) (by decide) (by decide) (by rw [q_tl_k (by decide)]; decide) (by rw [q_tl_k (by decide)]; decide) (q_dc (z := (329, .invokevirtual 159, 3, 0, 0)) tk_L_acts 132 rfl) (Nat.le_of_ble_eq_true rfl) ⟨by omega, by omega⟩ (by omega) (by omega) ?_
  refine t_nm (n' := 4) (mm' := 16) (tx' := sb_cat q_z0 0 (q_kn 8)) (by rw [q_tl_k (by decide)]; rfl) (by rw [q_tl_k (by decide)]; rfl) (by rw [q_tnk (by decide)]) ?_
  intro b0 ml a0 hL hf H locs ls hP hD hS hl
  refine lv_iconst C.1 C.2.1 (q_dc (z := (332, .iconst 1, 1, 1, 0)) tk_L_acts 133 rfl) (v := 1) (by decide) ?_
  refine lv_iload C.1 C.2.1 (q_dc (z := (333, .iload 5, 2, 0, 0)) tk_L_acts 134 rfl) (q_lget_has hl (show q_lget [(0, .ref 220), (1, .ref 335), (2, .int i9), (3, .int (nI a)), (4, .int (nI b)), (5, .int (nI cc))] 5 = some (.int (nI cc)) from rfl)) ?_
  refine lv_iadd C.1 C.2.1 (q_dc (z := (335, .iadd, 1, 0, 0)) tk_L_acts 135 rfl) ?_
  refine lv_topi (fun x hx => ?_)
  obtain rfl : x = nI (1 + cc) := by rw [hx]; exact nI_add 1 cc
  have hcap : sb_cap (4 + sb_dg (1 + cc)) 16 = 16 := by unfold sb_cap; rw [if_pos (by omega)]
  refine (t_appI (v := 1 + cc) C 34 (by omega) (by decide) (by decide) (Or.inl (by omega)) (by rw [hcap]; decide) (q_dc (z := (336, .invokevirtual 163, 3, 0, 0)) tk_L_acts 136 rfl) (Nat.le_of_ble_eq_true rfl) ⟨by omega, by omega⟩ (by omega) (by omega) (t_nm (n' := 4 + sb_dg (1 + cc)) (mm' := 16) (tx' := q_out cc) rfl hcap rfl (t_cw (k1 := u1 + 4) (k2 := u2 + 88) (by omega) (by omega) ?_)) : t_W α β D κ p l e R s m args below meth c 6 A Q (u1 + 2 + 1) (u2 + 20 + 34) (q_ws α β κ Y σ) hh 4 16 (sb_cat q_z0 0 (q_kn 8)) [(0, .ref 220), (1, .ref 335), (2, .int i9), (3, .int (nI a)), (4, .int (nI b)), (5, .int (nI cc))] 336 [.int (nI (1 + cc)), .ref hh, .ref (α 220)]) b0 ml a0 hL hf H locs ls hP hD hS hl
  intro b0 ml a0 hL hf H locs ls hP hD hS hl
  refine lv_iload C.1 C.2.1 (q_dc (z := (339, .iload 5, 2, 0, 0)) tk_L_acts 137 rfl) (q_lget_has hl (show q_lget [(0, .ref 220), (1, .ref 335), (2, .int i9), (3, .int (nI a)), (4, .int (nI b)), (5, .int (nI cc))] 5 = some (.int (nI cc)) from rfl)) ?_
  refine lv_iconst C.1 C.2.1 (q_dc (z := (341, .iconst 3, 1, 3, 0)) tk_L_acts 138 rfl) (v := 3) (by decide) ?_
  refine lv_irem C.1 C.2.1 (q_dc (z := (342, .irem, 1, 0, 0)) tk_L_acts 139 rfl) (by decide) ?_
  refine lv_if_ne C.1 C.2.1 (q_dc (z := (343, .ifCond .ne 25, 3, 0, 368)) tk_L_acts 140 rfl) (tgt := 368) (by decide) (fun c1 => ?_) (fun c1 => ?_)
  · refine lv_iload C.1 C.2.1 (q_dc (z := (368, .iload 5, 2, 0, 0)) tk_L_acts 150 rfl) (q_lget_has hl (show q_lget [(0, .ref 220), (1, .ref 335), (2, .int i9), (3, .int (nI a)), (4, .int (nI b)), (5, .int (nI cc))] 5 = some (.int (nI cc)) from rfl)) ?_
    refine lv_iconst C.1 C.2.1 (q_dc (z := (370, .iconst 3, 1, 3, 0)) tk_L_acts 151 rfl) (v := 3) (by decide) ?_
    refine lv_irem C.1 C.2.1 (q_dc (z := (371, .irem, 1, 0, 0)) tk_L_acts 152 rfl) (by decide) ?_
    refine lv_iconst C.1 C.2.1 (q_dc (z := (372, .iconst 1, 1, 1, 0)) tk_L_acts 153 rfl) (v := 1) (by decide) ?_
    refine lv_icmp_ne C.1 C.2.1 (q_dc (z := (373, .if_icmp .ne 54, 3, 0, 427)) tk_L_acts 154 rfl) (tgt := 427) (by decide) (fun c2 => ?_) (fun c2 => ?_)
    · rw [es (q_in2 a b) (by unfold q_inn; rw [if_neg c1, if_neg c2])] at hQ kk
      exact t_way2 hfl C hRf hRl hY ha7 hb7 hd1 hd2 hL hto hf _ _ (by omega) (by omega) h0 hQ (q_wdn (by omega) (by omega) kk) H locs ls hP hD hS hl
    · rw [es (q_in1 a b) (by unfold q_inn; rw [if_neg c1, if_pos c2])] at hQ kk
      exact t_way1 hfl C hRf hRl hY ha7 hb7 hd1 hd2 hL hto hf _ _ (by omega) (by omega) h0 hQ (q_wdn (by omega) (by omega) kk) H locs ls hP hD hS hl
  · rw [es (q_in0 a) (by unfold q_inn; rw [if_pos c1])] at hQ kk
    exact t_way0 hfl C hRf hRl hY ha7 hb7 hd1 hd2 hL hto hf _ _ (by omega) (by omega) h0 hQ (q_wdn (by omega) (by omega) kk) H locs ls hP hD hS hl
