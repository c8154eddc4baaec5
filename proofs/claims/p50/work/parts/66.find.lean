/-! Teams found; what a command makes of both sides. -/
theorem z_int (g : Int32) : g < 0 ∨ ∃ n, n < 2 ^ 31 ∧ g = nI n := by
  by_cases h : g < 0
  · exact .inl h
  · have h0 : 0 ≤ g.toInt := by
      rw [Int32.lt_iff_toInt_lt] at h
      have e : (0 : Int32).toInt = 0 := rfl
      omega
    have h1 := Int32.toInt_lt g
    refine .inr ⟨g.toInt.toNat, by omega, ?_⟩
    apply Int32.toInt_inj.mp
    rw [nI_toInt (by omega)]
    omega
theorem z_ng {g : Int32} {a : Nat} (h : g < 0) (ha : a < 2 ^ 31) : g < nI a := by
  rw [Int32.lt_iff_toInt_lt] at h ⊢
  have e : (0 : Int32).toInt = 0 := rfl
  rw [nI_toInt ha]
  omega
theorem z_ngn {g : Int32} {a : Nat} (h : g < 0) (ha : a < 2 ^ 31) : g ≠ nI a := by
  intro e
  rw [e] at h
  exact nI_pos ha h
/-- a number between two -/
theorem z_rg {g : Int32} {a b : Nat} (ha : a < 2 ^ 31) (hb : b < 2 ^ 31) (h1 : ¬ g < nI a) (h2 : ¬ nI b < g) : ∃ n, a ≤ n ∧ n ≤ b ∧ g = nI n := by
  rcases z_int g with h | ⟨n, hn, rfl⟩
  · exact absurd (z_ng h ha) h1
  · rw [z_lt hn ha] at h1
    rw [z_lt hb hn] at h2
    exact ⟨n, by omega, by omega, rfl⟩
theorem z_uu (σ : q_M) (p j : Nat) (u v : Int32) : q_up (q_up σ p j u) p j v = q_up σ p j v := by
  funext a i
  by_cases ha : a = p
  · by_cases hi : i = j
    · subst ha; subst hi; rw [q_up_eq, q_up_eq]
    · rw [q_up_nj hi, q_up_nj hi, q_up_nj hi]
  · rw [q_up_nk ha, q_up_nk ha, q_up_nk ha]
theorem z_some {τ : q_M} {r w : Nat} {b : Nat → Nat} {t : Nat → Nat → Nat} (hR : z_R τ r b t) (hw : w < b 3) (hn : b 3 ≤ 6) (hst : t w 6 ≤ 3) : F_X4_find r (nI w) τ = some (r + 2 + 3 * w) := by
  unfold F_X4_find
  rw [if_neg (nI_pos (by omega)), if_pos (show nI w < 6 from nI_lt (b := 6) (by omega) (by decide)), nI_clamp (by omega), z_place, (hR.te w (by omega) hw).st, if_neg (nI_ne0 (by omega) (by omega))]
theorem z_none {τ : q_M} {r : Nat} {g : Int32} {b : Nat → Nat} {t : Nat → Nat → Nat} (hR : z_R τ r b t) (hg : ¬ ∃ w, w < b 3 ∧ g = nI w) : F_X4_find r g τ = none := by
  unfold F_X4_find
  rcases z_int g with h | ⟨n, hn, rfl⟩
  · rw [if_pos h]
  · rw [if_neg (nI_pos hn)]
    by_cases h6 : n < 6
    · rw [if_pos (show nI n < 6 from nI_lt (b := 6) h6 (by decide)), nI_clamp hn, z_place, (hR.ab n h6 (by
        by_cases e : n < b 3
        · exact absurd ⟨n, e, rfl⟩ hg
        · omega)).st, if_pos rfl]
    · rw [if_neg (show ¬ nI n < 6 from fun q => h6 ((nI_ltI (b := 6) hn (by decide)).mp q))]
theorem z_isT {τ : q_M} {w : Nat} {b : Nat → Nat} {t : Nat → Nat → Nat} (hM : z_M τ b t) (hw : w < b 3) (hn : b 3 ≤ 6) : F_X9_isTeam (nI w) τ = 1 := by
  unfold F_X9_isTeam F_X9_isIn
  rw [hM.bs 3 (by decide), z_l1, z_sub (by omega), if_neg (nI_pos (by omega)), if_neg (show ¬ nI (b 3 - 1) < nI w by rw [z_lt (by omega) (by omega)]; omega)]
theorem z_noT {τ : q_M} {g : Int32} {b : Nat → Nat} {t : Nat → Nat → Nat} (hM : z_M τ b t) (hn : b 3 ≤ 6) (hg : ¬ ∃ w, w < b 3 ∧ g = nI w) : F_X9_isTeam g τ = 0 := by
  unfold F_X9_isTeam F_X9_isIn
  rcases z_int g with h | ⟨n, hn2, rfl⟩
  · rw [if_pos h]
  · have hb : b 3 ≤ n := by
      by_cases e : n < b 3
      · exact absurd ⟨n, e, rfl⟩ hg
      · omega
    rw [hM.bs 3 (by decide), z_l1, if_neg (nI_pos hn2), if_pos]
    rw [Int32.lt_iff_toInt_lt, pk_sub_toInt (by omega) (by omega), nI_toInt hn2]
    omega
theorem z_unp {τ : q_M} {b : Nat → Nat} {t : Nat → Nat → Nat} (hM : z_M τ b t) (hb : b 1 ≤ 1) : F_X9_isUnprepared τ = nI (b 1) := by
  unfold F_X9_isUnprepared
  rw [hM.bs 1 (by decide)]
  rcases (show b 1 = 0 ∨ b 1 = 1 by omega) with e | e <;> rw [e] <;> rfl
theorem z_leg (g : Int32) : (∃ l, l < 4 ∧ g = nI l ∧ (∀ σ, F_X8_isLeg g σ = 1) ∧ ∀ σ, F_X9_isLeg g σ = 1) ∨ ((∀ σ, F_X8_isLeg g σ = 0) ∧ ∀ σ, F_X9_isLeg g σ = 0) := by
  unfold F_X8_isLeg F_X9_isLeg F_X9_isIn
  rcases z_int g with h | ⟨n, hn, rfl⟩
  · exact .inr ⟨fun _ => by rw [if_pos h], fun _ => by rw [if_pos h]⟩
  · by_cases e : n < 4
    · exact .inl ⟨n, e, rfl, fun _ => by rw [if_neg (nI_pos hn), if_pos (show nI n < 4 from nI_lt (b := 4) e (by decide))], fun _ => by rw [if_neg (nI_pos hn), if_neg (show ¬ 3 < nI n from fun q => by have := (nI_ltI (a := 3) (by decide) hn).mp q; omega)]⟩
    · exact .inr ⟨fun _ => by rw [if_neg (nI_pos hn), if_neg (show ¬ nI n < 4 from fun q => by have := (nI_ltI (b := 4) hn (by decide)).mp q; omega)], fun _ => by rw [if_neg (nI_pos hn), if_pos (show 3 < nI n from nI_lt (a := 3) (by omega) hn)]⟩
theorem z_kind (g : Int32) : (∃ l, l < 2 ∧ g = nI l ∧ (∀ σ, F_X8_isKind g σ = 1) ∧ ∀ σ, F_X9_isIn g 0 1 σ = 1) ∨ ((∀ σ, F_X8_isKind g σ = 0) ∧ ∀ σ, F_X9_isIn g 0 1 σ = 0) := by
  unfold F_X8_isKind F_X9_isIn
  rcases z_int g with h | ⟨n, hn, rfl⟩
  · exact .inr ⟨fun _ => by rw [if_neg (show ¬ g = 0 from z_ngn (a := 0) h (by decide)), if_neg (show ¬ g = 1 from z_ngn (a := 1) h (by decide))], fun _ => by rw [if_pos h]⟩
  · by_cases e : n < 2
    · refine .inl ⟨n, e, rfl, ?_⟩
      rcases (show n = 0 ∨ n = 1 by omega) with rfl | rfl <;> exact ⟨fun _ => by decide, fun _ => by decide⟩
    · exact .inr ⟨fun _ => by rw [if_neg (show ¬ nI n = 0 from fun q => by have := (nI_eq (b := 0) hn (by decide)).mp q; omega), if_neg (show ¬ nI n = 1 from fun q => by have := (nI_eq (b := 1) hn (by decide)).mp q; omega)], fun _ => by rw [if_neg (nI_pos hn), if_pos (show 1 < nI n from nI_lt (a := 1) (by omega) hn)]⟩
/-- the teams below w have been dealt with -/
def z_mp (f : Nat → (Nat → Nat) → Nat → Nat) (n w : Nat) (t : Nat → Nat → Nat) : Nat → Nat → Nat := fun i => if i < w ∧ i < n then f i (t i) else t i
theorem z_mp_0 {f : Nat → (Nat → Nat) → Nat → Nat} {n : Nat} {t : Nat → Nat → Nat} : z_mp f n 0 t = t := by
  funext i
  unfold z_mp
  rw [if_neg (by omega)]
theorem z_mp_w {f : Nat → (Nat → Nat) → Nat → Nat} {n w : Nat} {t : Nat → Nat → Nat} : z_mp f n w t w = t w := by
  unfold z_mp
  rw [if_neg (by omega)]
theorem z_mp_s {f : Nat → (Nat → Nat) → Nat → Nat} {n w : Nat} {t : Nat → Nat → Nat} (hw : w < n) : z_ut (z_mp f n w t) w (f w (t w)) = z_mp f n (w + 1) t := by
  funext i
  by_cases e : i = w
  · subst e
    rw [z_ut_s]
    unfold z_mp
    rw [if_pos ⟨by omega, hw⟩]
  · rw [z_ut_n e]
    unfold z_mp
    by_cases c : i < w ∧ i < n
    · rw [if_pos c, if_pos ⟨by omega, c.2⟩]
    · rw [if_neg c, if_neg (fun q => c ⟨by omega, q.2⟩)]
theorem z_mp_ge {f : Nat → (Nat → Nat) → Nat → Nat} {n w : Nat} {t : Nat → Nat → Nat} (h : n ≤ w) : z_mp f n w t = z_mp f n n t := by
  funext i
  unfold z_mp
  by_cases c : i < n
  · rw [if_pos ⟨by omega, c⟩, if_pos ⟨c, c⟩]
  · rw [if_neg (fun q => c q.2), if_neg (fun q => c q.2)]
theorem z_mp_i {f : Nat → (Nat → Nat) → Nat → Nat} {n i : Nat} {t : Nat → Nat → Nat} (h : i < n) : z_mp f n n t i = f i (t i) := by
  unfold z_mp
  rw [if_pos ⟨h, h⟩]
theorem z_mp_o {f : Nat → (Nat → Nat) → Nat → Nat} {n i : Nat} {t : Nat → Nat → Nat} (h : n ≤ i) : z_mp f n n t i = t i := by
  unfold z_mp
  rw [if_neg (by omega)]
/-- what of the model a command leaves -/
def z_fs (τ τ' : q_M) : Prop := (∀ a, a ≠ 229 → a ≠ 230 → τ' a = τ a) ∧ ∀ j, j ≠ 5 → τ' 229 j = τ 229 j
theorem z_fs.rf (τ : q_M) : z_fs τ τ := ⟨fun _ _ _ => rfl, fun _ _ => rfl⟩
theorem z_fs.tr {τ τ' τ'' : q_M} (h : z_fs τ τ') (h' : z_fs τ' τ'') : z_fs τ τ'' := ⟨fun a e1 e2 => (h'.1 a e1 e2).trans (h.1 a e1 e2), fun j e => (h'.2 j e).trans (h.2 j e)⟩
theorem z_fs.u5 (τ : q_M) (v : Int32) : z_fs τ (q_up τ 229 5 v) := ⟨fun _ e1 _ => q_up_off e1, fun _ e => q_up_nj e⟩
theorem z_fs.st {τ : q_M} {w k : Nat} {v : Int32} (hw : w < 6) (hk : k < 19) : z_fs τ (F_X9_sets (nI w) (nI k) v τ) := ⟨fun _ _ e => z_offs hw hk e, fun j _ => by rw [z_offs hw hk (by decide)]⟩
theorem z_fs.of {τ τ' : q_M} (h : ∀ a, a ≠ 230 → τ' a = τ a) : z_fs τ τ' := ⟨fun a _ e => h a e, fun j _ => by rw [h 229 (by decide)]⟩
/-- a refusal, in class and model -/
def z_rC (rf : Option (Nat × Int32)) (σ : q_M) : q_M := match rf with | none => σ | some x => q_up (q_up σ 220 7 (nI x.1)) 220 8 x.2
def z_rM (rf : Option (Nat × Int32)) (τ : q_M) : q_M := match rf with | none => τ | some x => q_up (q_up τ 229 8 (nI x.1)) 229 9 x.2
/-- one command on both sides: how it is refused, what it does -/
def z_same (N k : Nat) (b : Nat → Nat) (t : Nat → Nat → Nat) (cf : Nat → Int32) (Pf : q_M → Prop) (Ff : q_M → Int32 × q_M) (Pb : q_M → Prop) (Fb : q_M → Int32 × q_M) (PD : q_M → Prop) (FD : q_M → Int32 × q_M) : Prop :=
  ∃ (code res : Nat) (rf : Option (Nat × Int32)) (b' : Nat → Nat) (t' : Nat → Nat → Nat), code ≤ N ∧ res < 5000000 ∧ b 3 ≤ b' 3 ∧ z_V (k + 1) b' t' ∧ (code ≠ 0 → b' = b ∧ t' = t) ∧ (code = 0 → rf = none) ∧ (∀ x, rf = some x → 1 ≤ x.1 ∧ x.1 ≤ 3) ∧
    (∀ σ, z_R σ 0 b t → Pf σ ∧ Ff σ = (cf code, z_rC rf σ)) ∧
    (code = 0 → ∀ σ, z_R σ 0 b t → Pb σ ∧ (Fb σ).1 = nI res ∧ z_R (Fb σ).2 0 b' t' ∧ ∀ a, 20 ≤ a → (Fb σ).2 a = σ a) ∧
    (∀ τ, z_M τ b t → PD τ ∧ (code = 0 → (FD τ).1 = nI res) ∧ (FD τ).2 229 5 = nI code ∧ z_M (FD τ).2 b' t' ∧ z_fs (z_rM rf τ) (FD τ).2)
theorem z_W.k {k k' : Nat} {b : Nat → Nat} {x : Nat → Nat} (h : z_W k b x) (hk : k ≤ k') : z_W k' b x := h.mono hk rfl rfl (Nat.le_refl _)
theorem z_V.k {k k' : Nat} {b : Nat → Nat} {t : Nat → Nat → Nat} (h : z_V k b t) (hk : k ≤ k') : z_V k' b t := ⟨h.l0, h.l1, h.bg, Nat.le_trans h.ck (Nat.mul_le_mul_left _ hk), h.n6, fun w hw => (h.te w hw).k hk, h.ab, h.ls⟩
theorem z_fail {N k : Nat} {b : Nat → Nat} {t : Nat → Nat → Nat} {cf : Nat → Int32} {Pf : q_M → Prop} {Ff : q_M → Int32 × q_M} {Pb : q_M → Prop} {Fb : q_M → Int32 × q_M} {PD : q_M → Prop} {FD : q_M → Int32 × q_M} (code : Nat) (h1 : 1 ≤ code) (h3 : code ≤ N) (hV : z_V k b t)
    (hf : ∀ σ, z_R σ 0 b t → Pf σ ∧ Ff σ = (cf code, σ)) (hd : ∀ τ, z_M τ b t → PD τ ∧ FD τ = (0, q_up τ 229 5 (nI code))) : z_same N k b t cf Pf Ff Pb Fb PD FD :=
  ⟨code, 0, none, b, t, h3, by decide, Nat.le_refl _, hV.k (by omega), fun _ => ⟨rfl, rfl⟩, fun _ => rfl, fun _ e => by simp at e, hf, fun e => by omega, fun τ hM => by
    obtain ⟨p, e⟩ := hd τ hM
    refine ⟨p, fun q => by omega, ?_, ?_, ?_⟩
    · rw [e]; show (q_up τ 229 5 (nI code)) 229 5 = nI code; exact q_up_eq _ _ _ _
    · rw [e]; exact hM.u9
    · rw [e]; exact z_fs.u5 _ _⟩
theorem z_done {N k : Nat} {b : Nat → Nat} {t : Nat → Nat → Nat} {cf : Nat → Int32} {Pf : q_M → Prop} {Ff : q_M → Int32 × q_M} {Pb : q_M → Prop} {Fb : q_M → Int32 × q_M} {PD : q_M → Prop} {FD : q_M → Int32 × q_M} (res : Nat) (b' : Nat → Nat) (t' : Nat → Nat → Nat) (hV : z_V (k + 1) b' t') (hres : res < 5000000)
    (hf : ∀ σ, z_R σ 0 b t → Pf σ ∧ Ff σ = (cf 0, σ)) (hb : ∀ σ, z_R σ 0 b t → Pb σ ∧ (Fb σ).1 = nI res ∧ z_R (Fb σ).2 0 b' t' ∧ ∀ a, 20 ≤ a → (Fb σ).2 a = σ a)
    (hd : ∀ τ, z_M τ b t → PD τ ∧ (FD τ).1 = nI res ∧ (FD τ).2 229 5 = 0 ∧ z_M (FD τ).2 b' t' ∧ z_fs τ (FD τ).2) (h33 : b 3 ≤ b' 3 := by first | exact Nat.le_refl _ | exact Nat.le_succ _) : z_same N k b t cf Pf Ff Pb Fb PD FD :=
  ⟨0, res, none, b', t', by omega, hres, h33, hV, fun e => absurd rfl e, fun _ => rfl, fun _ e => by simp at e, hf, fun _ => hb, fun τ hM => by
    obtain ⟨p, e1, e2, e3, e4⟩ := hd τ hM
    exact ⟨p, fun _ => e1, e2, e3, e4⟩⟩
