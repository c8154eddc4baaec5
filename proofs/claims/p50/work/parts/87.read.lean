/-! Reading a command: what is read; the class. -/
def z_dn (s : Nat → Nat) : Nat → Nat → Nat → Nat × Nat
  | 0, p, v => (p, v)
  | w + 1, p, v => if 48 ≤ s p ∧ s p ≤ 57 then z_dn s w (p + 1) (10 * v + (s p - 48)) else (p, v)
/-- a sign of a pattern; where the reading stands, how many arguments, the arguments -/
abbrev z_St : Type := Nat × Nat × (Nat → Nat)
def z_aa (p v : Nat) (x : z_St) : z_St := (p, x.2.1 + 1, z_up x.2.2 x.2.1 v)
def z_sg1 (s : Nat → Nat) (c : Nat) (x : z_St) : Bool × z_St :=
  if c = 68 then (decide (x.1 < (z_dn s 1 x.1 0).1), z_aa (z_dn s 1 x.1 0).1 (z_dn s 1 x.1 0).2 x)
  else if c = 78 then (decide (x.1 < (z_dn s 3 x.1 0).1), z_aa (z_dn s 3 x.1 0).1 (z_dn s 3 x.1 0).2 x)
  else if c = 75 then (if s x.1 = 108 then (true, z_aa (x.1 + 1) 0 x) else if s x.1 = 100 then (true, z_aa (x.1 + 1) 1 x) else (false, z_aa x.1 1 x))
  else if s x.1 = c then (true, (x.1 + 1, x.2)) else (false, x)
def z_pm (s : Nat → Nat) : List Nat → z_St → Bool × z_St
  | [], x => (true, x)
  | c :: l, x => if (z_sg1 s c x).1 = true then z_pm s l (z_sg1 s c x).2 else z_sg1 s c x
def z_ar : List Nat → Nat
  | [] => 0
  | c :: l => (if c = 68 ∨ c = 78 ∨ c = 75 then 1 else 0) + z_ar l
theorem z_dnI (s : Nat → Nat) (n : Nat) (h0 : ∀ i, n ≤ i → s i = 0) : ∀ (w p v : Nat), p ≤ (z_dn s w p v).1 ∧ (p ≤ n → (z_dn s w p v).1 ≤ n) := by
  intro w
  induction w with
  | zero => intro p v; exact ⟨Nat.le_refl _, fun h => h⟩
  | succ w ih =>
    intro p v
    unfold z_dn
    by_cases c : 48 ≤ s p ∧ s p ≤ 57
    · rw [if_pos c]
      have hp : p < n := by
        by_cases q : n ≤ p
        · rw [h0 p q] at c; omega
        · omega
      obtain ⟨a, b⟩ := ih (p + 1) (10 * v + (s p - 48))
      exact ⟨by omega, fun _ => b (by omega)⟩
    · rw [if_neg c]
      exact ⟨Nat.le_refl _, fun h => h⟩
theorem z_sg1I (s : Nat → Nat) (n : Nat) (h0 : ∀ i, n ≤ i → s i = 0) {c : Nat} (hc : 0 < c) (x : z_St) : x.1 ≤ (z_sg1 s c x).2.1 ∧ (x.1 ≤ n → (z_sg1 s c x).2.1 ≤ n) ∧ ((z_sg1 s c x).1 = true → x.1 < (z_sg1 s c x).2.1) := by
  unfold z_sg1
  by_cases c1 : c = 68
  · rw [if_pos c1]
    obtain ⟨a, b⟩ := z_dnI s n h0 1 x.1 0
    exact ⟨a, b, fun q => of_decide_eq_true q⟩
  · rw [if_neg c1]
    by_cases c2 : c = 78
    · rw [if_pos c2]
      obtain ⟨a, b⟩ := z_dnI s n h0 3 x.1 0
      exact ⟨a, b, fun q => of_decide_eq_true q⟩
    · rw [if_neg c2]
      have hl : ∀ v, 0 < v → s x.1 = v → x.1 < n := fun v hv e => by
        by_cases q : n ≤ x.1
        · rw [h0 _ q] at e; omega
        · omega
      by_cases c3 : c = 75
      · rw [if_pos c3]
        by_cases d1 : s x.1 = 108
        · rw [if_pos d1]
          have := hl 108 (by decide) d1
          refine ⟨?_, fun _ => ?_, fun _ => ?_⟩
          · show x.1 ≤ x.1 + 1; omega
          · show x.1 + 1 ≤ n; omega
          · show x.1 < x.1 + 1; omega
        · rw [if_neg d1]
          by_cases d2 : s x.1 = 100
          · rw [if_pos d2]
            have := hl 100 (by decide) d2
            refine ⟨?_, fun _ => ?_, fun _ => ?_⟩
            · show x.1 ≤ x.1 + 1; omega
            · show x.1 + 1 ≤ n; omega
            · show x.1 < x.1 + 1; omega
          · rw [if_neg d2]
            exact ⟨Nat.le_refl _, fun h => h, fun q => by cases q⟩
      · rw [if_neg c3]
        by_cases d1 : s x.1 = c
        · rw [if_pos d1]
          have := hl c hc d1
          refine ⟨?_, fun _ => ?_, fun _ => ?_⟩
          · show x.1 ≤ x.1 + 1; omega
          · show x.1 + 1 ≤ n; omega
          · show x.1 < x.1 + 1; omega
        · rw [if_neg d1]
          exact ⟨Nat.le_refl _, fun h => h, fun q => by cases q⟩
theorem z_pmI (s : Nat → Nat) (n : Nat) (h0 : ∀ i, n ≤ i → s i = 0) : ∀ (l : List Nat) (x : z_St), (∀ c ∈ l, 0 < c) → x.1 ≤ (z_pm s l x).2.1 ∧ (x.1 ≤ n → (z_pm s l x).2.1 ≤ n) ∧ ((z_pm s l x).1 = true → x.1 + l.length ≤ (z_pm s l x).2.1) := by
  intro l
  induction l with
  | nil => intro x _; exact ⟨Nat.le_refl _, fun h => h, fun _ => Nat.le_refl _⟩
  | cons c l ih =>
    intro x hl
    obtain ⟨a1, a2, a3⟩ := z_sg1I s n h0 (hl c (List.mem_cons_self ..)) x
    unfold z_pm
    by_cases d : (z_sg1 s c x).1 = true
    · rw [if_pos d]
      obtain ⟨b1, b2, b3⟩ := ih (z_sg1 s c x).2 (fun c' h => hl c' (List.mem_cons_of_mem _ h))
      have := a3 d
      exact ⟨by omega, fun h => b2 (a2 h), fun h => by have := b3 h; show x.1 + (l.length + 1) ≤ _; omega⟩
    · rw [if_neg d]
      exact ⟨a1, a2, fun h => absurd h d⟩
theorem z_pmc (s : Nat → Nat) (c : Nat) (l : List Nat) (x : z_St) : z_pm s (c :: l) x = if (z_sg1 s c x).1 = true then z_pm s l (z_sg1 s c x).2 else z_sg1 s c x := rfl
theorem z_pm_app (s : Nat → Nat) (l2 : List Nat) : ∀ (l1 : List Nat) (x : z_St), z_pm s (l1 ++ l2) x = if (z_pm s l1 x).1 = true then z_pm s l2 (z_pm s l1 x).2 else z_pm s l1 x := by
  intro l1
  induction l1 with
  | nil => intro x; show z_pm s l2 x = if true = true then z_pm s l2 x else _; rw [if_pos rfl]
  | cons c l ih =>
    intro x
    rw [List.cons_append, z_pmc, z_pmc]
    by_cases d : (z_sg1 s c x).1 = true
    · rw [if_pos d, if_pos d, ih]
    · rw [if_neg d, if_neg d, if_neg d]
/-- the text -/
def z_cx (n : Nat) (tx : Nat → Nat) (i : Nat) : Nat := if i < n then tx i else 0
theorem z_cx0 {n : Nat} {tx : Nat → Nat} : ∀ i, n ≤ i → z_cx n tx i = 0 := fun i h => if_neg (by omega)
def z_tc (σ : q_M) (n : Nat) (tx : Nat → Nat) : Prop := σ 225 3 = nI n ∧ ∀ i, i < n → σ 227 i = nI (tx i)
/-- where the reader of the class stands -/
def z_rc (σ : q_M) (x : z_St) : Prop := σ 223 3 = nI x.1 ∧ σ 223 2 = nI x.2.1 ∧ ∀ j, j < x.2.1 → σ 224 j = nI (x.2.2 j)
def z_pf (σ μ : q_M) : Prop := (∀ a, a ≠ 223 → a ≠ 224 → μ a = σ a) ∧ ∀ j, j ≠ 2 → j ≠ 3 → μ 223 j = σ 223 j
theorem z_pf.rf (σ : q_M) : z_pf σ σ := ⟨fun _ _ _ => rfl, fun _ _ _ => rfl⟩
theorem z_pf.tr {τ τ' τ'' : q_M} (h : z_pf τ τ') (h' : z_pf τ' τ'') : z_pf τ τ'' := ⟨fun a e1 e2 => (h'.1 a e1 e2).trans (h.1 a e1 e2), fun j e1 e2 => (h'.2 j e1 e2).trans (h.2 j e1 e2)⟩
theorem z_pf.tc {σ μ : q_M} {n : Nat} {tx : Nat → Nat} (h : z_pf σ μ) (ht : z_tc σ n tx) : z_tc μ n tx := ⟨by rw [h.1 225 (by decide) (by decide)]; exact ht.1, fun i hi => by rw [h.1 227 (by decide) (by decide)]; exact ht.2 i hi⟩
def z_b (o : Bool) : Int32 := if o = true then 1 else 0
theorem z_b0 {o : Bool} (h : ¬ o = true) : z_b o = 0 := if_neg h
theorem z_b1' {o : Bool} (h : o = true) : z_b o = 1 := if_pos h
/-- a character -/
theorem z_rch {σ : q_M} {n : Nat} {tx : Nat → Nat} {x : z_St} (ht : z_tc σ n tx) (hx : z_rc σ x) (hp : x.1 ≤ n) (hn : n ≤ 60) (htx : ∀ i, i < n → tx i < 200) {c : Nat} (hc0 : 0 < c) (hc : c < 200) : P_X3_readCharacter (nI c) σ ∧ ∃ μ, F_X3_readCharacter (nI c) σ = (z_b (decide (z_cx n tx x.1 = c)), μ) ∧ z_rc μ (if z_cx n tx x.1 = c then (x.1 + 1, x.2) else x) ∧ z_pf σ μ := by
  obtain ⟨h1, h2, h3⟩ := hx
  have e1 : (σ 223 3 < σ 225 3) = (x.1 < n) := by rw [h1, ht.1, z_lt (by omega) (by omega)]
  refine ⟨⟨fun q => ⟨by rw [h1]; exact nI_pos (by omega), q, trivial⟩, fun _ => trivial⟩, ?_⟩
  unfold F_X3_readCharacter q_L z_cx
  by_cases a : x.1 < n
  · have ec : (σ 223 3).toNatClampNeg = x.1 := by rw [h1, nI_clamp (by omega)]
    have e2 : (σ 227 x.1 = nI c) = (tx x.1 = c) := by rw [ht.2 _ a, z_eq (by have := htx _ a; omega) (by omega)]
    simp only [e1, ec, e2, if_pos a]
    by_cases d : tx x.1 = c
    · rw [if_pos d, if_pos d, z_b1' (by simpa using d)]
      refine ⟨_, rfl, ⟨?_, ?_, fun j hj => ?_⟩, ⟨fun b b1 _ => q_up_off b1, fun j _ j3 => q_up_nj j3⟩⟩
      · rw [q_up_eq, h1, z_l1, z_add]
      · rw [q_up_nj (by decide)]; exact h2
      · rw [q_up_nk (by decide)]; exact h3 j hj
    · rw [if_neg d, if_neg d, z_b0 (by simpa using d)]
      exact ⟨σ, rfl, ⟨h1, h2, h3⟩, z_pf.rf σ⟩
  · have d : ¬ (0 : Nat) = c := by omega
    simp only [e1, if_neg a]
    rw [if_neg d, z_b0 (by simpa using d)]
    exact ⟨σ, rfl, ⟨h1, h2, h3⟩, z_pf.rf σ⟩
/-- an argument -/
theorem z_adA {σ : q_M} {x : z_St} (hx : z_rc σ x) (hm : x.2.1 < 3) (v : Nat) : P_X3_addArgument (nI v) σ ∧ z_rc (F_X3_addArgument (nI v) σ) (z_aa x.1 v x) ∧ z_pf σ (F_X3_addArgument (nI v) σ) := by
  obtain ⟨h1, h2, h3⟩ := hx
  have e0 : ¬ σ 223 2 < 0 := by rw [h2]; exact nI_pos (by omega)
  have el : q_len 224 = 3 := rfl
  have e3 : σ 223 2 < nI 3 := by rw [h2]; exact nI_lt hm (by decide)
  have ec : (σ 223 2).toNatClampNeg = x.2.1 := by rw [h2, nI_clamp (by omega)]
  unfold P_X3_addArgument F_X3_addArgument q_L
  rw [el, if_neg e0, if_pos e3, ec]
  dsimp only
  refine ⟨⟨fun _ => trivial, fun _ => ⟨fun _ => ⟨by rw [h2]; exact vp_in_nI hm (by decide), trivial⟩, fun _ => trivial⟩⟩, ⟨?_, ?_, fun j hj => ?_⟩, ⟨fun a a1 a2 => ?_, fun j j2 _ => ?_⟩⟩
  · rw [q_up_nj (by decide), q_up_nk (by decide)]; exact h1
  · rw [q_up_eq, q_up_nk (by decide), h2, z_l1, z_add]
    rfl
  · have hj : j < x.2.1 + 1 := hj
    rw [q_up_nk (by decide)]
    show _ = nI (z_up x.2.2 x.2.1 v j)
    by_cases e : j = x.2.1
    · subst e; rw [q_up_eq, z_up_s]
    · rw [q_up_nj e, z_up_n e]
      exact h3 j (by omega)
  · rw [q_up_off a1, q_up_off a2]
  · rw [q_up_nj j2, q_up_nk (by decide)]
/-- digits -/
theorem z_rdL {n : Nat} {tx : Nat → Nat} (hn : n ≤ 60) (htx : ∀ i, i < n → tx i < 200) {W b : Nat} (hb : b ≤ 60) (hW : W ≤ 3) {m : Nat} {g : Nat → Nat} (hm : m < 3) : ∀ (w nn v p : Nat) (σ : q_M), w < nn → p = b + (W - w) → w ≤ W → p ≤ n → z_tc σ n tx → z_rc σ (p, m, g) → PL_X3_readDigits_7 (nI W) nn (nI b) (nI v) σ ∧ ∃ μ, FL_X3_readDigits_7 (nI W) nn (nI b) (nI v) σ = (z_b (decide (b < (z_dn (z_cx n tx) w p v).1)), μ) ∧ z_rc μ (z_aa (z_dn (z_cx n tx) w p v).1 (z_dn (z_cx n tx) w p v).2 (p, m, g)) ∧ z_pf σ μ := by
  have fin : ∀ (v p : Nat) (σ : q_M), p ≤ n → z_rc σ (p, m, g) → P_X3_addArgument (nI v) σ ∧ ∃ μ, q_L (F_X3_addArgument (nI v) σ) (fun σ4 : q_M => if nI b < σ4 223 3 then ((1 : Int32), σ4) else (0, σ4)) = (z_b (decide (b < p)), μ) ∧ z_rc μ (z_aa p v (p, m, g)) ∧ z_pf σ μ := by
    intro v p σ hp hx
    obtain ⟨a1, a2, a3⟩ := z_adA hx hm v
    refine ⟨a1, F_X3_addArgument (nI v) σ, ?_, a2, a3⟩
    unfold q_L
    have e : F_X3_addArgument (nI v) σ 223 3 = nI p := a2.1
    dsimp only
    have e1 : (nI b < F_X3_addArgument (nI v) σ 223 3) = (b < p) := by rw [e, z_lt (by omega) (by omega)]
    by_cases c : b < p
    · have e2 : nI b < F_X3_addArgument (nI v) σ 223 3 := by rw [e1]; exact c
      rw [if_pos e2, z_b1' (by simpa using c)]
    · have e2 : ¬ nI b < F_X3_addArgument (nI v) σ 223 3 := by rw [e1]; exact c
      rw [if_neg e2, z_b0 (by simpa using c)]
  intro w
  induction w with
  | zero =>
    intro nn v p σ h1 hp hw hpn ht hx
    obtain ⟨nn, rfl⟩ : ∃ q, nn = q + 1 := ⟨nn - 1, by omega⟩
    have e1 : ¬ σ 223 3 - nI b < nI W := by
      rw [hx.1]
      show ¬ nI p - nI b < nI W
      rw [z_sub (by omega), z_lt (by omega) (by omega)]
      omega
    obtain ⟨f1, f2⟩ := fin v p σ hpn hx
    unfold PL_X3_readDigits_7 FL_X3_readDigits_7
    rw [if_neg e1]
    exact ⟨⟨fun q => absurd q e1, fun _ => ⟨f1, trivial⟩⟩, f2⟩
  | succ w ih =>
    intro nn v p σ h1 hp hw hpn ht hx
    obtain ⟨nn, rfl⟩ : ∃ q, nn = q + 1 := ⟨nn - 1, by omega⟩
    have e1 : σ 223 3 - nI b < nI W := by
      rw [hx.1]
      show nI p - nI b < nI W
      rw [z_sub (by omega), z_lt (by omega) (by omega)]
      omega
    have hx1 : σ 223 3 = nI p := hx.1
    have ec : (σ 223 3).toNatClampNeg = p := by rw [hx1, nI_clamp (by omega)]
    obtain ⟨f1, f2⟩ := fin v p σ hpn hx
    unfold PL_X3_readDigits_7 FL_X3_readDigits_7 z_dn
    rw [if_pos e1, ec]
    by_cases a : p < n
    · have e2 : σ 223 3 < σ 225 3 := by rw [hx1, ht.1]; exact nI_lt a (by omega)
      have hl := htx p a
      have ed : F_X3_isDigit (σ 227 p) σ = if 48 ≤ tx p ∧ tx p ≤ 57 then 1 else 0 := by
        unfold F_X3_isDigit
        rw [ht.2 p a]
        by_cases c1 : nI (tx p) < 48
        · have := (nI_ltI (b := 48) (by omega) (by decide)).mp c1
          rw [if_pos c1, if_neg (by omega)]
        · have c1' : ¬ tx p < 48 := fun q => c1 ((nI_ltI (b := 48) (by omega) (by decide)).mpr q)
          rw [if_neg c1]
          by_cases c2 : 57 < nI (tx p)
          · have := (nI_ltI (a := 57) (by decide) (by omega)).mp c2
            rw [if_pos c2, if_neg (by omega)]
          · have c2' : ¬ 57 < tx p := fun q => c2 ((nI_ltI (a := 57) (by decide) (by omega)).mpr q)
            rw [if_neg c2, if_pos (by omega)]
      have ecx : z_cx n tx p = tx p := if_pos a
      rw [if_pos e2, ed, ecx]
      by_cases c : 48 ≤ tx p ∧ tx p ≤ 57
      · have e10 : (10 : Int32) * nI v + (σ 227 p - 48) = nI (10 * v + (tx p - 48)) := by
          rw [ht.2 p a, z_l10, z_mul]
          show _ + (nI (tx p) - nI 48) = _
          rw [z_sub c.1, z_add]
        have ep : σ 223 3 + 1 = nI (p + 1) := by rw [hx1, z_l1, z_add]
        have hx2 : z_rc (q_up σ 223 3 (nI (p + 1))) (p + 1, m, g) := ⟨q_up_eq _ _ _ _, by rw [q_up_nj (by decide)]; exact hx.2.1, fun j hj => by rw [q_up_nk (by decide)]; exact hx.2.2 j hj⟩
        have hf : z_pf σ (q_up σ 223 3 (nI (p + 1))) := ⟨fun a a1 _ => q_up_off a1, fun j _ j3 => q_up_nj j3⟩
        obtain ⟨q1, μ, q2, q3, q4⟩ := ih nn (10 * v + (tx p - 48)) (p + 1) _ (by omega) (by omega) (by omega) (by omega) (hf.tc ht) hx2
        simp only [if_pos c, e10, ep, q_L, forall_eq']
        rw [if_neg (by decide)]
        refine ⟨⟨fun _ => ⟨fun _ => ⟨by rw [hx1]; exact nI_pos (by omega), e2, fun q => absurd q (by decide), fun _ => ⟨by rw [hx1]; exact nI_pos (by omega), e2, q1⟩⟩, fun q => absurd e2 q⟩, fun q => absurd e1 q⟩, μ, q2, ?_, hf.tr q4⟩
        exact q3
      · simp only [if_neg c]
        rw [if_pos trivial]
        exact ⟨⟨fun _ => ⟨fun _ => ⟨by rw [hx1]; exact nI_pos (by omega), e2, fun _ => ⟨f1, trivial⟩, fun q => absurd trivial q⟩, fun q => absurd e2 q⟩, fun q => absurd e1 q⟩, f2⟩
    · have e2 : ¬ σ 223 3 < σ 225 3 := by rw [hx1, ht.1, z_lt (by omega) (by omega)]; exact a
      have ecx : z_cx n tx p = 0 := if_neg a
      rw [if_neg e2, ecx, if_neg (by omega)]
      exact ⟨⟨fun _ => ⟨fun q => absurd q e2, fun _ => ⟨f1, trivial⟩⟩, fun q => absurd e1 q⟩, f2⟩
theorem z_rdg {σ : q_M} {n : Nat} {tx : Nat → Nat} {x : z_St} (ht : z_tc σ n tx) (hx : z_rc σ x) (hp : x.1 ≤ n) (hn : n ≤ 60) (htx : ∀ i, i < n → tx i < 200) (hm : x.2.1 < 3) {W : Nat} (hW : W ≤ 3) : P_X3_readDigits (nI W) σ ∧ ∃ μ, F_X3_readDigits (nI W) σ = (z_b (decide (x.1 < (z_dn (z_cx n tx) W x.1 0).1)), μ) ∧ z_rc μ (z_aa (z_dn (z_cx n tx) W x.1 0).1 (z_dn (z_cx n tx) W x.1 0).2 x) ∧ z_pf σ μ := by
  obtain ⟨p, m, g⟩ := x
  obtain ⟨q1, q2⟩ := z_rdL hn htx (b := p) (show p ≤ 60 by have hp : p ≤ n := hp; omega) hW (m := m) (g := g) hm W 5 0 p σ (by omega) (by omega) (Nat.le_refl _) hp ht hx
  have h1 : σ 223 3 = nI p := hx.1
  unfold P_X3_readDigits F_X3_readDigits
  rw [h1]
  exact ⟨q1, q2⟩
theorem z_rsg {σ : q_M} {n : Nat} {tx : Nat → Nat} {x : z_St} (ht : z_tc σ n tx) (hx : z_rc σ x) (hp : x.1 ≤ n) (hn : n ≤ 60) (htx : ∀ i, i < n → tx i < 200) {c : Nat} (hc0 : 0 < c) (hc : c < 200) (hm : x.2.1 + (if c = 68 ∨ c = 78 ∨ c = 75 then 1 else 0) ≤ 3) : P_X3_readSign (nI c) σ ∧ ∃ μ, F_X3_readSign (nI c) σ = (z_b (z_sg1 (z_cx n tx) c x).1, μ) ∧ z_rc μ (z_sg1 (z_cx n tx) c x).2 ∧ z_pf σ μ := by
  have e1 : (nI c = 68) = (c = 68) := by show (nI c = nI 68) = _; rw [z_eq (by omega) (by decide)]
  have e2 : (nI c = 78) = (c = 78) := by show (nI c = nI 78) = _; rw [z_eq (by omega) (by decide)]
  have e3 : (nI c = 75) = (c = 75) := by show (nI c = nI 75) = _; rw [z_eq (by omega) (by decide)]
  unfold P_X3_readSign F_X3_readSign z_sg1
  simp only [e1, e2, e3, q_L]
  by_cases c1 : c = 68
  · rw [if_pos (.inl c1)] at hm
    obtain ⟨p1, μ, q1, q2, q3⟩ := z_rdg ht hx hp hn htx (by omega) (W := 1) (by decide)
    have p1 : P_X3_readDigits 1 σ := p1
    have q1 : F_X3_readDigits 1 σ = _ := q1
    simp only [if_pos c1]
    exact ⟨⟨fun _ => ⟨p1, trivial⟩, fun q => absurd c1 q⟩, μ, by rw [q1], q2, q3⟩
  · by_cases c2 : c = 78
    · rw [if_pos (.inr (.inl c2))] at hm
      obtain ⟨p1, μ, q1, q2, q3⟩ := z_rdg ht hx hp hn htx (by omega) (W := 3) (by decide)
      have p1 : P_X3_readDigits 3 σ := p1
      have q1 : F_X3_readDigits 3 σ = _ := q1
      simp only [if_neg c1, if_pos c2]
      exact ⟨⟨fun q => absurd q c1, fun _ => ⟨fun _ => ⟨p1, trivial⟩, fun q => absurd c2 q⟩⟩, μ, by rw [q1], q2, q3⟩
    · by_cases c3 : c = 75
      · rw [if_pos (.inr (.inr c3))] at hm
        simp only [if_neg c1, if_neg c2, if_pos c3]
        obtain ⟨p1, μ1, q1, q2, q3⟩ := z_rch ht hx hp hn htx (c := 108) (by decide) (by decide)
        have p1 : P_X3_readCharacter 108 σ := p1
        have q1 : F_X3_readCharacter 108 σ = _ := q1
        have key : P_X3_readKind σ ∧ ∃ μ, F_X3_readKind σ = (z_b (if z_cx n tx x.1 = 108 then (true, z_aa (x.1 + 1) 0 x) else if z_cx n tx x.1 = 100 then (true, z_aa (x.1 + 1) 1 x) else (false, z_aa x.1 1 x)).1, μ) ∧ z_rc μ (if z_cx n tx x.1 = 108 then (true, z_aa (x.1 + 1) 0 x) else if z_cx n tx x.1 = 100 then (true, z_aa (x.1 + 1) 1 x) else (false, z_aa x.1 1 x)).2 ∧ z_pf σ μ := by
          unfold P_X3_readKind F_X3_readKind q_L
          simp only [q1, forall_eq']
          by_cases d : z_cx n tx x.1 = 108
          · rw [if_pos d] at q2
            rw [z_b1' (by simpa using d), if_pos d]
            obtain ⟨a1, a2, a3⟩ := z_adA q2 (show x.2.1 < 3 by omega) 0
            have a1 : P_X3_addArgument 0 μ1 := a1
            exact ⟨⟨p1, fun q => absurd q (by decide), fun _ => ⟨a1, trivial⟩⟩, F_X3_addArgument 0 μ1, by rw [if_neg (by decide)]; rfl, a2, q3.tr a3⟩
          · rw [if_neg d] at q2
            rw [z_b0 (by simpa using d), if_neg d]
            obtain ⟨a1, a2, a3⟩ := z_adA q2 (show x.2.1 < 3 by omega) 1
            have a1 : P_X3_addArgument 1 μ1 := a1
            have a2 : z_rc (F_X3_addArgument 1 μ1) (z_aa x.1 1 x) := a2
            have a3 : z_pf μ1 (F_X3_addArgument 1 μ1) := a3
            obtain ⟨b1, μ2, b2, b3, b4⟩ := z_rch (a3.tc (q3.tc ht)) a2 hp hn htx (c := 100) (by decide) (by decide)
            have b1 : P_X3_readCharacter 100 (F_X3_addArgument 1 μ1) := b1
            have b2 : F_X3_readCharacter 100 (F_X3_addArgument 1 μ1) = (z_b (decide (z_cx n tx x.1 = 100)), μ2) := b2
            refine ⟨⟨p1, fun _ => ⟨a1, b1, trivial⟩, fun q => absurd rfl q⟩, μ2, ?_, ?_, (q3.tr a3).tr b4⟩
            · rw [if_pos rfl, b2]
              by_cases d2 : z_cx n tx x.1 = 100
              · rw [if_pos d2, z_b1' (by simpa using d2)]
                rfl
              · rw [if_neg d2, z_b0 (by simpa using d2)]
                rfl
            · have b3 : z_rc μ2 (if z_cx n tx x.1 = 100 then (x.1 + 1, (z_aa x.1 1 x).2) else z_aa x.1 1 x) := b3
              by_cases d2 : z_cx n tx x.1 = 100
              · rw [if_pos d2] at b3
                rw [if_pos d2]
                exact b3
              · rw [if_neg d2] at b3
                rw [if_neg d2]
                exact b3
        obtain ⟨k1, μ, k2, k3, k4⟩ := key
        exact ⟨⟨fun q => absurd q c1, fun _ => ⟨fun q => absurd q c2, fun _ => ⟨fun _ => ⟨k1, trivial⟩, fun q => absurd c3 q⟩⟩⟩, μ, by rw [k2], k3, k4⟩
      · obtain ⟨p1, μ, q1, q2, q3⟩ := z_rch ht hx hp hn htx hc0 hc
        simp only [if_neg c1, if_neg c2, if_neg c3]
        refine ⟨⟨fun q => absurd q c1, fun _ => ⟨fun q => absurd q c2, fun _ => ⟨fun q => absurd q c3, fun _ => ⟨p1, trivial⟩⟩⟩⟩, μ, ?_, ?_, q3⟩
        · rw [q1]
          by_cases d : z_cx n tx x.1 = c
          · rw [if_pos d, z_b1' (by simpa using d)]
            rfl
          · rw [if_neg d, z_b0 (by simpa using d)]
            rfl
        · by_cases d : z_cx n tx x.1 = c
          · rw [if_pos d] at q2 ⊢
            exact q2
          · rw [if_neg d] at q2 ⊢
            exact q2
