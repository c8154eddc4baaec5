/-! Programs. -/
theorem z_sgm {s : Nat → Nat} {c : Nat} {x : z_St} (d : (z_sg1 s c x).1 = true) : (z_sg1 s c x).2.2.1 = x.2.1 + (if c = 68 ∨ c = 78 ∨ c = 75 then 1 else 0) := by
  unfold z_sg1 at d ⊢
  by_cases c1 : c = 68
  · rw [if_pos c1, if_pos (show c = 68 ∨ c = 78 ∨ c = 75 from .inl c1)]; rfl
  · rw [if_neg c1]
    by_cases c2 : c = 78
    · rw [if_pos c2, if_pos (show c = 68 ∨ c = 78 ∨ c = 75 from .inr (.inl c2))]; rfl
    · rw [if_neg c2]
      by_cases c3 : c = 75
      · rw [if_pos c3, if_pos (show c = 68 ∨ c = 78 ∨ c = 75 from .inr (.inr c3))]
        split
        · rfl
        · split <;> rfl
      · rw [if_neg c3, if_neg (show ¬ (c = 68 ∨ c = 78 ∨ c = 75) by omega)]
        split <;> rfl
theorem z_pmm {s : Nat → Nat} : ∀ (l : List Nat) (x : z_St), (z_pm s l x).1 = true → (z_pm s l x).2.2.1 = x.2.1 + z_ar l := by
  intro l
  induction l with
  | nil => intro x _; rfl
  | cons c l ih =>
    intro x
    rw [z_pmc]
    by_cases d : (z_sg1 s c x).1 = true
    · rw [if_pos d]
      intro h
      rw [ih _ h, z_sgm d]
      show _ = x.2.1 + ((if c = 68 ∨ c = 78 ∨ c = 75 then 1 else 0) + z_ar l)
      omega
    · rw [if_neg d]
      intro h
      exact absurd h d
theorem z_rdI (s : Nat → Nat) (n : Nat) (h0 : ∀ i, n ≤ i → s i = 0) {p : Nat} : ∀ (ls : List (List Nat)) (i f : Nat), (∀ l ∈ ls, (∀ c ∈ l, 0 < c) ∧ 5 ≤ l.length) → p ≤ n → f ≤ n → (z_rd s p ls i f).2.2.1 ≤ n ∧ ((z_rd s p ls i f).1 = true → p + 5 ≤ (z_rd s p ls i f).2.2.1) ∧ ((z_rd s p ls i f).1 = true → ∃ j, j < ls.length ∧ (z_rd s p ls i f).2.1 = i + j ∧ (z_rd s p ls i f).2.2.2.1 = z_ar (ls.getD j [])) := by
  intro ls
  induction ls with
  | nil => intro i f _ hp hf; exact ⟨hf, fun q => (by cases q), fun q => (by cases q)⟩
  | cons l ls ih =>
    intro i f hl hp hf
    obtain ⟨hc, h5⟩ := hl l (List.mem_cons_self ..)
    have hI := z_pmI s n h0 l (z_x0 p) hc
    unfold z_rd
    by_cases d : (z_pm s l (z_x0 p)).1 = true
    · rw [if_pos d]
      refine ⟨hI.2.1 hp, fun _ => ?_, fun _ => ⟨0, Nat.succ_pos _, rfl, ?_⟩⟩
      · have := hI.2.2 d
        have this : p + l.length ≤ (z_pm s l (z_x0 p)).2.1 := this
        show p + 5 ≤ (z_pm s l (z_x0 p)).2.1
        omega
      · have := z_pmm l (z_x0 p) d
        rw [show (z_x0 p).2.1 = 0 from rfl, Nat.zero_add] at this
        exact this
    · rw [if_neg d]
      have hle := hI.2.1 hp
      obtain ⟨a1, a2, a3⟩ := ih (i + 1) (max f (z_pm s l (z_x0 p)).2.1) (fun l' h => hl l' (List.mem_cons_of_mem _ h)) hp (by omega)
      refine ⟨a1, a2, fun q => ?_⟩
      obtain ⟨j, b1, b2, b3⟩ := a3 q
      exact ⟨j + 1, Nat.succ_lt_succ b1, by omega, b3⟩
theorem z_cmdI {s : Nat → Nat} {n : Nat} (h0 : ∀ i, n ≤ i → s i = 0) {p : Nat} (hp : p ≤ n) : (z_cmd s p).2.2.1 ≤ n ∧ ((z_cmd s p).1 = true → p + 5 ≤ (z_cmd s p).2.2.1) ∧ ((z_cmd s p).1 = true → (z_cmd s p).2.1 < 8 ∧ (z_cmd s p).2.2.2.1 = z_ar (z_pt (z_cmd s p).2.1)) := by
  obtain ⟨a1, a2, a3⟩ := z_rdI s n h0 (p := p) z_pts 0 p (by decide) hp hp
  refine ⟨a1, a2, fun q => ?_⟩
  obtain ⟨j, b1, b2, b3⟩ := a3 q
  have b1 : j < 8 := b1
  have e : (z_cmd s p).2.1 = j := by
    have : (z_cmd s p).2.1 = 0 + j := b2
    omega
  rw [e]
  exact ⟨b1, b3⟩
abbrev z_Cm : Type := Nat × z_St
def z_pg (s : Nat → Nat) (n : Nat) : Nat → Nat → Bool × Nat × List z_Cm
  | 0, p => (false, p, [])
  | f + 1, p => if (z_cmd s p).1 = true then (if (z_cmd s p).2.2.1 < n then (if s (z_cmd s p).2.2.1 = 59 then ((z_pg s n f ((z_cmd s p).2.2.1 + 1)).1, (z_pg s n f ((z_cmd s p).2.2.1 + 1)).2.1, ((z_cmd s p).2.1, (z_cmd s p).2.2) :: (z_pg s n f ((z_cmd s p).2.2.1 + 1)).2.2) else (false, (z_cmd s p).2.2.1, [])) else (true, (z_cmd s p).2.2.1, [((z_cmd s p).2.1, (z_cmd s p).2.2)])) else (false, (z_cmd s p).2.2.1, [])
theorem z_pgI {s : Nat → Nat} {n : Nat} (h0 : ∀ i, n ≤ i → s i = 0) : ∀ (f p : Nat), p ≤ n → (z_pg s n f p).2.1 ≤ n ∧ (z_pg s n f p).2.2.length ≤ f := by
  intro f
  induction f with
  | zero => intro p hp; exact ⟨hp, Nat.le_refl _⟩
  | succ f ih =>
    intro p hp
    have hI := z_cmdI h0 hp
    unfold z_pg
    by_cases d : (z_cmd s p).1 = true
    · rw [if_pos d]
      by_cases a : (z_cmd s p).2.2.1 < n
      · rw [if_pos a]
        by_cases e : s (z_cmd s p).2.2.1 = 59
        · rw [if_pos e]
          obtain ⟨b1, b2⟩ := ih ((z_cmd s p).2.2.1 + 1) a
          exact ⟨b1, Nat.succ_le_succ b2⟩
        · rw [if_neg e]
          exact ⟨hI.1, Nat.zero_le _⟩
      · rw [if_neg a]
        exact ⟨hI.1, Nat.succ_le_succ (Nat.zero_le _)⟩
    · rw [if_neg d]
      exact ⟨hI.1, Nat.zero_le _⟩
def z_rf (σ μ : q_M) : Prop := ∀ a, a ≠ 223 → a ≠ 224 → μ a = σ a
theorem z_rf.tc {σ μ : q_M} {n : Nat} {tx : Nat → Nat} (h : z_rf σ μ) (ht : z_tc σ n tx) : z_tc μ n tx := ⟨by rw [h 225 (by decide) (by decide)]; exact ht.1, fun i hi => by rw [h 227 (by decide) (by decide)]; exact ht.2 i hi⟩
def z_at' (s : Nat → Nat) (e p : Nat) : Prop := e = 0 ∧ p = 0 ∨ 0 < e ∧ s e = 59 ∧ p = e + 1
theorem z_nxt {n : Nat} {tx : Nat → Nat} (hn : n ≤ 60) (htx : ∀ i, i < n → tx i < 200) {e p : Nat} (hp : p ≤ n) (ha : z_at' (z_cx n tx) e p) {σ : q_M} (ht : z_tc σ n tx) (hx : σ 223 3 = nI e) : P_X3_readNext σ ∧ ∃ μ, F_X3_readNext σ = (z_b (z_cmd (z_cx n tx) p).1, μ) ∧ μ 223 3 = nI (z_cmd (z_cx n tx) p).2.2.1 ∧ ((z_cmd (z_cx n tx) p).1 = true → z_rc μ (z_cmd (z_cx n tx) p).2.2 ∧ μ 223 5 = nI (20 + (z_cmd (z_cx n tx) p).2.1) ∧ (z_cmd (z_cx n tx) p).2.1 < 8) ∧ z_qf σ μ := by
  have he : e ≤ n := by rcases ha with ⟨a, b⟩ | ⟨a, b, c⟩ <;> omega
  obtain ⟨r1, r2, r3, r4⟩ := z_next hn htx he ht hx
  rcases ha with ⟨a, b⟩ | ⟨a, b, c⟩
  · subst a b
    exact ⟨r1, r2 rfl⟩
  · subst c
    exact ⟨r1, r3 a b⟩
theorem z_feL {n : Nat} {tx : Nat → Nat} (hn : n ≤ 60) (htx : ∀ i, i < n → tx i < 200) : ∀ (f p e c nn : Nat) (σ : q_M), p ≤ n → n < p + 3 * f → f < nn → c ≤ p → z_at' (z_cx n tx) e p → z_tc σ n tx → σ 223 3 = nI e → σ 223 4 = nI c → PL_X3_findError_9 nn σ ∧ ∃ μ, FL_X3_findError_9 nn σ = (if (z_pg (z_cx n tx) n f p).1 = true then -1 else nI (z_pg (z_cx n tx) n f p).2.1, μ) ∧ ((z_pg (z_cx n tx) n f p).1 = true → μ 223 4 = nI (c + (z_pg (z_cx n tx) n f p).2.2.length)) ∧ z_rf σ μ := by
  intro f
  induction f with
  | zero => intro p e c nn σ hp hf; omega
  | succ f ih =>
    intro p e c nn σ hp hf hnn hc ha ht hx h4
    obtain ⟨nn, rfl⟩ : ∃ q, nn = q + 1 := ⟨nn - 1, by omega⟩
    have e1 : ¬ σ 225 3 < σ 223 4 := by rw [ht.1, h4, z_lt (by omega) (by omega)]; omega
    obtain ⟨p1, μ, p2, p3, p4, p5⟩ := z_nxt hn htx hp ha ht hx
    have hI := z_cmdI (s := z_cx n tx) z_cx0 hp
    have hrf : z_rf σ μ := fun a a1 a2 => p5.1 a a1 a2
    unfold PL_X3_findError_9 FL_X3_findError_9
    rw [if_neg e1]
    simp only [p2, q_L, forall_eq']
    unfold z_pg
    by_cases d : (z_cmd (z_cx n tx) p).1 = true
    · rw [z_b1' d, if_neg (by decide), if_pos d]
      have ec : μ 223 4 + 1 = nI (c + 1) := by rw [p5.2 4 (by decide) (by decide) (by decide), h4, z_l1, z_add]
      have h3 : (q_up μ 223 4 (nI (c + 1))) 223 3 = nI (z_cmd (z_cx n tx) p).2.2.1 := by rw [q_up_nj (by decide)]; exact p3
      have h25 : (q_up μ 223 4 (nI (c + 1))) 225 3 = nI n := by rw [q_up_nk (by decide), hrf 225 (by decide) (by decide)]; exact ht.1
      have hrf2 : z_rf σ (q_up μ 223 4 (nI (c + 1))) := fun a a1 a2 => by rw [q_up_off a1]; exact hrf a a1 a2
      have elt : ((q_up μ 223 4 (nI (c + 1))) 223 3 < (q_up μ 223 4 (nI (c + 1))) 225 3) = ((z_cmd (z_cx n tx) p).2.2.1 < n) := by rw [h3, h25, z_lt (by omega) (by omega)]
      have h5 := hI.2.1 d
      simp only [ec, elt]
      by_cases a : (z_cmd (z_cx n tx) p).2.2.1 < n
      · rw [if_pos a, if_pos a]
        by_cases g : z_cx n tx (z_cmd (z_cx n tx) p).2.2.1 = 59
        · rw [if_pos g]
          obtain ⟨q1, ν, q2, q3, q4⟩ := ih ((z_cmd (z_cx n tx) p).2.2.1 + 1) (z_cmd (z_cx n tx) p).2.2.1 (c + 1) nn _ a (by omega) (by omega) (by omega) (.inr ⟨by omega, g, rfl⟩) (hrf2.tc ht) h3 (q_up_eq _ _ _ _)
          refine ⟨⟨fun z => absurd z e1, fun _ => ⟨p1, fun z => absurd z (by decide), fun _ => ⟨fun _ => q1, fun z => absurd a z⟩⟩⟩, ν, q2, fun z => ?_, fun b b1 b2 => by rw [q4 b b1 b2, hrf2 b b1 b2]⟩
          rw [q3 z]
          show nI (c + 1 + _) = nI (c + (_ + 1))
          congr 1
          omega
        · rw [if_neg g]
          have hne := z_next hn htx (p := (z_cmd (z_cx n tx) p).2.2.1) (by omega) (hrf2.tc ht) h3
          obtain ⟨nn, rfl⟩ : ∃ q, nn = q + 1 := ⟨nn - 1, by omega⟩
          have e2 : ¬ (q_up μ 223 4 (nI (c + 1))) 225 3 < (q_up μ 223 4 (nI (c + 1))) 223 4 := by rw [h25, q_up_eq, z_lt (by omega) (by omega)]; omega
          have eR := hne.2.2.2 (by omega) g
          have PL1 : PL_X3_findError_9 (nn + 1) (q_up μ 223 4 (nI (c + 1))) := by
            unfold PL_X3_findError_9
            refine ⟨fun z => absurd z e2, fun _ => ⟨hne.1, fun σ6 h6 => ?_⟩⟩
            rw [eR]
            exact ⟨fun _ => trivial, fun z => absurd rfl z⟩
          refine ⟨⟨fun z => absurd z e1, fun _ => ⟨p1, fun z => absurd z (by decide), fun _ => ⟨fun _ => PL1, fun z => absurd a z⟩⟩⟩, q_up μ 223 4 (nI (c + 1)), ?_, fun z => (by cases z), hrf2⟩
          unfold FL_X3_findError_9 q_L
          rw [if_neg e2, eR]
          dsimp only
          rw [if_pos rfl, h3]
          rfl
      · rw [if_neg a, if_neg a]
        exact ⟨⟨fun z => absurd z e1, fun _ => ⟨p1, fun z => absurd z (by decide), fun _ => ⟨fun z => absurd z a, fun _ => trivial⟩⟩⟩, q_up μ 223 4 (nI (c + 1)), rfl, fun _ => q_up_eq _ _ _ _, hrf2⟩
    · rw [z_b0 d, if_pos rfl, if_neg d]
      exact ⟨⟨fun z => absurd z e1, fun _ => ⟨p1, fun _ => trivial, fun z => absurd rfl z⟩⟩, μ, by rw [p3]; rfl, fun z => (by cases z), hrf⟩
theorem z_fe {n : Nat} {tx : Nat → Nat} (hn : n ≤ 60) (htx : ∀ i, i < n → tx i < 200) {σ : q_M} (ht : z_tc σ n tx) : P_X3_findError σ ∧ ∃ μ, F_X3_findError σ = (if (z_pg (z_cx n tx) n 21 0).1 = true then -1 else nI (z_pg (z_cx n tx) n 21 0).2.1, μ) ∧ ((z_pg (z_cx n tx) n 21 0).1 = true → μ 223 4 = nI (z_pg (z_cx n tx) n 21 0).2.2.length) ∧ z_rf σ μ := by
  have hrf : z_rf σ (q_up (q_up σ 223 3 0) 223 4 0) := fun a a1 _ => by rw [q_up_off a1, q_up_off a1]
  obtain ⟨q1, μ, q2, q3, q4⟩ := z_feL hn htx 21 0 0 0 65 (q_up (q_up σ 223 3 0) 223 4 0) (Nat.zero_le _) (by omega) (by omega) (Nat.le_refl _) (.inl ⟨rfl, rfl⟩) (hrf.tc ht) (by rw [q_up_nj (by decide), q_up_eq]; rfl) (q_up_eq _ _ _ _)
  refine ⟨fun σ1 h1 σ3 h3 => ?_, μ, q2, fun z => by rw [q3 z, Nat.zero_add], fun a a1 a2 => by rw [q4 a a1 a2, hrf a a1 a2]⟩
  subst h1 h3
  exact q1
