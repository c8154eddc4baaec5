/-! Drawing lanes. -/
def z_bt (Q l : Nat) : Nat := Q / 2 ^ l % 2
def z_fl (Q : Nat) : Nat → Nat → Nat → Nat
  | 0, _, _ => 0
  | nn + 1, p, l => if z_bt Q l = 1 then z_fl Q nn p (l + 1) else if 0 < p then z_fl Q nn (p - 1) (l + 1) else l
def z_fc (Q n p : Nat) : Nat → Nat → Nat → Nat
  | 0, _, _ => 0
  | nn + 1, s, l => if n < l then n else if z_bt Q l = 0 then (if s = p then l else z_fc Q n p nn (s + 1) (l + 1)) else z_fc Q n p nn s (l + 1)
def z_pq (Q : Nat) : Nat → Nat
  | 0 => 0
  | n + 1 => z_pq Q n + z_bt Q (n + 1)
set_option maxRecDepth 100000 in
theorem z_b1 : ∀ Q, Q < 128 → ∀ l, l < 8 → (nI Q >>> (nI l &&& 31)) &&& 1 = nI (z_bt Q l) := by decide +kernel
set_option maxRecDepth 100000 in
theorem z_b2 : ∀ Q, Q < 128 → ∀ l, l < 7 → nI Q ||| (1 <<< (nI l &&& 31)) = nI (Q ||| 2 ^ l) := by decide +kernel
set_option maxRecDepth 100000 in
theorem z_b3 : ∀ Q, Q < 128 → ∀ l, l < 7 → Q ||| 2 ^ l < 128 ∧ (∀ j, j < 8 → z_bt (Q ||| 2 ^ l) j = if j = l then 1 else z_bt Q j) ∧ ∀ n, n < 7 → z_pq (Q ||| 2 ^ l) n ≤ z_pq Q n + 1 := by decide +kernel
set_option maxRecDepth 100000 in
theorem z_b4 : ∀ Q, Q < 128 → ∀ n, n < 7 → ∀ p, p < 6 → p + z_pq Q n < n → 1 ≤ z_fl Q 40 p 1 ∧ z_fl Q 40 p 1 ≤ n ∧ z_fc Q n p 10 0 1 = z_fl Q 40 p 1 := by decide +kernel
theorem z_bt01 (Q l : Nat) : z_bt Q l = 0 ∨ z_bt Q l = 1 := by
  unfold z_bt
  have := Nat.mod_lt (Q / 2 ^ l) (show 2 > 0 by decide)
  omega
theorem z_fl_ge (Q : Nat) : ∀ (nn p l : Nat), z_fl Q nn p l = 0 ∨ l ≤ z_fl Q nn p l := by
  intro nn
  induction nn with
  | zero => intro p l; exact .inl rfl
  | succ nn ih =>
    intro p l
    unfold z_fl
    split
    · rcases ih p (l + 1) with h | h
      · exact .inl h
      · exact .inr (by omega)
    · split
      · rcases ih (p - 1) (l + 1) with h | h
        · exact .inl h
        · exact .inr (by omega)
      · exact .inr (Nat.le_refl _)
theorem z_fm {Q : Nat} (hQ : Q < 128) (k : Int32) (τ : q_M) : ∀ (nn p l : Nat), p < 100 → 1 ≤ z_fl Q nn p l → z_fl Q nn p l ≤ 6 → PL_X9_freeLane_5 (nI Q) k nn (nI p) (nI l) τ ∧ FL_X9_freeLane_5 (nI Q) k nn (nI p) (nI l) τ = nI (z_fl Q nn p l) := by
  intro nn
  induction nn with
  | zero => intro p l hp h1 h2; exact absurd h1 (by show ¬ 1 ≤ 0; omega)
  | succ nn ih =>
    intro p l hp h1 h2
    have hl : l ≤ 6 := by
      rcases z_fl_ge Q (nn + 1) p l with h | h
      · omega
      · omega
    have eb := z_b1 Q hQ l (by omega)
    have e1 : (nI (z_bt Q l) = 1) = (z_bt Q l = 1) := by
      rw [z_l1, z_eq (by rcases z_bt01 Q l with h | h <;> omega) (by decide)]
    have e0 : ((0 : Int32) < nI p) = (0 < p) := by rw [z_l0, z_lt (by decide) (by omega)]
    have el : nI l + 1 = nI (l + 1) := by rw [z_l1, z_add]
    unfold PL_X9_freeLane_5 FL_X9_freeLane_5
    unfold z_fl at h1 h2 ⊢
    simp only [eb, e1, e0, el]
    by_cases a : z_bt Q l = 1
    · simp only [if_pos a] at h1 h2 ⊢
      have es : nI p - 0 = nI p := by rw [z_l0, z_sub (Nat.zero_le _)]; rfl
      rw [es]
      obtain ⟨q1, q2⟩ := ih p (l + 1) hp h1 h2
      exact ⟨⟨fun _ => q1, fun q => absurd a q⟩, q2⟩
    · simp only [if_neg a] at h1 h2 ⊢
      by_cases c : 0 < p
      · simp only [if_pos c] at h1 h2 ⊢
        have es : nI p - 1 = nI (p - 1) := by rw [z_l1, z_sub (by omega)]
        rw [es]
        obtain ⟨q1, q2⟩ := ih (p - 1) (l + 1) (by omega) h1 h2
        exact ⟨⟨fun q => absurd q a, fun _ => ⟨fun _ => q1, fun q => absurd c q⟩⟩, q2⟩
      · simp only [if_neg c]
        exact ⟨⟨fun q => absurd q a, fun _ => ⟨fun q => absurd q c, fun _ => trivial⟩⟩, trivial⟩
theorem z_fcl {r Q n w p : Nat} {τ : q_M} (hn : n ≤ 6) (hp : p < 100) (ht : ∀ l, 1 ≤ l → l ≤ n → P_X4_isTaken r (nI l) (nI w) τ ∧ F_X4_isTaken r (nI l) (nI w) τ = nI (z_bt Q l)) :
    ∀ (nn s l : Nat), s + nn ≤ 100 → 1 ≤ l → l ≤ n + 1 → n + 2 ≤ nn + l → PL_X4_freeLane_6 r (nI n) (nI w) (nI p) nn (nI s) (nI l) τ ∧ FL_X4_freeLane_6 r (nI n) (nI w) (nI p) nn (nI s) (nI l) τ = nI (z_fc Q n p nn s l) := by
  intro nn
  induction nn with
  | zero => intro s l hs h1 h2 h3; omega
  | succ nn ih =>
    intro s l hs h1 h2 h3
    have e1 : (nI n < nI l) = (n < l) := by rw [z_lt (by omega) (by omega)]
    have e2 : (nI s = nI p) = (s = p) := by rw [z_eq (by omega) (by omega)]
    have el : nI l + 1 = nI (l + 1) := by rw [z_l1, z_add]
    have es : nI s + 1 = nI (s + 1) := by rw [z_l1, z_add]
    unfold PL_X4_freeLane_6 FL_X4_freeLane_6 z_fc
    simp only [e1, e2, el, es]
    by_cases a : n < l
    · simp only [if_pos a]
      exact ⟨⟨fun _ => trivial, fun q => absurd a q⟩, trivial⟩
    · obtain ⟨tp, te⟩ := ht l h1 (by omega)
      have e3 : (nI (z_bt Q l) = 0) = (z_bt Q l = 0) := by
        rw [z_l0, z_eq (by rcases z_bt01 Q l with h | h <;> omega) (by decide)]
      simp only [if_neg a, te, e3]
      by_cases c : z_bt Q l = 0
      · simp only [if_pos c]
        by_cases d : s = p
        · simp only [if_pos d]
          exact ⟨⟨fun q => absurd q a, fun _ => ⟨tp, fun _ => ⟨fun _ => trivial, fun q => absurd d q⟩, fun q => absurd c q⟩⟩, trivial⟩
        · simp only [if_neg d]
          obtain ⟨q1, q2⟩ := ih (s + 1) (l + 1) (by omega) (by omega) (by omega) (by omega)
          exact ⟨⟨fun q => absurd q a, fun _ => ⟨tp, fun _ => ⟨fun q => absurd q d, fun _ => q1⟩, fun q => absurd c q⟩⟩, q2⟩
      · simp only [if_neg c]
        obtain ⟨q1, q2⟩ := ih s (l + 1) (by omega) (by omega) (by omega) (by omega)
        exact ⟨⟨fun q => absurd q a, fun _ => ⟨tp, fun q => absurd q c, fun _ => q1⟩⟩, q2⟩
/-- the lanes drawn -/
def z_dx (v : Nat) : Nat → Nat
  | 0 => v
  | i + 1 => (5 * z_dx v i + 3) % 1000
def z_dq (v n : Nat) : Nat → Nat
  | 0 => 0
  | i + 1 => z_dq v n i ||| 2 ^ z_fl (z_dq v n i) 40 (z_dx v (i + 1) % (n - i)) 1
def z_dl (v n i : Nat) : Nat := z_fl (z_dq v n i) 40 (z_dx v (i + 1) % (n - i)) 1
theorem z_dx_lt {v : Nat} (hv : v ≤ 999) : ∀ i, z_dx v i ≤ 999 := by
  intro i
  cases i with
  | zero => exact hv
  | succ i =>
    have := Nat.mod_lt (5 * z_dx v i + 3) (show 1000 > 0 by decide)
    show (5 * z_dx v i + 3) % 1000 ≤ 999
    omega
theorem z_pq0 : ∀ n, n < 7 → z_pq 0 n = 0 := by decide +kernel
theorem z_dqI {v n : Nat} (hn : n ≤ 6) : ∀ i, i ≤ n → z_dq v n i < 128 ∧ z_pq (z_dq v n i) n ≤ i := by
  intro i
  induction i with
  | zero => intro _; exact ⟨by show 0 < 128; decide, by show z_pq 0 n ≤ 0; rw [z_pq0 n (by omega)]; decide⟩
  | succ i ih =>
    intro hi
    obtain ⟨h1, h2⟩ := ih (by omega)
    have hm := Nat.mod_lt (z_dx v (i + 1)) (show n - i > 0 by omega)
    obtain ⟨f1, f2, -⟩ := z_b4 _ h1 n (by omega) (z_dx v (i + 1) % (n - i)) (by omega) (by omega)
    obtain ⟨g1, g2, g3⟩ := z_b3 _ h1 _ (show z_fl (z_dq v n i) 40 (z_dx v (i + 1) % (n - i)) 1 < 7 by omega)
    refine ⟨g1, ?_⟩
    have := g3 n (by omega)
    show z_pq (z_dq v n i ||| 2 ^ z_fl (z_dq v n i) 40 (z_dx v (i + 1) % (n - i)) 1) n ≤ i + 1
    omega
theorem z_dlI {v n i : Nat} (hn : n ≤ 6) (hi : i < n) : 1 ≤ z_dl v n i ∧ z_dl v n i ≤ n ∧ z_fc (z_dq v n i) n (z_dx v (i + 1) % (n - i)) 10 0 1 = z_dl v n i := by
  obtain ⟨h1, h2⟩ := z_dqI (v := v) hn i (by omega)
  have hm := Nat.mod_lt (z_dx v (i + 1)) (show n - i > 0 by omega)
  exact z_b4 _ h1 n (by omega) (z_dx v (i + 1) % (n - i)) (by omega) (by omega)
theorem z_dqb {v n : Nat} (hn : n ≤ 6) {l : Nat} (hl : l < 8) : ∀ i, i ≤ n → (z_bt (z_dq v n i) l = 1 ↔ ∃ j, j < i ∧ z_dl v n j = l) := by
  intro i
  induction i with
  | zero =>
    intro _
    constructor
    · intro h
      have e : z_bt 0 l = 0 := by
        unfold z_bt
        rw [Nat.zero_div]
      have h : z_bt 0 l = 1 := h
      omega
    · rintro ⟨j, hj, _⟩; omega
  | succ i ih =>
    intro hi
    obtain ⟨h1, h2⟩ := z_dqI (v := v) hn i (by omega)
    obtain ⟨f1, f2, -⟩ := z_dlI (v := v) hn (show i < n by omega)
    obtain ⟨g1, g2, g3⟩ := z_b3 _ h1 (z_dl v n i) (by omega)
    have e : z_bt (z_dq v n (i + 1)) l = if l = z_dl v n i then 1 else z_bt (z_dq v n i) l := g2 l hl
    rw [e]
    by_cases c : l = z_dl v n i
    · rw [if_pos c]
      exact ⟨fun _ => ⟨i, by omega, c.symm⟩, fun _ => rfl⟩
    · rw [if_neg c, ih (by omega)]
      constructor
      · rintro ⟨j, hj, ej⟩; exact ⟨j, by omega, ej⟩
      · rintro ⟨j, hj, ej⟩
        by_cases d : j = i
        · subst d; exact absurd ej.symm c
        · exact ⟨j, by omega, ej⟩
theorem z_tkL {r w l : Nat} {b : Nat → Nat} {t : Nat → Nat → Nat} {τ : q_M} (hR : z_R τ r b t) (hw : w ≤ b 3) (hn : b 3 ≤ 6) (hl : l < 100) (ht : ∀ i, i < w → t i 4 ≤ 6) :
    ∀ (nn j : Nat), 7 ≤ nn + j → j ≤ 6 → PL_X4_isTaken_12 r (nI l) (nI w) nn (nI j) τ ∧ ((∃ i, j ≤ i ∧ i < w ∧ t i 4 = l) → FL_X4_isTaken_12 r (nI l) (nI w) nn (nI j) τ = 1) ∧ ((¬ ∃ i, j ≤ i ∧ i < w ∧ t i 4 = l) → FL_X4_isTaken_12 r (nI l) (nI w) nn (nI j) τ = 0) := by
  intro nn
  induction nn with
  | zero => intro j h1 h2; omega
  | succ nn ih =>
    intro j h1 h2
    have e6 : (nI j < 6) = (j < 6) := by rw [z_l6, z_lt (by omega) (by omega)]
    unfold PL_X4_isTaken_12 FL_X4_isTaken_12
    by_cases h6 : j < 6
    · have hc : (nI j).toNatClampNeg = j := nI_clamp (by omega)
      have hno : τ (r + 2 + 3 * j) 0 = nI j := by
        by_cases q : j < b 3
        · exact (hR.te j h6 q).no
        · exact (hR.ab j h6 (by omega)).no
      have en : (τ (r + 2 + 3 * j) 0 < nI w) = (j < w) := by rw [hno, z_lt (by omega) (by omega)]
      obtain ⟨q1, q2, q3⟩ := ih (j + 1) (by omega) (by omega)
      simp only [e6, hc, z_place, z_l1, z_add, en]
      rw [if_pos h6]
      by_cases hjw : j < w
      · have htj := ht j hjw
        have el : (τ (r + 2 + 3 * j) 4 = nI l) = (t j 4 = l) := by
          rw [(hR.te j h6 (by omega)).ln, z_eq (by omega) (by omega)]
        simp only [el, if_pos hjw]
        by_cases c : t j 4 = l
        · rw [if_pos c]
          exact ⟨⟨fun _ => ⟨z_in h6 (by decide), fun _ => ⟨fun _ => trivial, fun q => absurd c q⟩, fun q => absurd hjw q⟩, fun q => absurd h6 q⟩, fun _ => rfl, fun q => absurd ⟨j, Nat.le_refl _, hjw, c⟩ q⟩
        · rw [if_neg c]
          refine ⟨⟨fun _ => ⟨z_in h6 (by decide), fun _ => ⟨fun q => absurd q c, fun _ => q1⟩, fun q => absurd hjw q⟩, fun q => absurd h6 q⟩, ?_, ?_⟩
          · rintro ⟨i, i1, i2, i3⟩
            refine q2 ⟨i, ?_, i2, i3⟩
            by_cases e : i = j
            · subst e; exact absurd i3 c
            · omega
          · intro q
            exact q3 (fun ⟨i, i1, i2, i3⟩ => q ⟨i, by omega, i2, i3⟩)
      · rw [if_neg hjw]
        refine ⟨⟨fun _ => ⟨z_in h6 (by decide), fun q => absurd q hjw, fun _ => q1⟩, fun q => absurd h6 q⟩, ?_, ?_⟩
        · rintro ⟨i, i1, i2, i3⟩; omega
        · intro q
          exact q3 (fun ⟨i, i1, i2, i3⟩ => q ⟨i, by omega, i2, i3⟩)
    · simp only [e6]
      rw [if_neg h6]
      refine ⟨⟨fun q => absurd q h6, fun _ => trivial⟩, ?_, fun _ => rfl⟩
      rintro ⟨i, i1, i2, i3⟩; omega
theorem z_mod {x n : Nat} (hx : x < 2 ^ 31) (h0 : 0 < n) (hn : n < 2 ^ 31) : nI x - nI x / nI n * nI n = nI (x % n) := by
  have hd := Nat.div_mul_le_self x n
  rw [z_div hx h0 hn, z_mul, z_sub hd]
  congr 1
  have := Nat.div_add_mod x n
  rw [Nat.mul_comm] at this
  omega
theorem z_nx {x : Nat} (hx : x ≤ 999) : ((5 : Int32) * nI x + 3) - ((5 : Int32) * nI x + 3) / 1000 * 1000 = nI ((5 * x + 3) % 1000) := by
  rw [z_l5, z_mul, z_l3, z_add, z_l1000, z_mod (by omega) (by decide) (by decide)]
theorem z_m1 {a : Nat} (h : 0 < a) : nI a + (-1) = nI (a - 1) := by
  obtain ⟨c, rfl⟩ : ∃ c, a = c + 1 := ⟨a - 1, by omega⟩
  rw [nI_succ, Nat.add_sub_cancel, Int32.add_assoc, show (1 : Int32) + (-1) = 0 by decide, Int32.add_zero]
abbrev z_dm (v n : Nat) : Nat → (Nat → Nat) → Nat → Nat := fun i x => z_up x 4 (z_dl v n i)
theorem z_shL {r v : Nat} (hr : r + 20 ≤ 220) (hv : v ≤ 999) {b : Nat → Nat} {t : Nat → Nat → Nat} (hn : b 3 ≤ 6) (v0 : Int32) :
    ∀ (nn w : Nat) (τ : q_M) (x4 : Int32), 7 ≤ nn + w → w ≤ 6 → (w < b 3 → x4 = nI (z_dx v w)) → z_R τ r b (z_mp (z_dm v (b 3)) (b 3) w t) → PL_X4_shuffleLanes_24 r v0 nn (nI (b 3)) (nI (b 3 - w)) x4 (nI w) τ ∧ z_R (FL_X4_shuffleLanes_24 r v0 nn (nI (b 3)) (nI (b 3 - w)) x4 (nI w) τ) r b (z_mp (z_dm v (b 3)) (b 3) (b 3) t) ∧ (∀ a, a < r ∨ r + 20 ≤ a → (FL_X4_shuffleLanes_24 r v0 nn (nI (b 3)) (nI (b 3 - w)) x4 (nI w) τ) a = τ a) := by
  intro nn
  induction nn with
  | zero => intro w τ x4 h1 h2; omega
  | succ nn ih =>
    intro w τ x4 h1 h2 hx hR
    have e6 : (nI w < 6) = (w < 6) := by rw [z_l6, z_lt (by omega) (by omega)]
    have e0 : ((0 : Int32) < nI (b 3 - w)) = (0 < b 3 - w) := by rw [z_l0, z_lt (by decide) (by omega)]
    have ew : nI w + 1 = nI (w + 1) := by rw [z_l1, z_add]
    unfold PL_X4_shuffleLanes_24 FL_X4_shuffleLanes_24
    by_cases h6 : w < 6
    · have hc : (nI w).toNatClampNeg = w := nI_clamp (by omega)
      simp only [e6, hc, z_place, e0, ew]
      rw [if_pos h6]
      by_cases hwn : w < b 3
      · have hx1 := z_dx_lt hv w
        have hx2 := z_dx_lt hv (w + 1)
        have hm := Nat.mod_lt (z_dx v (w + 1)) (show b 3 - w > 0 by omega)
        have enx : ((5 : Int32) * x4 + 3) - ((5 : Int32) * x4 + 3) / 1000 * 1000 = nI (z_dx v (w + 1)) := by rw [hx hwn, z_nx hx1]; rfl
        have emd : nI (z_dx v (w + 1)) - nI (z_dx v (w + 1)) / nI (b 3 - w) * nI (b 3 - w) = nI (z_dx v (w + 1) % (b 3 - w)) := z_mod (by omega) (by omega) (by omega)
        have hTw := hR.te w h6 hwn
        obtain ⟨f1, f2, f3⟩ := z_dlI (v := v) hn hwn
        obtain ⟨g1, g2⟩ := z_fcl (r := r) (Q := z_dq v (b 3) w) (n := b 3) (w := w) (p := z_dx v (w + 1) % (b 3 - w)) (τ := τ) hn (by omega) (fun l l1 l2 => by
          obtain ⟨t1, t2, t3⟩ := z_tkL (l := l) hR (show w ≤ b 3 by omega) hn (by omega) (fun i hi => by
            unfold z_mp
            rw [if_pos ⟨hi, by omega⟩]
            show z_dl v (b 3) i ≤ 6
            have := (z_dlI (v := v) hn (show i < b 3 by omega)).2.1
            omega) 10 0 (by omega) (by omega)
          refine ⟨t1, ?_⟩
          have eb := z_dqb (v := v) hn (show l < 8 by omega) w (by omega)
          have em : (∃ i, 0 ≤ i ∧ i < w ∧ z_mp (z_dm v (b 3)) (b 3) w t i 4 = l) ↔ ∃ j, j < w ∧ z_dl v (b 3) j = l := by
            constructor
            · rintro ⟨i, _, i2, i3⟩
              refine ⟨i, i2, ?_⟩
              unfold z_mp at i3
              rw [if_pos ⟨i2, by omega⟩] at i3
              exact i3
            · rintro ⟨i, i2, i3⟩
              refine ⟨i, Nat.zero_le _, i2, ?_⟩
              unfold z_mp
              rw [if_pos ⟨i2, by omega⟩]
              exact i3
          rcases z_bt01 (z_dq v (b 3) w) l with c | c
          · rw [c]
            exact t3 (fun q => by
              have := eb.mpr (em.mp q)
              omega)
          · rw [c]
            exact t2 (em.mpr (eb.mp c))) 10 0 1 (by omega) (by omega) (by omega) (by omega)
        have g2 : F_X4_freeLane r (nI (b 3)) (nI w) (nI (z_dx v (w + 1) % (b 3 - w))) τ = nI (z_fc (z_dq v (b 3) w) (b 3) (z_dx v (w + 1) % (b 3 - w)) 10 0 1) := g2
        rw [f3] at g2
        have g1 : P_X4_freeLane r (nI (b 3)) (nI w) (nI (z_dx v (w + 1) % (b 3 - w))) τ := g1
        have eno := hTw.no
        simp only [enx, q_L, forall_eq', emd, eno, g2, z_m1 (show 0 < b 3 - w by omega)]
        rw [if_pos (show 0 < b 3 - w by omega)]
        have hR2 := hR.team hwn (hTw.ln_ (y := z_dl v (b 3) w)) (fun a e1 _ _ => q_up_off e1)
        rw [z_mp_w, z_mp_s (f := z_dm v (b 3)) hwn] at hR2
        obtain ⟨q1, q3, q4⟩ := ih (w + 1) _ (nI (z_dx v (w + 1))) (by omega) (by omega) (fun _ => rfl) hR2
        rw [show b 3 - w - 1 = b 3 - (w + 1) by omega]
        refine ⟨⟨fun _ => ⟨z_in h6 (by decide), fun _ => ⟨nI_ne0 (by omega) (by omega), g1, q1⟩, fun q => absurd (show 0 < b 3 - w by omega) q⟩, fun q => absurd h6 q⟩, q3, fun a ha => ?_⟩
        exact (q4 a ha).trans (q_up_off (by omega))
      · rw [if_neg (show ¬ 0 < b 3 - w by omega)]
        have hR2 := hR
        rw [z_mp_ge (by omega), ← z_mp_ge (show b 3 ≤ w + 1 by omega)] at hR2
        obtain ⟨q1, q3, q4⟩ := ih (w + 1) τ x4 (by omega) (by omega) (fun q => by omega) hR2
        rw [show b 3 - (w + 1) = b 3 - w by omega] at q1 q3 q4
        exact ⟨⟨fun _ => ⟨z_in h6 (by decide), fun q => absurd q (by omega), fun _ => q1⟩, fun q => absurd h6 q⟩, q3, q4⟩
    · simp only [e6]
      rw [if_neg h6]
      rw [z_mp_ge (by omega)] at hR
      exact ⟨⟨fun q => absurd q h6, fun _ => trivial⟩, hR, fun _ _ => rfl⟩
theorem z_drL {v : Nat} (hv : v ≤ 999) {b : Nat → Nat} {t : Nat → Nat → Nat} (hn : b 3 ≤ 6) (h0 : 0 < b 3) (v0 : Int32) :
    ∀ (nn w : Nat) (τ : q_M), 7 ≤ nn + w → w ≤ b 3 → z_M τ b (z_mp (z_dm v (b 3)) (b 3) w t) → PL_X9_draws_62 v0 nn (nI (z_dx v w)) (nI (z_dq v (b 3) w)) (nI w) τ ∧ (FL_X9_draws_62 v0 nn (nI (z_dx v w)) (nI (z_dq v (b 3) w)) (nI w) τ).1 = nI (z_dl v (b 3) 0) ∧ z_M (FL_X9_draws_62 v0 nn (nI (z_dx v w)) (nI (z_dq v (b 3) w)) (nI w) τ).2 b (z_mp (z_dm v (b 3)) (b 3) (b 3) t) ∧ (∀ a, a ≠ 230 → (FL_X9_draws_62 v0 nn (nI (z_dx v w)) (nI (z_dq v (b 3) w)) (nI w) τ).2 a = τ a) := by
  intro nn
  induction nn with
  | zero => intro w τ h1 h2; omega
  | succ nn ih =>
    intro w τ h1 h2 hM
    have e3 : (nI w < nI (b 3)) = (w < b 3) := by rw [z_lt (by omega) (by omega)]
    have eb3 := hM.bs 3 (by decide)
    unfold PL_X9_draws_62 FL_X9_draws_62
    by_cases hwn : w < b 3
    · have h6 : w < 6 := by omega
      have hx1 := z_dx_lt hv w
      have hx2 := z_dx_lt hv (w + 1)
      have hm := Nat.mod_lt (z_dx v (w + 1)) (show b 3 - w > 0 by omega)
      have enx : ((5 : Int32) * nI (z_dx v w) + 3) - ((5 : Int32) * nI (z_dx v w) + 3) / 1000 * 1000 = nI (z_dx v (w + 1)) := by rw [z_nx hx1]; rfl
      have emd : nI (z_dx v (w + 1)) - nI (z_dx v (w + 1)) / nI (b 3 - w) * nI (b 3 - w) = nI (z_dx v (w + 1) % (b 3 - w)) := z_mod (by omega) (by omega) (by omega)
      have esb : nI (b 3) - nI w = nI (b 3 - w) := z_sub (by omega)
      obtain ⟨f1, f2, -⟩ := z_dlI (v := v) hn hwn
      obtain ⟨c1, c2⟩ := z_dqI (v := v) hn w (by omega)
      obtain ⟨g1, g2⟩ := z_fm c1 (nI (z_dx v (w + 1) % (b 3 - w))) τ 40 (z_dx v (w + 1) % (b 3 - w)) 1 (by omega) f1 (show z_fl (z_dq v (b 3) w) 40 (z_dx v (w + 1) % (b 3 - w)) 1 ≤ 6 by
        have : z_fl (z_dq v (b 3) w) 40 (z_dx v (w + 1) % (b 3 - w)) 1 ≤ b 3 := f2
        omega)
      have g1 : P_X9_freeLane (nI (z_dq v (b 3) w)) (nI (z_dx v (w + 1) % (b 3 - w))) τ := g1
      have g2 : F_X9_freeLane (nI (z_dq v (b 3) w)) (nI (z_dx v (w + 1) % (b 3 - w))) τ = nI (z_dl v (b 3) w) := g2
      have eq2 : nI (z_dq v (b 3) w) ||| (1 <<< (nI (z_dl v (b 3) w) &&& 31)) = nI (z_dq v (b 3) (w + 1)) := z_b2 _ c1 _ (by omega)
      have hM2 := hM.s4 (y := z_dl v (b 3) w) h6
      rw [z_mp_w, z_mp_s (f := z_dm v (b 3)) hwn] at hM2
      have ew : nI w + 1 = nI (w + 1) := by rw [z_l1, z_add]
      obtain ⟨q1, q2, q3, q4⟩ := ih (w + 1) _ (by omega) (by omega) hM2
      simp only [eb3, e3, enx, q_L, forall_eq', esb, emd, g2, eq2, ew]
      rw [if_pos hwn]
      exact ⟨⟨fun _ => ⟨nI_ne0 (by omega) (by omega), g1, z_q4 h6, q1⟩, fun q => absurd hwn q⟩, q2, q3, fun a ha => (q4 a ha).trans (z_offs (k := 4) h6 (by decide) ha)⟩
    · simp only [eb3, e3]
      rw [if_neg hwn]
      have e : w = b 3 := by omega
      subst e
      have e4 := hM.o4 (w := 0) (by decide)
      rw [z_mp_i (f := z_dm v (b 3)) h0] at e4
      exact ⟨⟨fun q => absurd q hwn, fun _ => ⟨z_p4 (w := 0) (by decide), trivial⟩⟩, e4, hM, fun _ _ => rfl⟩
theorem z_fl_fr (Q : Nat) : ∀ (nn p l : Nat), z_fl Q nn p l = 0 ∨ z_bt Q (z_fl Q nn p l) ≠ 1 := by
  intro nn
  induction nn with
  | zero => intro p l; exact .inl rfl
  | succ nn ih =>
    intro p l
    unfold z_fl
    split
    · exact ih p (l + 1)
    · split
      · exact ih (p - 1) (l + 1)
      · next h _ => exact .inr h
theorem z_dl_ne {v n i j : Nat} (hn : n ≤ 6) (hi : i < n) (hj : j < i) : z_dl v n j ≠ z_dl v n i := by
  intro q
  obtain ⟨f1, f2, -⟩ := z_dlI (v := v) hn hi
  have h1 := (z_dqb (v := v) hn (l := z_dl v n i) (by omega) i (by omega)).mpr ⟨j, hj, q⟩
  rcases z_fl_fr (z_dq v n i) 40 (z_dx v (i + 1) % (n - i)) 1 with h | h
  · have : z_dl v n i = 0 := h
    omega
  · exact h h1
theorem z_W_lane_0 {k : Nat} {b x : Nat → Nat} (hW : z_W0 k b x) {l : Nat} (h1 : 1 ≤ l) (h2 : l ≤ 6) : z_W0 (k + 1) b (z_up x 4 l) := by
  obtain ⟨⟨a0, a1, a2, a3⟩, ⟨c4, c5, c6, c7, c8, c9, c10, c11, c12, c13⟩, ⟨l0, l1, l2, l3⟩, c18, cf, cr, cu⟩ := z_W_to hW
  refine z_W_of ?_ ?_ ?_ ?_ ?_ ?_ ?_ ?_ ?_ ?_ ?_ ?_ ?_ ?_ ?_ ?_ ?_ ?_ ?_ ?_ ?_ ?_ <;> (try simp [z_up]) <;> omega
theorem z_W_lane {k : Nat} {b x : Nat → Nat} (hW : z_W k b x) {l : Nat} (h1 : 1 ≤ l) (h2 : l ≤ 6) : z_W (k + 1) b (z_up x 4 l) := by
  refine ⟨z_W_lane_0 hW.1 h1 h2, ?_⟩
  exact hW.2.cg (fun j h5 _ _ _ _ _ => z_up_n (by omega))
theorem z_draw {k : Nat} {b : Nat → Nat} {t : Nat → Nat → Nat} (hV : z_V k b t) (g : Int32) : z_same 2 k b t (fun c => if c = 0 then 10 else if c = 1 then 12 else 13) (P_X4_faultOfDrawing 0 g) (fun σ => (F_X4_faultOfDrawing 0 g σ, σ)) (fun σ => P_X4_shuffleLanes 0 g σ ∧ P_X8_team0 0 (F_X4_shuffleLanes 0 g σ)) (fun σ => ((F_X4_shuffleLanes 0 g σ) (F_X8_team0 0 (F_X4_shuffleLanes 0 g σ)) 4, F_X4_shuffleLanes 0 g σ)) (P_X9_draws g) (F_X9_draws g) := by
  have hb := hV.bg
  have n6 := hV.n6
  have hPs : ∀ σ, z_R σ 0 b t → P_X4_faultOfStarting 0 σ := fun σ hR => ⟨fun _ => ⟨(z_entered n6 hV.stt hR).1, trivial⟩, fun _ => trivial⟩
  have hPf : ∀ σ, z_R σ 0 b t → P_X4_faultOfDrawing 0 g σ := fun σ hR => ⟨fun _ => trivial, fun _ => ⟨fun _ => trivial, fun _ => ⟨hPs σ hR, trivial⟩⟩⟩
  by_cases g1 : g < 0
  · refine z_fail 1 (by decide) (by decide) hV (fun σ hR => ⟨hPf σ hR, ?_⟩) (fun τ hM => ?_)
    · simp only [F_X4_faultOfDrawing]
      rw [if_pos g1]
      rfl
    · have e : F_X9_isIn g 0 999 τ = 0 := by unfold F_X9_isIn; rw [if_pos g1]
      unfold P_X9_draws F_X9_draws
      rw [if_pos e]
      exact ⟨⟨fun _ => trivial, fun q => absurd e q⟩, rfl⟩
  · by_cases g2 : 999 < g
    · refine z_fail 1 (by decide) (by decide) hV (fun σ hR => ⟨hPf σ hR, ?_⟩) (fun τ hM => ?_)
      · simp only [F_X4_faultOfDrawing]
        rw [if_neg g1, if_pos g2]
        rfl
      · have e : F_X9_isIn g 0 999 τ = 0 := by unfold F_X9_isIn; rw [if_neg g1, if_pos g2]
        unfold P_X9_draws F_X9_draws
        rw [if_pos e]
        exact ⟨⟨fun _ => trivial, fun q => absurd e q⟩, rfl⟩
    · obtain ⟨v, s1, s2, rfl⟩ := z_rg (a := 0) (b := 999) (by decide) (by decide) g1 g2
      have e : ∀ τ, F_X9_isIn (nI v) 0 999 τ = 1 := fun τ => by unfold F_X9_isIn; rw [if_neg g1, if_neg g2]
      by_cases h1 : b 1 = 1
      · refine z_fail 2 (by decide) (by decide) hV (fun σ hR => ⟨hPf σ hR, ?_⟩) (fun τ hM => ?_)
        · have e : ¬ σ 0 1 = 0 := by rw [hR.bg, h1]; decide
          simp only [F_X4_faultOfDrawing, F_X4_faultOfStarting]
          rw [if_neg g1, if_neg g2, if_neg e]
          rfl
        · have hM1 : z_M (q_up τ 229 5 0) b t := hM.u9
          have eu := z_unp hM1 hb
          rw [h1] at eu
          have eu2 : F_X9_isUnprepared (q_up τ 229 5 0) = 1 := eu
          simp only [P_X9_draws, F_X9_draws, e, z_10, if_false, q_L, z_uu, forall_eq', eu2]
          exact ⟨⟨fun q => q.elim, fun _ => ⟨fun q => q.elim, fun _ => trivial⟩⟩, rfl⟩
      · have h1 : b 1 = 0 := by omega
        by_cases h3 : b 3 = 0
        · refine z_fail 2 (by decide) (by decide) hV (fun σ hR => ⟨hPf σ hR, ?_⟩) (fun τ hM => ?_)
          · have e : σ 0 1 = 0 := by rw [hR.bg, h1]; rfl
            simp only [F_X4_faultOfDrawing, F_X4_faultOfStarting]
            rw [if_neg g1, if_neg g2, if_pos e, (z_entered n6 hV.stt hR).2, h3, if_pos (show nI 0 = 0 from rfl)]
            rfl
          · have hM1 : z_M (q_up τ 229 5 0) b t := hM.u9
            have eu := z_unp hM1 hb
            rw [h1] at eu
            have eu2 : F_X9_isUnprepared (q_up τ 229 5 0) = 0 := eu
            have e3 : (q_up τ 229 5 0) 230 3 = 0 := by rw [hM1.bs 3 (by decide), h3]; rfl
            simp only [P_X9_draws, F_X9_draws, e, z_10, if_false, q_L, z_uu, forall_eq', eu2, if_true, e3]
            exact ⟨⟨fun q => q.elim, fun _ => ⟨fun _ => ⟨fun _ => trivial, fun q => absurd trivial q⟩, fun q => absurd trivial q⟩⟩, rfl⟩
        · have hV' : z_V (k + 1) b (z_mp (z_dm v (b 3)) (b 3) (b 3) t) := by
            have hk := hV.k (show k ≤ k + 1 by omega)
            refine ⟨hk.l0, hk.l1, hk.bg, hk.ck, hk.n6, fun w hw => ?_, fun w hw h3 j hj => ?_, fun w hw => ?_⟩
            · rw [z_mp_i hw]
              obtain ⟨f1, f2, -⟩ := z_dlI (v := v) n6 hw
              exact z_W_lane (hV.te w hw) f1 (by omega)
            · rw [z_mp_o h3]
              exact hV.ab w hw h3 j hj
            · rw [z_mp_i hw]
              obtain ⟨f1, f2, -⟩ := z_dlI (v := v) n6 hw
              refine ⟨f2, fun u hu => ?_⟩
              rw [z_mp_i (show u < b 3 by omega)]
              exact z_dl_ne n6 hw hu
          refine z_done (z_dl v (b 3) 0) b (z_mp (z_dm v (b 3)) (b 3) (b 3) t) hV' (by have := (z_dlI (v := v) n6 (show 0 < b 3 by omega)).2.1; omega) (fun σ hR => ⟨hPf σ hR, ?_⟩) (fun σ hR => ?_) (fun τ hM => ?_)
          · have e : σ 0 1 = 0 := by rw [hR.bg, h1]; rfl
            simp only [F_X4_faultOfDrawing, F_X4_faultOfStarting]
            rw [if_neg g1, if_neg g2, if_pos e, (z_entered n6 hV.stt hR).2, if_neg (nI_ne0 (by omega) (by omega))]
            rfl
          · obtain ⟨p1, p2, p3⟩ := z_shL (r := 0) (v := v) (by decide) s2 (b := b) (t := t) n6 (nI v) 10 0 σ (nI v) (by decide) (by decide) (fun _ => rfl) (by rw [z_mp_0]; exact hR)
            have ee := z_entered n6 hV.stt hR
            have ef : F_X4_shuffleLanes 0 (nI v) σ = FL_X4_shuffleLanes_24 0 (nI v) 10 (nI (b 3)) (nI (b 3 - 0)) (nI v) (nI 0) σ := by
              unfold F_X4_shuffleLanes
              rw [ee.2]
              rfl
            have ep : P_X4_shuffleLanes 0 (nI v) σ := by
              unfold P_X4_shuffleLanes
              rw [ee.2]
              simp only [forall_eq']
              exact ⟨ee.1, p1⟩
            rw [← ef] at p2 p3
            obtain ⟨e0, e1⟩ := z_tm0 p2 hV' (show 0 < b 3 by omega)
            have e0 : F_X8_team0 0 (F_X4_shuffleLanes 0 (nI v) σ) = 2 := e0
            refine ⟨⟨ep, e1⟩, ?_, p2, fun a ha => p3 a (.inr ha)⟩
            simp only [e0]
            have hT := (p2.te 0 (by decide) (by omega)).ln
            rw [z_mp_i (show 0 < b 3 by omega)] at hT
            exact hT
          · have hM1 : z_M (q_up τ 229 5 0) b t := hM.u9
            have eu := z_unp hM1 hb
            rw [h1] at eu
            have eu2 : F_X9_isUnprepared (q_up τ 229 5 0) = 0 := eu
            have e3 : ¬ (q_up τ 229 5 0) 230 3 = 0 := by rw [hM1.bs 3 (by decide)]; exact nI_ne0 (by omega) (by omega)
            obtain ⟨p1, p2, p3, p4⟩ := z_drL s2 n6 (show 0 < b 3 by omega) (nI v) 10 0 _ (by decide) (Nat.zero_le _) (by rw [z_mp_0]; exact hM1)
            simp only [P_X9_draws, F_X9_draws, e, z_10, if_false, q_L, z_uu, forall_eq', eu2, if_true]
            rw [if_neg e3]
            refine ⟨⟨fun q => q.elim, fun _ => ⟨fun _ => ⟨fun q => absurd q e3, fun _ => p1⟩, fun q => absurd trivial q⟩⟩, p2, ?_, p3, ?_⟩
            · have e5 : (FL_X9_draws_62 (nI v) 10 (nI v) 0 0 (q_up τ 229 5 0)).2 229 = (q_up τ 229 5 0) 229 := p4 229 (by decide)
              rw [e5, q_up_eq]
            · exact (z_fs.u5 τ 0).tr (z_fs.of p4)
