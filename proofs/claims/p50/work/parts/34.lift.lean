/-! The library's own methods, as contracts over the whole memory. -/
theorem s_SW_in : ∀ w ∈ s_SW, w ∈ q_XW := by decide +kernel
theorem q_EF.loc {α β : Nat → Nat} {A : Nat → Prop} {U : State} {H : Heap} (h : q_EF α β A U H) : s_E α A U H :=
  ⟨h.2.2.2.2.2.2.2.2.2.1.1, h.2.2.2.2.2.2.2.2.2.1.2, fun w hw => h.2.2.2.2.2.2.2.2.2.2.2.2.2.2.2.2 w (s_SW_in w hw)⟩
section q34
variable {α β : Nat → Nat} {D : va_G} {κ : Nat → ClassId}
variable {y : MethodName} {cc : ByteArray} {maxL : Nat} {ret : Option FieldType} {fr lo mc ms : Nat} {vs : List Value} {σ σ' : q_M}
/-- a method that changes nothing -/
theorem s_liftW {wc : q_H → va_W} {v : Option Value} (is : List Nat) (hn : va_nd is = true) (hC : ∀ Y, is.map (fun i => (q_ws α β κ Y σ)[i]?) = (wc Y).map some) (hC2 : ∀ Y, is.filterMap (fun i => (q_ws α β κ Y σ)[i]?) = wc Y)
    (hM : ∀ (l : Launch) (Y : q_H) (sz : Nat), q_Yok σ Y → Met l y (Cond.code y cc maxL ret :: q_W) ({ frames := fr, cells := 0, slots := 0, locals := lo } : Room) (s_Pc α D κ (vs.map (q_cv α β)) (wc Y) sz) (s_Qp (v.map (q_cv α β))) 0 0 (va_A (wc Y) sz)) : q_C α β D κ y cc maxL ret fr lo 0 0 vs σ (.inl v) σ := by
  intro l hfl Y sz p e ha hc hk s m args below hf happ hPc hK0
  obtain ⟨hv, hsz, hY, hP, hD, hK, hE⟩ := hPc
  have hD2 := hD.sub is hn (hC Y)
  have hsub : ∀ q, va_A (wc Y) sz q → q_A α Y sz q := by
    rintro q (⟨k, e, h⟩ | h)
    · exact hD2.2 k _ h
    · exact Or.inr h
  obtain ⟨n, o, h1, h2, h3, hQ, L, hL, hL2⟩ := hM l Y sz hY p e ha hc hk s m args below hf happ ⟨hv, hsz, hP.sub is (hC2 Y), hD2.self, hK, hE.loc.narrow hsub⟩ trivial
  refine ⟨n, o, h1, h2, h3, Or.inl ⟨⟨⟨v, rfl, hQ.1⟩, ⟨Y, hY, by rw [hQ.2]; exact hP, hD⟩, ⟨Nat.le_of_eq (by rw [hQ.2]), fun q _ _ => by rw [hQ.2]⟩⟩, L, hL, fun q hq => hsub _ (hL2 q hq)⟩⟩
/-- a builder's world -/
def s_wB (α : Nat → Nat) (κ : Nat → ClassId) (Y : q_H) (σ : q_M) (k : Nat) : va_W := [(α k, .inr (1, [.ref (Y (k + 2)).1, .int 0, .int (Y (k + 2)).2.2.2, .int (σ k 3)])), ((Y (k + 2)).1, .inl (κ 1, (Y (k + 2)).2.1, .inl (Y (k + 2)).2.2.1))]
theorem s_g0 {Y : q_H} {k : Nat} (hk : k = 225 ∨ k = 226) : (q_ws α β κ Y σ)[k]? = some (α k, .inr (1, [.ref (Y (k + 2)).1, .int 0, .int (Y (k + 2)).2.2.2, .int (σ k 3)])) := by
  rcases hk with rfl | rfl
  · rw [q_ws_at (by decide)]; rfl
  · rw [q_ws_at (by decide)]; rfl
theorem s_g1 {Y : q_H} {k : Nat} (hk : k = 225 ∨ k = 226) : (q_ws α β κ Y σ)[k + 2]? = some ((Y (k + 2)).1, .inl (κ 1, (Y (k + 2)).2.1, .inl (Y (k + 2)).2.2.1)) := by
  rcases hk with rfl | rfl
  · rw [q_ws_at (by decide)]; rfl
  · rw [q_ws_at (by decide)]; rfl
theorem s_gC {Y : q_H} {k : Nat} (hk : k = 225 ∨ k = 226) : [k, k + 2].map (fun i => (q_ws α β κ Y σ)[i]?) = (s_wB α κ Y σ k).map some := by
  show [(q_ws α β κ Y σ)[k]?, (q_ws α β κ Y σ)[k + 2]?] = _
  rw [s_g0 hk, s_g1 hk]
  rfl
theorem s_gC2 {Y : q_H} {k : Nat} (hk : k = 225 ∨ k = 226) : [k, k + 2].filterMap (fun i => (q_ws α β κ Y σ)[i]?) = s_wB α κ Y σ k := by
  simp only [List.filterMap_cons, List.filterMap_nil, s_g0 hk, s_g1 hk]
  rfl
theorem s_gN {k : Nat} (hk : k = 225 ∨ k = 226) : va_nd [k, k + 2] = true := by
  rcases hk with rfl | rfl <;> decide
theorem s_paste {Y : q_H} {k sz b2 m2 : Nat} {H H1 : Heap} {a2 : Nat → Int32} {ml2 : Int32} (hk : k = 225 ∨ k = 226) (hP : va_P D vwCl (q_ws α β κ Y σ) H) (hD : va_D (q_A α Y sz) (q_ws α β κ Y σ)) (hsz : H.size = sz) (hF : ∀ q : Nat, q < sz → ¬ va_A (s_wB α κ Y σ k) sz q → H1[q]? = H[q]?)
    (hP1 : va_P D vwCl [(α k, .inr (1, [.ref b2, .int 0, .int ml2, .int (σ' k 3)])), (b2, .inl (κ 1, m2, .inl a2))] H1) (hD1 : va_D (va_A (s_wB α κ Y σ k) sz) [(α k, .inr (1, [.ref b2, .int 0, .int ml2, .int (σ' k 3)])), (b2, .inl (κ 1, m2, .inl a2))]) (hσ : ∀ j, j ≠ k → j ≠ k + 2 → σ' j = σ j) {Y' : q_H} (hY' : Y' = fun j => if j = k + 2 then (b2, m2, a2, ml2) else Y j) :
    va_P D vwCl (q_ws α β κ Y' σ') H1 ∧ va_D (q_A α Y sz) (q_ws α β κ Y' σ') := by
  have e0 : Y' (k + 2) = (b2, m2, a2, ml2) := by rw [hY']; exact if_pos rfl
  have e1 : ∀ j, j ≠ k + 2 → Y' j = Y j := fun j hj => by rw [hY']; exact if_neg hj
  have h0 : (q_ws α β κ Y' σ')[k]? = some (α k, .inr (1, [.ref b2, .int 0, .int ml2, .int (σ' k 3)])) := by rw [s_g0 hk, e0]
  have h1 : (q_ws α β κ Y' σ')[k + 2]? = some (b2, .inl (κ 1, m2, .inl a2)) := by rw [s_g1 hk, e0]
  have hr : ∀ (j : Nat), j ≠ k → j ≠ k + 2 → (q_ws α β κ Y' σ')[j]? = (q_ws α β κ Y σ)[j]? := by
    intro j n0 n1
    rcases Nat.lt_or_ge j (q_N α) with hj | hj
    · rw [q_ws_atx hj, q_ws_atx hj]
      have a1 := e1 j n1
      have a2 := e1 (j + 2) (by omega)
      unfold q_ad q_pc
      rw [a1, a2, hσ j n0 n1]
    · have z : ∀ (Y : q_H) (σ : q_M), (q_ws α β κ Y σ)[j]? = none := fun Y σ => List.getElem?_eq_none (by simp [q_ws]; exact hj)
      rw [z, z]
  have old : ∀ (j : Nat) (q : Nat × va_E), j ≠ k → j ≠ k + 2 → (q_ws α β κ Y σ)[j]? = some q → q.1 < sz ∧ ¬ va_A (s_wB α κ Y σ k) sz q.1 := by
    intro j q n0 n1 h
    have hlt : q.1 < sz := by rw [← hsz]; exact vx_lt hP h
    refine ⟨hlt, ?_⟩
    rintro (⟨i, e, hi⟩ | hi)
    · rcases i with _ | _ | i
      · exact n0 (hD.1 j k _ _ h (s_g0 hk) (congrArg Prod.fst (Option.some.inj hi)).symm)
      · exact n1 (hD.1 j (k + 2) _ _ h (s_g1 hk) (congrArg Prod.fst (Option.some.inj hi)).symm)
      · cases hi
    · omega
  have key : ∀ (j : Nat) (q : Nat × va_E), (q_ws α β κ Y' σ')[j]? = some q → (j = k ∧ q = (α k, .inr (1, [.ref b2, .int 0, .int ml2, .int (σ' k 3)]))) ∨ (j = k + 2 ∧ q = (b2, .inl (κ 1, m2, .inl a2))) ∨ (j ≠ k ∧ j ≠ k + 2 ∧ (q_ws α β κ Y σ)[j]? = some q) := by
    intro j q h
    by_cases n0 : j = k
    · subst n0
      rw [h0] at h
      exact Or.inl ⟨rfl, (Option.some.inj h).symm⟩
    · by_cases n1 : j = k + 2
      · subst n1
        rw [h1] at h
        exact Or.inr (Or.inl ⟨rfl, (Option.some.inj h).symm⟩)
      · rw [hr j n0 n1] at h
        exact Or.inr (Or.inr ⟨n0, n1, h⟩)
  refine ⟨fun j q h => ?_, fun i j p q hi hj hpq => ?_, fun j q h => ?_⟩
  · rcases key j q h with ⟨rfl, rfl⟩ | ⟨rfl, rfl⟩ | ⟨n0, n1, h2⟩
    · exact hP1 0 _ rfl
    · exact hP1 1 _ rfl
    · obtain ⟨g1, g2⟩ := old j q n0 n1 h2
      exact (hP j q h2).kept (hF q.1 g1 g2)
  · have n0 : va_A (s_wB α κ Y σ k) sz (α k) := hD1.2 0 _ rfl
    have n1 : va_A (s_wB α κ Y σ k) sz b2 := hD1.2 1 _ rfl
    rcases key i p hi with ⟨rfl, rfl⟩ | ⟨rfl, rfl⟩ | ⟨m0, m1, hi2⟩
    · rcases key j q hj with ⟨rfl, rfl⟩ | ⟨rfl, rfl⟩ | ⟨l0, l1, hj2⟩
      · rfl
      · exact absurd (hD1.1 0 1 _ _ rfl rfl hpq) (by decide)
      · exact absurd (hpq ▸ n0) (old j q l0 l1 hj2).2
    · rcases key j q hj with ⟨rfl, rfl⟩ | ⟨rfl, rfl⟩ | ⟨l0, l1, hj2⟩
      · exact absurd (hD1.1 1 0 _ _ rfl rfl hpq) (by decide)
      · rfl
      · exact absurd (hpq ▸ n1) (old j q l0 l1 hj2).2
    · rcases key j q hj with ⟨rfl, rfl⟩ | ⟨rfl, rfl⟩ | ⟨l0, l1, hj2⟩
      · exact absurd (hpq.symm ▸ n0) (old i p m0 m1 hi2).2
      · exact absurd (hpq.symm ▸ n1) (old i p m0 m1 hi2).2
      · exact hD.1 i j p q hi2 hj2 hpq
  · have tr : ∀ z, va_A (s_wB α κ Y σ k) sz z → q_A α Y sz z := by
      rintro z (⟨i, e, hi⟩ | hi)
      · rcases i with _ | _ | i
        · cases hi
          exact hD.2 k _ (s_g0 hk)
        · cases hi
          exact hD.2 (k + 2) _ (s_g1 hk)
        · cases hi
      · exact Or.inr hi
    rcases key j q h with ⟨rfl, rfl⟩ | ⟨rfl, rfl⟩ | ⟨n0, n1, h2⟩
    · exact tr _ (hD1.2 0 _ rfl)
    · exact tr _ (hD1.2 1 _ rfl)
    · exact hD.2 j q h2
/-- a method that changes a builder -/
theorem s_liftB {k : Nat} {o : Option Value} (hk : k = 225 ∨ k = 226) (hσ : ∀ j, j ≠ k → j ≠ k + 2 → σ' j = σ j)
    (hM : ∀ (l : Launch) (Y : q_H) (sz : Nat), q_Yok σ Y → ∃ Qc : Array Value → State → Outcome → State → Prop, Met l y (Cond.code y cc maxL ret :: q_W) ({ frames := fr, cells := mc, slots := ms, locals := lo } : Room) (s_Pc α D κ (vs.map (q_cv α β)) (s_wB α κ Y σ k) sz) Qc mc ms (va_A (s_wB α κ Y σ k) sz) ∧
      ∀ (a : Array Value) (st : State) (oc : Outcome) (t : State), Qc a st oc t → oc = .returned (o.map (q_cv α β)) ∧ va_F (va_A (s_wB α κ Y σ k) sz) st t ∧ ∃ (b2 m2 : Nat) (a2 : Nat → Int32) (ml2 : Int32), (∃ (n : Nat) (t : Nat → Nat), σ' k 3 = nI n ∧ (∀ j, j < n → σ' (k + 2) j = nI (t j)) ∧ n ≤ m2 ∧ m2 ≤ 65536 ∧ sb_Lat t n a2 ∧ sb_Fit a2) ∧
        va_P D vwCl [(α k, .inr (1, [.ref b2, .int 0, .int ml2, .int (σ' k 3)])), (b2, .inl (κ 1, m2, .inl a2))] t.heap ∧ va_D (va_A (s_wB α κ Y σ k) sz) [(α k, .inr (1, [.ref b2, .int 0, .int ml2, .int (σ' k 3)])), (b2, .inl (κ 1, m2, .inl a2))]) : q_C α β D κ y cc maxL ret fr lo mc ms vs σ (.inl o) σ' := by
  intro l hfl Y sz p e ha hc hk0 s m args below hf happ hPc hK0
  obtain ⟨hv, hsz, hY, hP, hD, hK, hE⟩ := hPc
  have hD2 := hD.sub [k, k + 2] (s_gN hk) (s_gC hk)
  have hsub : ∀ q, va_A (s_wB α κ Y σ k) sz q → q_A α Y sz q := by
    rintro q (⟨i, e, h⟩ | h)
    · exact hD2.2 i _ h
    · exact Or.inr h
  obtain ⟨Qc, hMet, hpost⟩ := hM l Y sz hY
  obtain ⟨n, oc, h1, h2, h3, hQ, L, hL, hL2⟩ := hMet p e ha hc hk0 s m args below hf happ ⟨hv, hsz, hP.sub [k, k + 2] (s_gC2 hk), hD2.self, hK, hE.loc.narrow hsub⟩ trivial
  obtain ⟨ho, hF, b2, m2, a2, ml2, hy1, hP1, hD1⟩ := hpost _ _ _ _ hQ
  obtain ⟨hP3, hD3⟩ := s_paste (Y' := fun j => if j = k + 2 then (b2, m2, a2, ml2) else Y j) hk hP hD hsz (fun q hq hn => hF.2 q (by rw [hsz]; exact hq) hn) hP1 hD1 hσ rfl
  refine ⟨n, oc, h1, h2, h3, Or.inl ⟨⟨⟨o, rfl, ho⟩, ⟨fun j => if j = k + 2 then (b2, m2, a2, ml2) else Y j, ?_, hP3, hD3⟩, ⟨hF.1, fun q hq hn => hF.2 q hq (fun z => hn (hsub q z))⟩⟩, L, hL, fun q hq => hsub _ (hL2 q hq)⟩⟩
  rcases hk with rfl | rfl
  · refine ⟨?_, ?_⟩
    · exact hy1
    · have := hY.2
      unfold q_Y1 at this ⊢
      rw [hσ (228 - 2) (by decide) (by decide), hσ 228 (by decide) (by decide)]
      exact this
  · refine ⟨?_, ?_⟩
    · have := hY.1
      unfold q_Y1 at this ⊢
      rw [hσ (227 - 2) (by decide) (by decide), hσ 227 (by decide) (by decide)]
      exact this
    · exact hy1
end q34
