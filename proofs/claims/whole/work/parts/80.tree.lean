/-! A command by its first letters. -/
theorem z_pch {s : Nat → Nat} {c : Nat} {l : List Nat} {x : z_St} (h : c ≠ 68 ∧ c ≠ 78 ∧ c ≠ 75) : z_pm s (c :: l) x = if s x.1 = c then z_pm s l (x.1 + 1, x.2) else (false, x) := by
  rw [z_pmc]
  have e : z_sg1 s c x = if s x.1 = c then (true, (x.1 + 1, x.2)) else (false, x) := by
    unfold z_sg1
    rw [if_neg h.1, if_neg h.2.1, if_neg h.2.2]
  rw [e]
  by_cases d : s x.1 = c
  · rw [if_pos d, if_pos d, if_pos rfl]
  · rw [if_neg d, if_neg d]
    rfl
def z_res (i : Nat) (r : Bool × z_St) : Bool × Nat × z_St := if r.1 = true then (true, i, r.2) else (false, 8, z_x0 r.2.1)
theorem z_cmd_st {s : Nat → Nat} {n p : Nat} (h0 : ∀ i, n ≤ i → s i = 0) (e0 : s p = 115) (e1 : s (p + 1) = 116) : z_cmd s p = z_res 0 (z_pm s [97, 114, 116] (z_x0 (p + 2))) := by
  have f0 : z_pm s [115, 116, 97, 114, 116] (z_x0 p) = z_pm s [97, 114, 116] (z_x0 (p + 2)) := by
    rw [z_pch (by decide), if_pos e0, z_pch (by decide), if_pos e1]
  have f1 : z_pm s [114, 117, 110, 32, 78] (z_x0 p) = (false, z_x0 p) := by
    rw [z_pch (by decide), if_neg (show ¬ s p = 114 by rw [e0]; decide)]
  have f2 : z_pm s [112, 97, 115, 115, 32, 68] (z_x0 p) = (false, z_x0 p) := by
    rw [z_pch (by decide), if_neg (show ¬ s p = 112 by rw [e0]; decide)]
  have f3 : z_pm s [100, 114, 111, 112, 32, 68, 32, 78] (z_x0 p) = (false, z_x0 p) := by
    rw [z_pch (by decide), if_neg (show ¬ s p = 100 by rw [e0]; decide)]
  have f4 : z_pm s [113, 117, 105, 116, 32, 68] (z_x0 p) = (false, z_x0 p) := by
    rw [z_pch (by decide), if_neg (show ¬ s p = 113 by rw [e0]; decide)]
  have f5 : z_pm s [112, 114, 111, 116, 101, 115, 116, 32, 68, 68, 75] (z_x0 p) = (false, z_x0 p) := by
    rw [z_pch (by decide), if_neg (show ¬ s p = 112 by rw [e0]; decide)]
  have f6 : z_pm s [115, 112, 101, 101, 100, 32, 68, 32, 68, 32, 78] (z_x0 p) = (false, z_x0 (p + 1)) := by
    rw [z_pch (by decide), if_pos e0, z_pch (by decide), if_neg (show ¬ s (p + 1) = 112 by rw [e1]; decide)]
  have f7 : z_pm s [100, 114, 97, 119, 32, 78] (z_x0 p) = (false, z_x0 p) := by
    rw [z_pch (by decide), if_neg (show ¬ s p = 100 by rw [e0]; decide)]
  have hI := (z_pmI s n h0 [97, 114, 116] (z_x0 (p + 2)) (by decide)).1
  have hI : p + 2 ≤ (z_pm s [97, 114, 116] (z_x0 (p + 2))).2.1 := hI
  unfold z_cmd z_pts z_res
  simp only [z_rd, f0, f1, f2, f3, f4, f5, f6, f7, Bool.false_eq_true, if_false]
  generalize z_pm s [97, 114, 116] (z_x0 (p + 2)) = r at hI ⊢
  by_cases d : r.1 = true
  · rw [if_pos d, if_pos d]
  · rw [if_neg d, if_neg d]
    have e : max (max (max (max (max (max (max (max (p) (r.2.1)) (p)) (p)) (p)) (p)) (p)) (p + 1)) (p) = r.2.1 := by omega
    show (false, 8, z_x0 (max (max (max (max (max (max (max (max (p) (r.2.1)) (p)) (p)) (p)) (p)) (p)) (p + 1)) (p))) = (false, 8, z_x0 r.2.1)
    rw [e]
theorem z_cmd_sp {s : Nat → Nat} {n p : Nat} (h0 : ∀ i, n ≤ i → s i = 0) (e0 : s p = 115) (n1_116 : ¬ s (p + 1) = 116) : z_cmd s p = z_res 6 (z_pm s [112, 101, 101, 100, 32, 68, 32, 68, 32, 78] (z_x0 (p + 1))) := by
  have f0 : z_pm s [115, 116, 97, 114, 116] (z_x0 p) = (false, z_x0 (p + 1)) := by
    rw [z_pch (by decide), if_pos e0, z_pch (by decide), if_neg n1_116]
  have f1 : z_pm s [114, 117, 110, 32, 78] (z_x0 p) = (false, z_x0 p) := by
    rw [z_pch (by decide), if_neg (show ¬ s p = 114 by rw [e0]; decide)]
  have f2 : z_pm s [112, 97, 115, 115, 32, 68] (z_x0 p) = (false, z_x0 p) := by
    rw [z_pch (by decide), if_neg (show ¬ s p = 112 by rw [e0]; decide)]
  have f3 : z_pm s [100, 114, 111, 112, 32, 68, 32, 78] (z_x0 p) = (false, z_x0 p) := by
    rw [z_pch (by decide), if_neg (show ¬ s p = 100 by rw [e0]; decide)]
  have f4 : z_pm s [113, 117, 105, 116, 32, 68] (z_x0 p) = (false, z_x0 p) := by
    rw [z_pch (by decide), if_neg (show ¬ s p = 113 by rw [e0]; decide)]
  have f5 : z_pm s [112, 114, 111, 116, 101, 115, 116, 32, 68, 68, 75] (z_x0 p) = (false, z_x0 p) := by
    rw [z_pch (by decide), if_neg (show ¬ s p = 112 by rw [e0]; decide)]
  have f6 : z_pm s [115, 112, 101, 101, 100, 32, 68, 32, 68, 32, 78] (z_x0 p) = z_pm s [112, 101, 101, 100, 32, 68, 32, 68, 32, 78] (z_x0 (p + 1)) := by
    rw [z_pch (by decide), if_pos e0]
  have f7 : z_pm s [100, 114, 97, 119, 32, 78] (z_x0 p) = (false, z_x0 p) := by
    rw [z_pch (by decide), if_neg (show ¬ s p = 100 by rw [e0]; decide)]
  have hI := (z_pmI s n h0 [112, 101, 101, 100, 32, 68, 32, 68, 32, 78] (z_x0 (p + 1)) (by decide)).1
  have hI : p + 1 ≤ (z_pm s [112, 101, 101, 100, 32, 68, 32, 68, 32, 78] (z_x0 (p + 1))).2.1 := hI
  unfold z_cmd z_pts z_res
  simp only [z_rd, f0, f1, f2, f3, f4, f5, f6, f7, Bool.false_eq_true, if_false]
  generalize z_pm s [112, 101, 101, 100, 32, 68, 32, 68, 32, 78] (z_x0 (p + 1)) = r at hI ⊢
  by_cases d : r.1 = true
  · rw [if_pos d, if_pos d]
  · rw [if_neg d, if_neg d]
    have e : max (max (max (max (max (max (max (max (p) (p + 1)) (p)) (p)) (p)) (p)) (p)) (r.2.1)) (p) = r.2.1 := by omega
    show (false, 8, z_x0 (max (max (max (max (max (max (max (max (p) (p + 1)) (p)) (p)) (p)) (p)) (p)) (r.2.1)) (p))) = (false, 8, z_x0 r.2.1)
    rw [e]
theorem z_cmd_pa {s : Nat → Nat} {n p : Nat} (h0 : ∀ i, n ≤ i → s i = 0) (e0 : s p = 112) (e1 : s (p + 1) = 97) : z_cmd s p = z_res 2 (z_pm s [115, 115, 32, 68] (z_x0 (p + 2))) := by
  have f0 : z_pm s [115, 116, 97, 114, 116] (z_x0 p) = (false, z_x0 p) := by
    rw [z_pch (by decide), if_neg (show ¬ s p = 115 by rw [e0]; decide)]
  have f1 : z_pm s [114, 117, 110, 32, 78] (z_x0 p) = (false, z_x0 p) := by
    rw [z_pch (by decide), if_neg (show ¬ s p = 114 by rw [e0]; decide)]
  have f2 : z_pm s [112, 97, 115, 115, 32, 68] (z_x0 p) = z_pm s [115, 115, 32, 68] (z_x0 (p + 2)) := by
    rw [z_pch (by decide), if_pos e0, z_pch (by decide), if_pos e1]
  have f3 : z_pm s [100, 114, 111, 112, 32, 68, 32, 78] (z_x0 p) = (false, z_x0 p) := by
    rw [z_pch (by decide), if_neg (show ¬ s p = 100 by rw [e0]; decide)]
  have f4 : z_pm s [113, 117, 105, 116, 32, 68] (z_x0 p) = (false, z_x0 p) := by
    rw [z_pch (by decide), if_neg (show ¬ s p = 113 by rw [e0]; decide)]
  have f5 : z_pm s [112, 114, 111, 116, 101, 115, 116, 32, 68, 68, 75] (z_x0 p) = (false, z_x0 (p + 1)) := by
    rw [z_pch (by decide), if_pos e0, z_pch (by decide), if_neg (show ¬ s (p + 1) = 114 by rw [e1]; decide)]
  have f6 : z_pm s [115, 112, 101, 101, 100, 32, 68, 32, 68, 32, 78] (z_x0 p) = (false, z_x0 p) := by
    rw [z_pch (by decide), if_neg (show ¬ s p = 115 by rw [e0]; decide)]
  have f7 : z_pm s [100, 114, 97, 119, 32, 78] (z_x0 p) = (false, z_x0 p) := by
    rw [z_pch (by decide), if_neg (show ¬ s p = 100 by rw [e0]; decide)]
  have hI := (z_pmI s n h0 [115, 115, 32, 68] (z_x0 (p + 2)) (by decide)).1
  have hI : p + 2 ≤ (z_pm s [115, 115, 32, 68] (z_x0 (p + 2))).2.1 := hI
  unfold z_cmd z_pts z_res
  simp only [z_rd, f0, f1, f2, f3, f4, f5, f6, f7, Bool.false_eq_true, if_false]
  generalize z_pm s [115, 115, 32, 68] (z_x0 (p + 2)) = r at hI ⊢
  by_cases d : r.1 = true
  · rw [if_pos d, if_pos d]
  · rw [if_neg d, if_neg d]
    have e : max (max (max (max (max (max (max (max (p) (p)) (p)) (r.2.1)) (p)) (p)) (p + 1)) (p)) (p) = r.2.1 := by omega
    show (false, 8, z_x0 (max (max (max (max (max (max (max (max (p) (p)) (p)) (r.2.1)) (p)) (p)) (p + 1)) (p)) (p))) = (false, 8, z_x0 r.2.1)
    rw [e]
theorem z_cmd_po {s : Nat → Nat} {n p : Nat} (h0 : ∀ i, n ≤ i → s i = 0) (e0 : s p = 112) (n1_97 : ¬ s (p + 1) = 97) : z_cmd s p = z_res 5 (z_pm s [114, 111, 116, 101, 115, 116, 32, 68, 68, 75] (z_x0 (p + 1))) := by
  have f0 : z_pm s [115, 116, 97, 114, 116] (z_x0 p) = (false, z_x0 p) := by
    rw [z_pch (by decide), if_neg (show ¬ s p = 115 by rw [e0]; decide)]
  have f1 : z_pm s [114, 117, 110, 32, 78] (z_x0 p) = (false, z_x0 p) := by
    rw [z_pch (by decide), if_neg (show ¬ s p = 114 by rw [e0]; decide)]
  have f2 : z_pm s [112, 97, 115, 115, 32, 68] (z_x0 p) = (false, z_x0 (p + 1)) := by
    rw [z_pch (by decide), if_pos e0, z_pch (by decide), if_neg n1_97]
  have f3 : z_pm s [100, 114, 111, 112, 32, 68, 32, 78] (z_x0 p) = (false, z_x0 p) := by
    rw [z_pch (by decide), if_neg (show ¬ s p = 100 by rw [e0]; decide)]
  have f4 : z_pm s [113, 117, 105, 116, 32, 68] (z_x0 p) = (false, z_x0 p) := by
    rw [z_pch (by decide), if_neg (show ¬ s p = 113 by rw [e0]; decide)]
  have f5 : z_pm s [112, 114, 111, 116, 101, 115, 116, 32, 68, 68, 75] (z_x0 p) = z_pm s [114, 111, 116, 101, 115, 116, 32, 68, 68, 75] (z_x0 (p + 1)) := by
    rw [z_pch (by decide), if_pos e0]
  have f6 : z_pm s [115, 112, 101, 101, 100, 32, 68, 32, 68, 32, 78] (z_x0 p) = (false, z_x0 p) := by
    rw [z_pch (by decide), if_neg (show ¬ s p = 115 by rw [e0]; decide)]
  have f7 : z_pm s [100, 114, 97, 119, 32, 78] (z_x0 p) = (false, z_x0 p) := by
    rw [z_pch (by decide), if_neg (show ¬ s p = 100 by rw [e0]; decide)]
  have hI := (z_pmI s n h0 [114, 111, 116, 101, 115, 116, 32, 68, 68, 75] (z_x0 (p + 1)) (by decide)).1
  have hI : p + 1 ≤ (z_pm s [114, 111, 116, 101, 115, 116, 32, 68, 68, 75] (z_x0 (p + 1))).2.1 := hI
  unfold z_cmd z_pts z_res
  simp only [z_rd, f0, f1, f2, f3, f4, f5, f6, f7, Bool.false_eq_true, if_false]
  generalize z_pm s [114, 111, 116, 101, 115, 116, 32, 68, 68, 75] (z_x0 (p + 1)) = r at hI ⊢
  by_cases d : r.1 = true
  · rw [if_pos d, if_pos d]
  · rw [if_neg d, if_neg d]
    have e : max (max (max (max (max (max (max (max (p) (p)) (p)) (p + 1)) (p)) (p)) (r.2.1)) (p)) (p) = r.2.1 := by omega
    show (false, 8, z_x0 (max (max (max (max (max (max (max (max (p) (p)) (p)) (p + 1)) (p)) (p)) (r.2.1)) (p)) (p))) = (false, 8, z_x0 r.2.1)
    rw [e]
theorem z_cmd_do {s : Nat → Nat} {n p : Nat} (h0 : ∀ i, n ≤ i → s i = 0) (e0 : s p = 100) (e1 : s (p + 1) = 114) (e2 : s (p + 2) = 111) : z_cmd s p = z_res 3 (z_pm s [112, 32, 68, 32, 78] (z_x0 (p + 3))) := by
  have f0 : z_pm s [115, 116, 97, 114, 116] (z_x0 p) = (false, z_x0 p) := by
    rw [z_pch (by decide), if_neg (show ¬ s p = 115 by rw [e0]; decide)]
  have f1 : z_pm s [114, 117, 110, 32, 78] (z_x0 p) = (false, z_x0 p) := by
    rw [z_pch (by decide), if_neg (show ¬ s p = 114 by rw [e0]; decide)]
  have f2 : z_pm s [112, 97, 115, 115, 32, 68] (z_x0 p) = (false, z_x0 p) := by
    rw [z_pch (by decide), if_neg (show ¬ s p = 112 by rw [e0]; decide)]
  have f3 : z_pm s [100, 114, 111, 112, 32, 68, 32, 78] (z_x0 p) = z_pm s [112, 32, 68, 32, 78] (z_x0 (p + 3)) := by
    rw [z_pch (by decide), if_pos e0, z_pch (by decide), if_pos e1, z_pch (by decide), if_pos e2]
  have f4 : z_pm s [113, 117, 105, 116, 32, 68] (z_x0 p) = (false, z_x0 p) := by
    rw [z_pch (by decide), if_neg (show ¬ s p = 113 by rw [e0]; decide)]
  have f5 : z_pm s [112, 114, 111, 116, 101, 115, 116, 32, 68, 68, 75] (z_x0 p) = (false, z_x0 p) := by
    rw [z_pch (by decide), if_neg (show ¬ s p = 112 by rw [e0]; decide)]
  have f6 : z_pm s [115, 112, 101, 101, 100, 32, 68, 32, 68, 32, 78] (z_x0 p) = (false, z_x0 p) := by
    rw [z_pch (by decide), if_neg (show ¬ s p = 115 by rw [e0]; decide)]
  have f7 : z_pm s [100, 114, 97, 119, 32, 78] (z_x0 p) = (false, z_x0 (p + 2)) := by
    rw [z_pch (by decide), if_pos e0, z_pch (by decide), if_pos e1, z_pch (by decide), if_neg (show ¬ s (p + 2) = 97 by rw [e2]; decide)]
  have hI := (z_pmI s n h0 [112, 32, 68, 32, 78] (z_x0 (p + 3)) (by decide)).1
  have hI : p + 3 ≤ (z_pm s [112, 32, 68, 32, 78] (z_x0 (p + 3))).2.1 := hI
  unfold z_cmd z_pts z_res
  simp only [z_rd, f0, f1, f2, f3, f4, f5, f6, f7, Bool.false_eq_true, if_false]
  generalize z_pm s [112, 32, 68, 32, 78] (z_x0 (p + 3)) = r at hI ⊢
  by_cases d : r.1 = true
  · rw [if_pos d, if_pos d]
  · rw [if_neg d, if_neg d]
    have e : max (max (max (max (max (max (max (max (p) (p)) (p)) (p)) (r.2.1)) (p)) (p)) (p)) (p + 2) = r.2.1 := by omega
    show (false, 8, z_x0 (max (max (max (max (max (max (max (max (p) (p)) (p)) (p)) (r.2.1)) (p)) (p)) (p)) (p + 2))) = (false, 8, z_x0 r.2.1)
    rw [e]
theorem z_cmd_da {s : Nat → Nat} {n p : Nat} (h0 : ∀ i, n ≤ i → s i = 0) (e0 : s p = 100) (e1 : s (p + 1) = 114) (n2_111 : ¬ s (p + 2) = 111) : z_cmd s p = z_res 7 (z_pm s [97, 119, 32, 78] (z_x0 (p + 2))) := by
  have f0 : z_pm s [115, 116, 97, 114, 116] (z_x0 p) = (false, z_x0 p) := by
    rw [z_pch (by decide), if_neg (show ¬ s p = 115 by rw [e0]; decide)]
  have f1 : z_pm s [114, 117, 110, 32, 78] (z_x0 p) = (false, z_x0 p) := by
    rw [z_pch (by decide), if_neg (show ¬ s p = 114 by rw [e0]; decide)]
  have f2 : z_pm s [112, 97, 115, 115, 32, 68] (z_x0 p) = (false, z_x0 p) := by
    rw [z_pch (by decide), if_neg (show ¬ s p = 112 by rw [e0]; decide)]
  have f3 : z_pm s [100, 114, 111, 112, 32, 68, 32, 78] (z_x0 p) = (false, z_x0 (p + 2)) := by
    rw [z_pch (by decide), if_pos e0, z_pch (by decide), if_pos e1, z_pch (by decide), if_neg n2_111]
  have f4 : z_pm s [113, 117, 105, 116, 32, 68] (z_x0 p) = (false, z_x0 p) := by
    rw [z_pch (by decide), if_neg (show ¬ s p = 113 by rw [e0]; decide)]
  have f5 : z_pm s [112, 114, 111, 116, 101, 115, 116, 32, 68, 68, 75] (z_x0 p) = (false, z_x0 p) := by
    rw [z_pch (by decide), if_neg (show ¬ s p = 112 by rw [e0]; decide)]
  have f6 : z_pm s [115, 112, 101, 101, 100, 32, 68, 32, 68, 32, 78] (z_x0 p) = (false, z_x0 p) := by
    rw [z_pch (by decide), if_neg (show ¬ s p = 115 by rw [e0]; decide)]
  have f7 : z_pm s [100, 114, 97, 119, 32, 78] (z_x0 p) = z_pm s [97, 119, 32, 78] (z_x0 (p + 2)) := by
    rw [z_pch (by decide), if_pos e0, z_pch (by decide), if_pos e1]
  have hI := (z_pmI s n h0 [97, 119, 32, 78] (z_x0 (p + 2)) (by decide)).1
  have hI : p + 2 ≤ (z_pm s [97, 119, 32, 78] (z_x0 (p + 2))).2.1 := hI
  unfold z_cmd z_pts z_res
  simp only [z_rd, f0, f1, f2, f3, f4, f5, f6, f7, Bool.false_eq_true, if_false]
  generalize z_pm s [97, 119, 32, 78] (z_x0 (p + 2)) = r at hI ⊢
  by_cases d : r.1 = true
  · rw [if_pos d, if_pos d]
  · rw [if_neg d, if_neg d]
    have e : max (max (max (max (max (max (max (max (p) (p)) (p)) (p)) (p + 2)) (p)) (p)) (p)) (r.2.1) = r.2.1 := by omega
    show (false, 8, z_x0 (max (max (max (max (max (max (max (max (p) (p)) (p)) (p)) (p + 2)) (p)) (p)) (p)) (r.2.1))) = (false, 8, z_x0 r.2.1)
    rw [e]
theorem z_cmd_d0 {s : Nat → Nat} {p : Nat} (e0 : s p = 100) (n1_114 : ¬ s (p + 1) = 114) : z_cmd s p = (false, 8, z_x0 (p + 1)) := by
  have f0 : z_pm s [115, 116, 97, 114, 116] (z_x0 p) = (false, z_x0 p) := by
    rw [z_pch (by decide), if_neg (show ¬ s p = 115 by rw [e0]; decide)]
  have f1 : z_pm s [114, 117, 110, 32, 78] (z_x0 p) = (false, z_x0 p) := by
    rw [z_pch (by decide), if_neg (show ¬ s p = 114 by rw [e0]; decide)]
  have f2 : z_pm s [112, 97, 115, 115, 32, 68] (z_x0 p) = (false, z_x0 p) := by
    rw [z_pch (by decide), if_neg (show ¬ s p = 112 by rw [e0]; decide)]
  have f3 : z_pm s [100, 114, 111, 112, 32, 68, 32, 78] (z_x0 p) = (false, z_x0 (p + 1)) := by
    rw [z_pch (by decide), if_pos e0, z_pch (by decide), if_neg n1_114]
  have f4 : z_pm s [113, 117, 105, 116, 32, 68] (z_x0 p) = (false, z_x0 p) := by
    rw [z_pch (by decide), if_neg (show ¬ s p = 113 by rw [e0]; decide)]
  have f5 : z_pm s [112, 114, 111, 116, 101, 115, 116, 32, 68, 68, 75] (z_x0 p) = (false, z_x0 p) := by
    rw [z_pch (by decide), if_neg (show ¬ s p = 112 by rw [e0]; decide)]
  have f6 : z_pm s [115, 112, 101, 101, 100, 32, 68, 32, 68, 32, 78] (z_x0 p) = (false, z_x0 p) := by
    rw [z_pch (by decide), if_neg (show ¬ s p = 115 by rw [e0]; decide)]
  have f7 : z_pm s [100, 114, 97, 119, 32, 78] (z_x0 p) = (false, z_x0 (p + 1)) := by
    rw [z_pch (by decide), if_pos e0, z_pch (by decide), if_neg n1_114]
  unfold z_cmd z_pts
  simp only [z_rd, f0, f1, f2, f3, f4, f5, f6, f7, Bool.false_eq_true, if_false]
  have e : max (max (max (max (max (max (max (max (p) (p)) (p)) (p)) (p + 1)) (p)) (p)) (p)) (p + 1) = p + 1 := by omega
  show (false, 8, z_x0 (max (max (max (max (max (max (max (max (p) (p)) (p)) (p)) (p + 1)) (p)) (p)) (p)) (p + 1))) = (false, 8, z_x0 (p + 1))
  rw [e]
theorem z_cmd_ru {s : Nat → Nat} {n p : Nat} (h0 : ∀ i, n ≤ i → s i = 0) (e0 : s p = 114) : z_cmd s p = z_res 1 (z_pm s [117, 110, 32, 78] (z_x0 (p + 1))) := by
  have f0 : z_pm s [115, 116, 97, 114, 116] (z_x0 p) = (false, z_x0 p) := by
    rw [z_pch (by decide), if_neg (show ¬ s p = 115 by rw [e0]; decide)]
  have f1 : z_pm s [114, 117, 110, 32, 78] (z_x0 p) = z_pm s [117, 110, 32, 78] (z_x0 (p + 1)) := by
    rw [z_pch (by decide), if_pos e0]
  have f2 : z_pm s [112, 97, 115, 115, 32, 68] (z_x0 p) = (false, z_x0 p) := by
    rw [z_pch (by decide), if_neg (show ¬ s p = 112 by rw [e0]; decide)]
  have f3 : z_pm s [100, 114, 111, 112, 32, 68, 32, 78] (z_x0 p) = (false, z_x0 p) := by
    rw [z_pch (by decide), if_neg (show ¬ s p = 100 by rw [e0]; decide)]
  have f4 : z_pm s [113, 117, 105, 116, 32, 68] (z_x0 p) = (false, z_x0 p) := by
    rw [z_pch (by decide), if_neg (show ¬ s p = 113 by rw [e0]; decide)]
  have f5 : z_pm s [112, 114, 111, 116, 101, 115, 116, 32, 68, 68, 75] (z_x0 p) = (false, z_x0 p) := by
    rw [z_pch (by decide), if_neg (show ¬ s p = 112 by rw [e0]; decide)]
  have f6 : z_pm s [115, 112, 101, 101, 100, 32, 68, 32, 68, 32, 78] (z_x0 p) = (false, z_x0 p) := by
    rw [z_pch (by decide), if_neg (show ¬ s p = 115 by rw [e0]; decide)]
  have f7 : z_pm s [100, 114, 97, 119, 32, 78] (z_x0 p) = (false, z_x0 p) := by
    rw [z_pch (by decide), if_neg (show ¬ s p = 100 by rw [e0]; decide)]
  have hI := (z_pmI s n h0 [117, 110, 32, 78] (z_x0 (p + 1)) (by decide)).1
  have hI : p + 1 ≤ (z_pm s [117, 110, 32, 78] (z_x0 (p + 1))).2.1 := hI
  unfold z_cmd z_pts z_res
  simp only [z_rd, f0, f1, f2, f3, f4, f5, f6, f7, Bool.false_eq_true, if_false]
  generalize z_pm s [117, 110, 32, 78] (z_x0 (p + 1)) = r at hI ⊢
  by_cases d : r.1 = true
  · rw [if_pos d, if_pos d]
  · rw [if_neg d, if_neg d]
    have e : max (max (max (max (max (max (max (max (p) (p)) (r.2.1)) (p)) (p)) (p)) (p)) (p)) (p) = r.2.1 := by omega
    show (false, 8, z_x0 (max (max (max (max (max (max (max (max (p) (p)) (r.2.1)) (p)) (p)) (p)) (p)) (p)) (p))) = (false, 8, z_x0 r.2.1)
    rw [e]
theorem z_cmd_qu {s : Nat → Nat} {n p : Nat} (h0 : ∀ i, n ≤ i → s i = 0) (e0 : s p = 113) : z_cmd s p = z_res 4 (z_pm s [117, 105, 116, 32, 68] (z_x0 (p + 1))) := by
  have f0 : z_pm s [115, 116, 97, 114, 116] (z_x0 p) = (false, z_x0 p) := by
    rw [z_pch (by decide), if_neg (show ¬ s p = 115 by rw [e0]; decide)]
  have f1 : z_pm s [114, 117, 110, 32, 78] (z_x0 p) = (false, z_x0 p) := by
    rw [z_pch (by decide), if_neg (show ¬ s p = 114 by rw [e0]; decide)]
  have f2 : z_pm s [112, 97, 115, 115, 32, 68] (z_x0 p) = (false, z_x0 p) := by
    rw [z_pch (by decide), if_neg (show ¬ s p = 112 by rw [e0]; decide)]
  have f3 : z_pm s [100, 114, 111, 112, 32, 68, 32, 78] (z_x0 p) = (false, z_x0 p) := by
    rw [z_pch (by decide), if_neg (show ¬ s p = 100 by rw [e0]; decide)]
  have f4 : z_pm s [113, 117, 105, 116, 32, 68] (z_x0 p) = z_pm s [117, 105, 116, 32, 68] (z_x0 (p + 1)) := by
    rw [z_pch (by decide), if_pos e0]
  have f5 : z_pm s [112, 114, 111, 116, 101, 115, 116, 32, 68, 68, 75] (z_x0 p) = (false, z_x0 p) := by
    rw [z_pch (by decide), if_neg (show ¬ s p = 112 by rw [e0]; decide)]
  have f6 : z_pm s [115, 112, 101, 101, 100, 32, 68, 32, 68, 32, 78] (z_x0 p) = (false, z_x0 p) := by
    rw [z_pch (by decide), if_neg (show ¬ s p = 115 by rw [e0]; decide)]
  have f7 : z_pm s [100, 114, 97, 119, 32, 78] (z_x0 p) = (false, z_x0 p) := by
    rw [z_pch (by decide), if_neg (show ¬ s p = 100 by rw [e0]; decide)]
  have hI := (z_pmI s n h0 [117, 105, 116, 32, 68] (z_x0 (p + 1)) (by decide)).1
  have hI : p + 1 ≤ (z_pm s [117, 105, 116, 32, 68] (z_x0 (p + 1))).2.1 := hI
  unfold z_cmd z_pts z_res
  simp only [z_rd, f0, f1, f2, f3, f4, f5, f6, f7, Bool.false_eq_true, if_false]
  generalize z_pm s [117, 105, 116, 32, 68] (z_x0 (p + 1)) = r at hI ⊢
  by_cases d : r.1 = true
  · rw [if_pos d, if_pos d]
  · rw [if_neg d, if_neg d]
    have e : max (max (max (max (max (max (max (max (p) (p)) (p)) (p)) (p)) (r.2.1)) (p)) (p)) (p) = r.2.1 := by omega
    show (false, 8, z_x0 (max (max (max (max (max (max (max (max (p) (p)) (p)) (p)) (p)) (r.2.1)) (p)) (p)) (p))) = (false, 8, z_x0 r.2.1)
    rw [e]
theorem z_cmd_no {s : Nat → Nat} {p : Nat} (n0_115 : ¬ s (p) = 115) (n0_112 : ¬ s (p) = 112) (n0_100 : ¬ s (p) = 100) (n0_114 : ¬ s (p) = 114) (n0_113 : ¬ s (p) = 113) : z_cmd s p = (false, 8, z_x0 (p)) := by
  have f0 : z_pm s [115, 116, 97, 114, 116] (z_x0 p) = (false, z_x0 p) := by
    rw [z_pch (by decide), if_neg n0_115]
  have f1 : z_pm s [114, 117, 110, 32, 78] (z_x0 p) = (false, z_x0 p) := by
    rw [z_pch (by decide), if_neg n0_114]
  have f2 : z_pm s [112, 97, 115, 115, 32, 68] (z_x0 p) = (false, z_x0 p) := by
    rw [z_pch (by decide), if_neg n0_112]
  have f3 : z_pm s [100, 114, 111, 112, 32, 68, 32, 78] (z_x0 p) = (false, z_x0 p) := by
    rw [z_pch (by decide), if_neg n0_100]
  have f4 : z_pm s [113, 117, 105, 116, 32, 68] (z_x0 p) = (false, z_x0 p) := by
    rw [z_pch (by decide), if_neg n0_113]
  have f5 : z_pm s [112, 114, 111, 116, 101, 115, 116, 32, 68, 68, 75] (z_x0 p) = (false, z_x0 p) := by
    rw [z_pch (by decide), if_neg n0_112]
  have f6 : z_pm s [115, 112, 101, 101, 100, 32, 68, 32, 68, 32, 78] (z_x0 p) = (false, z_x0 p) := by
    rw [z_pch (by decide), if_neg n0_115]
  have f7 : z_pm s [100, 114, 97, 119, 32, 78] (z_x0 p) = (false, z_x0 p) := by
    rw [z_pch (by decide), if_neg n0_100]
  unfold z_cmd z_pts
  simp only [z_rd, f0, f1, f2, f3, f4, f5, f6, f7, Bool.false_eq_true, if_false]
  have e : max (max (max (max (max (max (max (max (p) (p)) (p)) (p)) (p)) (p)) (p)) (p)) (p) = p := by omega
  show (false, 8, z_x0 (max (max (max (max (max (max (max (max (p) (p)) (p)) (p)) (p)) (p)) (p)) (p)) (p))) = (false, 8, z_x0 (p))
  rw [e]
