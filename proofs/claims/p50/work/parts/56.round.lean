/-! THE LAW'S WALK, out of what the memory keeps (I k: after k of the twelve rounds). -/
def q_s9 (σ : q_M) : q_M := q_put σ 229 (fun _ => 0)
def q_sn (σ : q_M) : Nat → Int32 := F_L_seen 229 (q_s9 σ) 229
def q_sOK (σ : q_M) : Prop := P_L_seen 229 (q_s9 σ) ∧ ∀ j, j < 229 → F_L_seen 229 (q_s9 σ) j = σ j
/-- one act: its value r, its memory τ -/
def q_aOK (I : Nat → q_M → Prop) (ζ : Nat → Nat) (k : Nat) (σ : q_M) : Prop := P_L_acts ζ (36 + 4 * nI k) σ ∧ ∃ (r : Int32) (τ : q_M), F_L_acts ζ (36 + 4 * nI k) σ = (r, τ) ∧ I (k + 1) τ ∧ ¬ r = -900009 ∧ (r ≤ -900000 → ∀ j, j < 130 → q_sn σ j = q_sn τ j) ∧ (¬ r ≤ -900000 → P_L_in ζ (85 + nI k) 5 τ ∧ (F_L_in ζ (85 + nI k) 5 τ = 0 → Q_undo τ ∧ ∃ (u : Int32) (τ' : q_M), W_undo τ = (u, τ') ∧ ¬ u < 0 ∧ I (k + 1) τ' ∧ ∀ j, j < 130 → q_sn σ j = q_sn τ' j))
/-- the law's end -/
def q_tOK (σ : q_M) : Prop := ∃ (b1 x1 x2 b2 x4 x5 y1 y2 y3 y4 y5 y6 b4 : Int32) (σ1 σ2 σ3 σ4 σ5 σ6 σ7 σ8 σ9 σ10 : q_M), P_X8_save σ ∧ F_X8_save σ = (b1, σ1) ∧ Q_reach 0 1 70 σ1 ∧ W_reach 0 1 70 σ1 = x1 ∧ Q_secondsToZone 0 σ1 ∧ W_secondsToZone 0 σ1 = x2 ∧ P_N8_writeBanner 0 σ1 ∧ F_N8_writeBanner 0 σ1 = (b2, σ2) ∧ Q_teamAtRank 0 σ2 ∧ W_teamAtRank 0 σ2 = x4 ∧ Q_splitOf 0 0 σ2 ∧ W_splitOf 0 0 σ2 = x5 ∧ q_sOK σ2 ∧ (∀ j, j < 130 → q_sn σ j = q_sn σ2 j) ∧ Q_run 30 σ2 ∧ W_run 30 σ2 = (y1, σ3) ∧ Q_pass 0 σ3 ∧ W_pass 0 σ3 = (y2, σ4) ∧ Q_drop 1 5 σ4 ∧ W_drop 1 5 σ4 = (y3, σ5) ∧ Q_protest 0 1 0 σ5 ∧ W_protest 0 1 0 σ5 = (y4, σ6) ∧ Q_withdraw 1 σ6 ∧ W_withdraw 1 σ6 = (y5, σ7) ∧ Q_start σ7 ∧ W_start σ7 = (y6, σ8) ∧ ¬ ((((x1 + x2) + b2) + x4) + x5) + (((((y1 + y2) + y3) + y4) + y5) + y6) ≤ -90000000 ∧ Q_restore σ8 ∧ W_restore σ8 = (b4, σ9) ∧ b4 = b1 ∧ q_sOK σ9 ∧ (∀ j, j < 130 → q_sn σ j = q_sn σ9 j) ∧ Q_undo σ9 ∧ W_undo σ9 = (-900001, σ10)
def q_OK (I : Nat → q_M → Prop) : Prop := (∀ ζ : Nat → Nat, ζ 336 ≤ 260 → P_L_begun ζ q_s0 ∧ ¬ (F_L_begun ζ q_s0).1 < -90000000 ∧ I 0 (F_L_begun ζ q_s0).2) ∧ (∀ k σ, I k σ → P_L_isWell σ ∧ F_L_isWell σ = 1 ∧ q_sOK σ) ∧ (∀ (ζ : Nat → Nat) k σ, ζ 336 ≤ 260 → k < 12 → I k σ → q_aOK I ζ k σ) ∧ ∀ σ, I 12 σ → q_tOK σ
theorem dW_20 : decode code 20 = .ok (.iload_n 2, 1) := by decide +kernel
theorem dW_21 : decode code 21 = .ok (.bipush 12, 2) := by decide +kernel
theorem dW_23 : decode code 23 = .ok (.if_icmp .ge 102, 3) := by decide +kernel
theorem dW_26 : decode code 26 = .ok (.aload_n 1, 1) := by decide +kernel
theorem dW_27 : decode code 27 = .ok (.invokestatic 259, 3) := by decide +kernel
theorem dW_30 : decode code 30 = .ok (.astore_n 3, 1) := by decide +kernel
theorem dW_31 : decode code 31 = .ok (.aload_n 1, 1) := by decide +kernel
theorem dW_32 : decode code 32 = .ok (.aload_n 0, 1) := by decide +kernel
theorem dW_33 : decode code 33 = .ok (.bipush 36, 2) := by decide +kernel
theorem dW_35 : decode code 35 = .ok (.iconst 4, 1) := by decide +kernel
theorem dW_36 : decode code 36 = .ok (.iload_n 2, 1) := by decide +kernel
theorem dW_37 : decode code 37 = .ok (.imul, 1) := by decide +kernel
theorem dW_38 : decode code 38 = .ok (.iadd, 1) := by decide +kernel
theorem dW_39 : decode code 39 = .ok (.invokestatic 263, 3) := by decide +kernel
theorem dW_42 : decode code 42 = .ok (.istore 4, 2) := by decide +kernel
theorem dW_44 : decode code 44 = .ok (.aload_n 1, 1) := by decide +kernel
theorem dW_45 : decode code 45 = .ok (.invokestatic 255, 3) := by decide +kernel
theorem dW_48 : decode code 48 = .ok (.ifCond .eq 29, 3) := by decide +kernel
theorem dW_51 : decode code 51 = .ok (.iload 4, 2) := by decide +kernel
theorem dW_53 : decode code 53 = .ok (.ldc 109, 2) := by decide +kernel
theorem dW_55 : decode code 55 = .ok (.if_icmp .eq 22, 3) := by decide +kernel
theorem dW_58 : decode code 58 = .ok (.iload 4, 2) := by decide +kernel
theorem dW_60 : decode code 60 = .ok (.ldc_w 267, 3) := by decide +kernel
theorem dW_63 : decode code 63 = .ok (.if_icmp .gt 16, 3) := by decide +kernel
theorem dW_66 : decode code 66 = .ok (.aload_n 3, 1) := by decide +kernel
theorem dW_67 : decode code 67 = .ok (.aload_n 1, 1) := by decide +kernel
theorem dW_68 : decode code 68 = .ok (.invokestatic 259, 3) := by decide +kernel
theorem dW_71 : decode code 71 = .ok (.invokestatic 268, 3) := by decide +kernel
theorem dW_74 : decode code 74 = .ok (.ifCond .ne 5, 3) := by decide +kernel
theorem dW_79 : decode code 79 = .ok (.iload 4, 2) := by decide +kernel
theorem dW_81 : decode code 81 = .ok (.ldc_w 267, 3) := by decide +kernel
theorem dW_84 : decode code 84 = .ok (.if_icmp .le 35, 3) := by decide +kernel
theorem dW_87 : decode code 87 = .ok (.aload_n 0, 1) := by decide +kernel
theorem dW_88 : decode code 88 = .ok (.bipush 85, 2) := by decide +kernel
theorem dW_90 : decode code 90 = .ok (.iload_n 2, 1) := by decide +kernel
theorem dW_91 : decode code 91 = .ok (.iadd, 1) := by decide +kernel
theorem dW_92 : decode code 92 = .ok (.iconst 5, 1) := by decide +kernel
theorem dW_93 : decode code 93 = .ok (.invokestatic 114, 3) := by decide +kernel
theorem dW_96 : decode code 96 = .ok (.ifCond .ne 23, 3) := by decide +kernel
theorem dW_99 : decode code 99 = .ok (.aload_n 1, 1) := by decide +kernel
theorem dW_100 : decode code 100 = .ok (.invokestatic 272, 3) := by decide +kernel
theorem dW_103 : decode code 103 = .ok (.ifCond .lt 14, 3) := by decide +kernel
theorem dW_106 : decode code 106 = .ok (.aload_n 3, 1) := by decide +kernel
theorem dW_107 : decode code 107 = .ok (.aload_n 1, 1) := by decide +kernel
theorem dW_108 : decode code 108 = .ok (.invokestatic 259, 3) := by decide +kernel
theorem dW_111 : decode code 111 = .ok (.invokestatic 268, 3) := by decide +kernel
theorem dW_114 : decode code 114 = .ok (.ifCond .ne 5, 3) := by decide +kernel
theorem dW_119 : decode code 119 = .ok (.iinc 2 1, 3) := by decide +kernel
theorem dW_122 : decode code 122 = .ok (.goto (-102), 3) := by decide +kernel
theorem dW_125 : decode code 125 = .ok (.aload_n 1, 1) := by decide +kernel
theorem dW_126 : decode code 126 = .ok (.invokestatic 259, 3) := by decide +kernel
theorem dW_129 : decode code 129 = .ok (.astore_n 2, 1) := by decide +kernel
theorem dW_130 : decode code 130 = .ok (.aload_n 1, 1) := by decide +kernel
theorem dW_131 : decode code 131 = .ok (.invokevirtual 274, 3) := by decide +kernel
theorem dW_134 : decode code 134 = .ok (.istore_n 3, 1) := by decide +kernel
theorem dW_135 : decode code 135 = .ok (.aload_n 1, 1) := by decide +kernel
theorem dW_136 : decode code 136 = .ok (.iconst 0, 1) := by decide +kernel
theorem dW_137 : decode code 137 = .ok (.iconst 1, 1) := by decide +kernel
theorem dW_138 : decode code 138 = .ok (.bipush 70, 2) := by decide +kernel
theorem dW_140 : decode code 140 = .ok (.invokestatic 277, 3) := by decide +kernel
theorem dW_143 : decode code 143 = .ok (.aload_n 1, 1) := by decide +kernel
theorem dW_144 : decode code 144 = .ok (.iconst 0, 1) := by decide +kernel
theorem dW_145 : decode code 145 = .ok (.invokestatic 140, 3) := by decide +kernel
theorem dW_148 : decode code 148 = .ok (.iadd, 1) := by decide +kernel
theorem dW_149 : decode code 149 = .ok (.aload_n 1, 1) := by decide +kernel
theorem dW_150 : decode code 150 = .ok (.iconst 0, 1) := by decide +kernel
theorem dW_151 : decode code 151 = .ok (.invokevirtual 279, 3) := by decide +kernel
theorem dW_154 : decode code 154 = .ok (.iadd, 1) := by decide +kernel
theorem dW_155 : decode code 155 = .ok (.aload_n 1, 1) := by decide +kernel
theorem dW_156 : decode code 156 = .ok (.iconst 0, 1) := by decide +kernel
theorem dW_157 : decode code 157 = .ok (.invokestatic 237, 3) := by decide +kernel
theorem dW_160 : decode code 160 = .ok (.iadd, 1) := by decide +kernel
theorem dW_161 : decode code 161 = .ok (.aload_n 1, 1) := by decide +kernel
theorem dW_162 : decode code 162 = .ok (.iconst 0, 1) := by decide +kernel
theorem dW_163 : decode code 163 = .ok (.iconst 0, 1) := by decide +kernel
theorem dW_164 : decode code 164 = .ok (.invokestatic 214, 3) := by decide +kernel
theorem dW_167 : decode code 167 = .ok (.iadd, 1) := by decide +kernel
theorem dW_168 : decode code 168 = .ok (.istore 4, 2) := by decide +kernel
theorem dW_170 : decode code 170 = .ok (.aload_n 2, 1) := by decide +kernel
theorem dW_171 : decode code 171 = .ok (.aload_n 1, 1) := by decide +kernel
theorem dW_172 : decode code 172 = .ok (.invokestatic 259, 3) := by decide +kernel
theorem dW_175 : decode code 175 = .ok (.invokestatic 268, 3) := by decide +kernel
theorem dW_178 : decode code 178 = .ok (.ifCond .ne 5, 3) := by decide +kernel
theorem dW_183 : decode code 183 = .ok (.iload 4, 2) := by decide +kernel
theorem dW_185 : decode code 185 = .ok (.aload_n 1, 1) := by decide +kernel
theorem dW_186 : decode code 186 = .ok (.bipush 30, 2) := by decide +kernel
theorem dW_188 : decode code 188 = .ok (.invokestatic 130, 3) := by decide +kernel
theorem dW_191 : decode code 191 = .ok (.aload_n 1, 1) := by decide +kernel
theorem dW_192 : decode code 192 = .ok (.iconst 0, 1) := by decide +kernel
theorem dW_193 : decode code 193 = .ok (.invokestatic 145, 3) := by decide +kernel
theorem dW_196 : decode code 196 = .ok (.iadd, 1) := by decide +kernel
theorem dW_197 : decode code 197 = .ok (.aload_n 1, 1) := by decide +kernel
theorem dW_198 : decode code 198 = .ok (.iconst 1, 1) := by decide +kernel
theorem dW_199 : decode code 199 = .ok (.iconst 5, 1) := by decide +kernel
theorem dW_200 : decode code 200 = .ok (.invokestatic 147, 3) := by decide +kernel
theorem dW_203 : decode code 203 = .ok (.iadd, 1) := by decide +kernel
theorem dW_204 : decode code 204 = .ok (.aload_n 1, 1) := by decide +kernel
theorem dW_205 : decode code 205 = .ok (.iconst 0, 1) := by decide +kernel
theorem dW_206 : decode code 206 = .ok (.iconst 1, 1) := by decide +kernel
theorem dW_207 : decode code 207 = .ok (.iconst 0, 1) := by decide +kernel
theorem dW_208 : decode code 208 = .ok (.invokestatic 152, 3) := by decide +kernel
theorem dW_211 : decode code 211 = .ok (.iadd, 1) := by decide +kernel
theorem dW_212 : decode code 212 = .ok (.aload_n 1, 1) := by decide +kernel
theorem dW_213 : decode code 213 = .ok (.iconst 1, 1) := by decide +kernel
theorem dW_214 : decode code 214 = .ok (.invokestatic 150, 3) := by decide +kernel
theorem dW_217 : decode code 217 = .ok (.iadd, 1) := by decide +kernel
theorem dW_218 : decode code 218 = .ok (.aload_n 1, 1) := by decide +kernel
theorem dW_219 : decode code 219 = .ok (.invokestatic 128, 3) := by decide +kernel
theorem dW_222 : decode code 222 = .ok (.iadd, 1) := by decide +kernel
theorem dW_223 : decode code 223 = .ok (.iadd, 1) := by decide +kernel
theorem dW_224 : decode code 224 = .ok (.istore 4, 2) := by decide +kernel
theorem dW_226 : decode code 226 = .ok (.iload 4, 2) := by decide +kernel
theorem dW_228 : decode code 228 = .ok (.ldc 132, 2) := by decide +kernel
theorem dW_230 : decode code 230 = .ok (.if_icmp .le 35, 3) := by decide +kernel
theorem dW_233 : decode code 233 = .ok (.aload_n 1, 1) := by decide +kernel
theorem dW_234 : decode code 234 = .ok (.invokestatic 282, 3) := by decide +kernel
theorem dW_237 : decode code 237 = .ok (.iload_n 3, 1) := by decide +kernel
theorem dW_238 : decode code 238 = .ok (.if_icmp .ne 27, 3) := by decide +kernel
theorem dW_241 : decode code 241 = .ok (.aload_n 2, 1) := by decide +kernel
theorem dW_242 : decode code 242 = .ok (.aload_n 1, 1) := by decide +kernel
theorem dW_243 : decode code 243 = .ok (.invokestatic 259, 3) := by decide +kernel
theorem dW_246 : decode code 246 = .ok (.invokestatic 268, 3) := by decide +kernel
theorem dW_249 : decode code 249 = .ok (.ifCond .eq 16, 3) := by decide +kernel
theorem dW_252 : decode code 252 = .ok (.aload_n 1, 1) := by decide +kernel
theorem dW_253 : decode code 253 = .ok (.invokestatic 272, 3) := by decide +kernel
theorem dW_256 : decode code 256 = .ok (.ldc 17, 2) := by decide +kernel
theorem dW_258 : decode code 258 = .ok (.if_icmp .ne 7, 3) := by decide +kernel
theorem dW_261 : decode code 261 = .ok (.iconst 1, 1) := by decide +kernel
theorem dW_262 : decode code 262 = .ok (.goto 4, 3) := by decide +kernel
/-- a round's end -/
theorem lw_119 {α β : Nat → Nat} {D : va_G} {κ : Nat → ClassId} {p : Program} {l : Launch} {e : Env} {s : State} {m : MethodId} {args : Array Value} {below : List Frame} {meth : Method} {c : Code} {A : Nat → Prop} {Q : State → Prop} (C : q_Cx α β D κ p s m args meth c code RL (fun _ => none) (fun _ => none) 5 A) {k a n1 n2 k1 k2 : Nat} {r : Int32} {x : Nat × va_E} {σ : q_M} (h1 : n1 ≤ k1) (h2 : n2 ≤ k2) (kk : r_St α β D κ p l e room_1 s m args below meth c 5 A Q k1 k2 [] σ [(0, .ref (α 335)), (1, .ref (α 220)), (2, .int (nI (k + 1)))] 20 []) : r_St α β D κ p l e room_1 s m args below meth c 5 A Q n1 n2 ([] ++ [x]) σ [(4, .int r), (3, .ref a), (0, .ref (α 335)), (1, .ref (α 220)), (2, .int (nI k))] 119 [] := by
  obtain ⟨hx, hb, hml, hown, hts, hK, hE, hA, hlk, hF, hG⟩ := C
  intro Y H locs ls hY hP hD hS hl
  refine lv_iinc hx hb dW_119 hl (k := 4) rfl (by rw [show Int32.ofInt 1 = (1 : Int32) by decide]; exact nI_1 k) (Nat.le_of_ble_eq_true rfl) (lv' := [(2, .int (nI (k + 1))), (4, .int r), (3, .ref a), (0, .ref (α 335)), (1, .ref (α 220))]) rfl (fun ls hl => ?_)
  refine lv_goto hx hb dW_122 (tgt := 20) (by decide) ?_
  refine W.widen (k := k1) (n := k2) h1 h2 ?_
  exact kk Y H locs ls hY ((t_Pl (t_Pl hP)).app (t_Pr hP)) (t_Dl (t_swapD hD)) hS (lv_sub hl [3, 4, 0] rfl)
set_option maxRecDepth 100000 in
set_option maxHeartbeats 4000000 in
theorem lw_round {α β : Nat → Nat} {D : va_G} {κ : Nat → ClassId} {p : Program} {l : Launch} {e : Env} {s : State} {m : MethodId} {args : Array Value} {below : List Frame} {meth : Method} {c : Code} {A : Nat → Prop} {Q : State → Prop} {I : Nat → q_M → Prop} (hI : q_OK I) (hfl : l.flags = flags0) (C : q_Cx α β D κ p s m args meth c code RL (fun _ => none) (fun _ => none) 5 A) (h329 : α 329 = 0) (h336 : α 336 ≤ 260) {k n1 n2 : Nat} (hk : k < 12) {σ : q_M} (hσ : I k σ) (hn1 : n1 ≤ 500000) (hn2 : n2 ≤ 7000000) (kk : ∀ σ', I (k + 1) σ' → r_St α β D κ p l e room_1 s m args below meth c 5 A Q (n1 + 1856) (n2 + 32128) [] σ' [(0, .ref (α 335)), (1, .ref (α 220)), (2, .int (nI (k + 1)))] 20 []) : r_St α β D κ p l e room_1 s m args below meth c 5 A Q n1 n2 [] σ [(0, .ref (α 335)), (1, .ref (α 220)), (2, .int (nI k))] 20 [] := by
  have C0 := C
  obtain ⟨hx, hb, hml, hown, hts, hK, hE, hA, hlk, hF, hG⟩ := C
  have hN : q_N α = 229 := by show 229 + α 329 = 229; rw [h329]
  have h9 : α 329 < 90 := by rw [h329]; decide
  have hw := hI.2.1
  have hs : q_sOK σ := (hw k σ hσ).2.2
  obtain ⟨hPa, r, τ, hFa, hIτ, hr9, hr1, hr2⟩ := hI.2.2.1 α k σ h336 hk hσ
  intro Y H locs ls hY hP hD hS hl
  refine lv_iload_n hx hb dW_20 rfl (lv_at hl 2 rfl) ?_
  refine lv_bipush hx hb dW_21 (by decide : (Int8.ofInt 12).toInt32 = 12) ?_
  have hk12 : ¬ (12 : Int32) ≤ nI k := by rw [show (12 : Int32) = nI 12 by decide +kernel]; exact nI_ge hk (by decide)
  refine lv_icmp_ge hx hb dW_23 (tgt := 125) (by decide) (fun q => absurd q hk12) (fun _ => ?_)
  refine lv_aload_n hx hb dW_26 rfl (lv_at hl 1 rfl) ?_
  refine r_seen (w := []) (rest := []) (τ := F_L_seen 229 (q_s9 σ)) C0 hfl h9 (by unfold q_s1; rw [hN]; exact hs.1) (by unfold q_s1; rw [hN]; rfl) dW_27 (Nat.le_of_ble_eq_true rfl) ⟨(Nat.le_of_ble_eq_true rfl), (Nat.le_of_ble_eq_true rfl)⟩ ⟨by show n1 + 260 ≤ 600390; omega, by show n2 + 1684 ≤ 7291200; omega⟩ hY hP hD hS hl (fun a => ?_)
  rw [hN]
  refine r_mem (σ1 := σ) (fun j hj => hs.2 j (by rw [hN] at hj; exact hj)) ?_
  refine r_wdn (k1 := n1 + 260) (k2 := n2 + 1684) (by omega) (by omega) ?_
  intro Y H locs ls hY hP hD hS hl
  refine W.eq (g2 := F0 m 30 ls [.ref a]) rfl ?_
  refine lv_astore_n hx hb dW_30 rfl hl (Nat.le_of_ble_eq_true rfl) (lv' := [(3, .ref a), (0, .ref (α 335)), (1, .ref (α 220)), (2, .int (nI k))]) rfl (fun ls hl => ?_)
  refine lv_aload_n hx hb dW_31 rfl (lv_at hl 2 rfl) ?_
  refine lv_aload_n hx hb dW_32 rfl (lv_at hl 1 rfl) ?_
  refine lv_bipush hx hb dW_33 (by decide : (Int8.ofInt 36).toInt32 = 36) ?_
  refine lv_iconst hx hb dW_35 (by decide : Int32.ofInt 4 = 4) ?_
  refine lv_iload_n hx hb dW_36 rfl (lv_at hl 3 rfl) ?_
  refine lv_imul hx hb dW_37 ?_
  refine lv_iadd hx hb dW_38 ?_
  have hka := k_L_acts (α := α) (β := β) (D := D) (κ := κ) (36 + 4 * nI k) σ hPa
  rw [hFa] at hka
  refine r_callS (w := ([] ++ [(a, q_rw κ (q_sn σ))])) (rest := []) (v := some (.int r)) (σ1 := τ) C0 hfl mw_L_acts ms_L_acts lk_L_263 hka rfl rfl dW_39 (Nat.le_of_ble_eq_true rfl) ⟨(Nat.le_of_ble_eq_true rfl), (Nat.le_of_ble_eq_true rfl)⟩ ⟨by show n1 + 260 + 130 ≤ 600390; omega, by show n2 + 1684 + 21400 ≤ 7291200; omega⟩ hY hP hD hS hl ?_
  intro Y H locs ls hY hP hD hS hl
  refine W.eq (g2 := F0 m 42 ls [.int r]) rfl ?_
  refine lv_istore hx hb dW_42 hl (Nat.le_of_ble_eq_true rfl) (lv' := [(4, .int r), (3, .ref a), (0, .ref (α 335)), (1, .ref (α 220)), (2, .int (nI k))]) rfl (fun ls hl => ?_)
  refine lv_aload_n hx hb dW_44 rfl (lv_at hl 3 rfl) ?_
  have hkw := k_L_isWell (α := α) (β := β) (D := D) (κ := κ) τ (hw _ τ hIτ).1
  rw [(hw _ τ hIτ).2.1] at hkw
  refine r_callS (w := ([] ++ [(a, q_rw κ (q_sn σ))])) (rest := []) (v := some (.int 1)) (σ1 := τ) C0 hfl mw_L_isWell ms_L_isWell lk_L_255 hkw rfl rfl dW_45 (Nat.le_of_ble_eq_true rfl) ⟨(Nat.le_of_ble_eq_true rfl), (Nat.le_of_ble_eq_true rfl)⟩ ⟨by show n1 + 260 + 130 + 945 ≤ 600390; omega, by show n2 + 1684 + 21400 + 5670 ≤ 7291200; omega⟩ hY hP hD hS hl ?_
  intro Y H locs ls hY hP hD hS hl
  refine W.eq (g2 := F0 m 48 ls [.int 1]) rfl ?_
  refine lv_if_eq hx hb dW_48 (tgt := 77) (by decide) (fun q => absurd q (by decide)) (fun _ => ?_)
  refine lv_iload hx hb dW_51 (lv_at hl 0 rfl) ?_
  refine lv_ldc hx hb hown (hts _ ck_L_109) dW_53 ?_
  refine lv_icmp_eq hx hb dW_55 (tgt := 77) (by decide) (fun q => absurd q hr9) (fun _ => ?_)
  refine lv_iload hx hb dW_58 (lv_at hl 0 rfl) ?_
  refine lv_ldcw hx hb hown (hts _ ck_L_267) dW_60 ?_
  by_cases hr : r ≤ -900000
  · refine lv_icmp_gt hx hb dW_63 (tgt := 79) (by decide) (fun q => absurd q (Int32.not_lt.mpr hr)) (fun _ => ?_)
    refine lv_aload_n hx hb dW_66 rfl (lv_at hl 1 rfl) ?_
    refine lv_aload_n hx hb dW_67 rfl (lv_at hl 3 rfl) ?_
    refine r_seen (w := ([] ++ [(a, q_rw κ (q_sn σ))])) (rest := [.ref a]) (τ := F_L_seen 229 (q_s9 τ)) C0 hfl h9 (by unfold q_s1; rw [hN]; exact (hw _ τ hIτ).2.2.1) (by unfold q_s1; rw [hN]; rfl) dW_68 (Nat.le_of_ble_eq_true rfl) ⟨(Nat.le_of_ble_eq_true rfl), (Nat.le_of_ble_eq_true rfl)⟩ ⟨by show n1 + 260 + 130 + 945 + 260 ≤ 600390; omega, by show n2 + 1684 + 21400 + 5670 + 1684 ≤ 7291200; omega⟩ hY hP hD hS hl (fun b => ?_)
    rw [hN]
    refine r_mem (σ1 := τ) (fun j hj => (hw _ τ hIτ).2.2.2 j (by rw [hN] at hj; exact hj)) ?_
    refine r_wdn (k1 := n1 + 260 + 130 + 945 + 260) (k2 := n2 + 1684 + 21400 + 5670 + 1684) (by omega) (by omega) ?_
    intro Y H locs ls hY hP hD hS hl
    refine W.eq (g2 := F0 m 71 ls [.ref b, .ref a]) rfl ?_
    refine r_alike (w := []) (a := a) (b := b) (rest := []) C0 hfl (by rw [h329]; decide) (hr1 hr) dW_71 (Nat.le_of_ble_eq_true rfl) ⟨(Nat.le_of_ble_eq_true rfl), (Nat.le_of_ble_eq_true rfl)⟩ ⟨by show n1 + 260 + 130 + 945 + 260 ≤ 600390; omega, by show n2 + 1684 + 21400 + 5670 + 1684 ≤ 7291200; omega⟩ rfl hY hP hD hS hl ?_
    intro Y H locs ls hY hP hD hS hl
    refine W.eq (g2 := F0 m 74 ls [.int 1]) rfl ?_
    refine lv_if_ne hx hb dW_74 (tgt := 79) (by decide) (fun _ => ?_) (fun q => absurd q (by decide))
    refine lv_iload hx hb dW_79 (lv_at hl 0 rfl) ?_
    refine lv_ldcw hx hb hown (hts _ ck_L_267) dW_81 ?_
    refine lv_icmp_le hx hb dW_84 (tgt := 119) (by decide) (fun _ => ?_) (fun q => absurd hr q)
    exact lw_119 C0 (k1 := n1 + 1856) (k2 := n2 + 32128) (by omega) (by omega) (kk τ hIτ) Y H locs ls hY hP hD hS hl
  · refine lv_icmp_gt hx hb dW_63 (tgt := 79) (by decide) (fun _ => ?_) (fun q => absurd (Int32.not_le.mp hr) q)
    obtain ⟨hPi, hu⟩ := hr2 hr
    refine lv_iload hx hb dW_79 (lv_at hl 0 rfl) ?_
    refine lv_ldcw hx hb hown (hts _ ck_L_267) dW_81 ?_
    refine lv_icmp_le hx hb dW_84 (tgt := 119) (by decide) (fun q => absurd q hr) (fun _ => ?_)
    refine lv_aload_n hx hb dW_87 rfl (lv_at hl 2 rfl) ?_
    refine lv_bipush hx hb dW_88 (by decide : (Int8.ofInt 85).toInt32 = 85) ?_
    refine lv_iload_n hx hb dW_90 rfl (lv_at hl 4 rfl) ?_
    refine lv_iadd hx hb dW_91 ?_
    refine lv_iconst hx hb dW_92 (by decide : Int32.ofInt 5 = 5) ?_
    refine r_callS (w := ([] ++ [(a, q_rw κ (q_sn σ))])) (rest := []) (v := some (.int (F_L_in α (85 + nI k) 5 τ))) (σ1 := τ) C0 hfl mw_L_in ms_L_in lk_L_114 (k_L_in (85 + nI k) 5 τ hPi) rfl rfl dW_93 (Nat.le_of_ble_eq_true rfl) ⟨(Nat.le_of_ble_eq_true rfl), (Nat.le_of_ble_eq_true rfl)⟩ ⟨by show n1 + 260 + 130 + 945 + 0 ≤ 600390; omega, by show n2 + 1684 + 21400 + 5670 + 0 ≤ 7291200; omega⟩ hY hP hD hS hl ?_
    intro Y H locs ls hY hP hD hS hl
    refine W.eq (g2 := F0 m 96 ls [.int (F_L_in α (85 + nI k) 5 τ)]) rfl ?_
    by_cases h0 : F_L_in α (85 + nI k) 5 τ = 0
    · obtain ⟨hQu, u, τ2, hFu, hu0, hI2, hsn2⟩ := hu h0
      refine lv_if_ne hx hb dW_96 (tgt := 119) (by decide) (fun q => absurd h0 q) (fun _ => ?_)
      refine lv_aload_n hx hb dW_99 rfl (lv_at hl 3 rfl) ?_
      have hku := kw_undo (α := α) (β := β) (D := D) (κ := κ) τ hQu
      rw [hFu] at hku
      refine r_callW (w := ([] ++ [(a, q_rw κ (q_sn σ))])) (rest := []) (n := 1) C0 hfl cw_undo ⟨by decide +kernel, by decide +kernel, by decide +kernel⟩ q_init_QuillRelayLaw sw_undo lk_L_272 (v := some (.int u)) (σ1 := τ2) hku rfl rfl dW_100 (Nat.le_of_ble_eq_true rfl) ⟨(Nat.le_of_ble_eq_true rfl), (Nat.le_of_ble_eq_true rfl)⟩ ⟨by show n1 + 260 + 130 + 945 + 0 + 1 ≤ 600390; omega, by show n2 + 1684 + 21400 + 5670 + 0 + 6 ≤ 7291200; omega⟩ hY hP hD hS hl ?_
      intro Y H locs ls hY hP hD hS hl
      refine W.eq (g2 := F0 m 103 ls [.int u]) rfl ?_
      refine lv_if_lt hx hb dW_103 (tgt := 117) (by decide) (fun q => absurd q hu0) (fun _ => ?_)
      refine lv_aload_n hx hb dW_106 rfl (lv_at hl 1 rfl) ?_
      refine lv_aload_n hx hb dW_107 rfl (lv_at hl 3 rfl) ?_
      refine r_seen (w := ([] ++ [(a, q_rw κ (q_sn σ))])) (rest := [.ref a]) (τ := F_L_seen 229 (q_s9 τ2)) C0 hfl h9 (by unfold q_s1; rw [hN]; exact (hw _ τ2 hI2).2.2.1) (by unfold q_s1; rw [hN]; rfl) dW_108 (Nat.le_of_ble_eq_true rfl) ⟨(Nat.le_of_ble_eq_true rfl), (Nat.le_of_ble_eq_true rfl)⟩ ⟨by show n1 + 260 + 130 + 945 + 0 + 1 + 260 ≤ 600390; omega, by show n2 + 1684 + 21400 + 5670 + 0 + 6 + 1684 ≤ 7291200; omega⟩ hY hP hD hS hl (fun b => ?_)
      rw [hN]
      refine r_mem (σ1 := τ2) (fun j hj => (hw _ τ2 hI2).2.2.2 j (by rw [hN] at hj; exact hj)) ?_
      refine r_wdn (k1 := n1 + 260 + 130 + 945 + 0 + 1 + 260) (k2 := n2 + 1684 + 21400 + 5670 + 0 + 6 + 1684) (by omega) (by omega) ?_
      intro Y H locs ls hY hP hD hS hl
      refine W.eq (g2 := F0 m 111 ls [.ref b, .ref a]) rfl ?_
      refine r_alike (w := []) (a := a) (b := b) (rest := []) C0 hfl (by rw [h329]; decide) hsn2 dW_111 (Nat.le_of_ble_eq_true rfl) ⟨(Nat.le_of_ble_eq_true rfl), (Nat.le_of_ble_eq_true rfl)⟩ ⟨by show n1 + 260 + 130 + 945 + 0 + 1 + 260 ≤ 600390; omega, by show n2 + 1684 + 21400 + 5670 + 0 + 6 + 1684 ≤ 7291200; omega⟩ rfl hY hP hD hS hl ?_
      intro Y H locs ls hY hP hD hS hl
      refine W.eq (g2 := F0 m 114 ls [.int 1]) rfl ?_
      refine lv_if_ne hx hb dW_114 (tgt := 119) (by decide) (fun _ => ?_) (fun q => absurd q (by decide))
      exact lw_119 C0 (k1 := n1 + 1856) (k2 := n2 + 32128) (by omega) (by omega) (kk τ2 hI2) Y H locs ls hY hP hD hS hl
    · refine lv_if_ne hx hb dW_96 (tgt := 119) (by decide) (fun _ => ?_) (fun q => absurd q h0)
      exact lw_119 C0 (k1 := n1 + 1856) (k2 := n2 + 32128) (by omega) (by omega) (kk τ hIτ) Y H locs ls hY hP hD hS hl
set_option maxRecDepth 100000 in
set_option maxHeartbeats 4000000 in
theorem lw_tail {α β : Nat → Nat} {D : va_G} {κ : Nat → ClassId} {p : Program} {l : Launch} {e : Env} {s : State} {m : MethodId} {args : Array Value} {below : List Frame} {meth : Method} {c : Code} {A : Nat → Prop} {Q : State → Prop} (hfl : l.flags = flags0) (C : q_Cx α β D κ p s m args meth c code RL (fun _ => none) (fun _ => none) 5 A) (h329 : α 329 = 0) {n1 n2 : Nat} {σ : q_M} (hs : q_sOK σ) (hT : q_tOK σ) (hn1 : n1 ≤ 500000) (hn2 : n2 ≤ 7000000) (kk : ∀ (H : Heap) (locs : List Loc) (ls : Array Slot) (k1 k2 : Nat), k1 ≤ n1 + 3000 → k2 ≤ n2 + 20000 → va_S A s.heap H locs → W p l e room_1 s m args below meth c H locs k1 k2 Q (F0 m 266 ls [.int 1])) : r_St α β D κ p l e room_1 s m args below meth c 5 A Q n1 n2 [] σ [(0, .ref (α 335)), (1, .ref (α 220)), (2, .int (nI 12))] 20 [] := by
  have C0 := C
  obtain ⟨hx, hb, hml, hown, hts, hK, hE, hA, hlk, hF, hG⟩ := C
  have hN : q_N α = 229 := by show 229 + α 329 = 229; rw [h329]
  have h9 : α 329 < 90 := by rw [h329]; decide
  obtain ⟨b1, x1, x2, b2, x4, x5, y1, y2, y3, y4, y5, y6, b4, σ1, σ2, σ3, σ4, σ5, σ6, σ7, σ8, σ9, σ10, hPv, eSv, hQ1, e1, hQ2, e2, hQ3, e3, hQ4, e4, hQ5, e5, hs2, hn2s, hQ6, e6, hQ7, e7, hQ8, e8, hQ9, e9, hQ10, e10, hQ11, e11, hneg, hQ12, e12, hb4, hs9, hn9s, hQ13, e13⟩ := hT
  intro Y H locs ls hY hP hD hS hl
  refine lv_iload_n hx hb dW_20 rfl (lv_at hl 2 rfl) ?_
  refine lv_bipush hx hb dW_21 (by decide : (Int8.ofInt 12).toInt32 = 12) ?_
  refine lv_icmp_ge hx hb dW_23 (tgt := 125) (by decide) (fun _ => ?_) (fun q => absurd (show (12 : Int32) ≤ nI 12 by decide +kernel) q)
  refine lv_aload_n hx hb dW_125 rfl (lv_at hl 1 rfl) ?_
  refine r_seen (w := []) (rest := []) (τ := F_L_seen 229 (q_s9 σ)) C0 hfl h9 (by unfold q_s1; rw [hN]; exact hs.1) (by unfold q_s1; rw [hN]; rfl) dW_126 (Nat.le_of_ble_eq_true rfl) ⟨(Nat.le_of_ble_eq_true rfl), (Nat.le_of_ble_eq_true rfl)⟩ ⟨by show n1 + 260 ≤ 600390; omega, by show n2 + 1684 ≤ 7291200; omega⟩ hY hP hD hS hl (fun a => ?_)
  rw [hN]
  refine r_mem (σ1 := σ) (fun j hj => hs.2 j (by rw [hN] at hj; exact hj)) ?_
  refine r_wdn (k1 := n1 + 260) (k2 := n2 + 1684) (by omega) (by omega) ?_
  intro Y H locs ls hY hP hD hS hl
  refine W.eq (g2 := F0 m 129 ls [.ref a]) rfl ?_
  refine lv_astore_n hx hb dW_129 rfl hl (Nat.le_of_ble_eq_true rfl) (lv' := [(2, .ref a), (0, .ref (α 335)), (1, .ref (α 220))]) rfl (fun ls hl => ?_)
  refine lv_aload_n hx hb dW_130 rfl (lv_at hl 2 rfl) ?_
  have hks := k_X8_save (α := α) (β := β) (D := D) (κ := κ) σ hPv
  rw [eSv] at hks
  refine r_callV (w := ([] ++ [(a, q_rw κ (q_sn σ))])) (rest := []) (v := some (.int b1)) (σ1 := σ1) (k := 220) (a := 8) C0 hfl mw_X8_save mi_X8_save me_X8_save lk_L_274 hks rfl rfl (by decide) (by decide) rfl rfl dW_131 (Nat.le_of_ble_eq_true rfl) ⟨(Nat.le_of_ble_eq_true rfl), (Nat.le_of_ble_eq_true rfl)⟩ ⟨by show n1 + 260 + 0 ≤ 600390; omega, by show n2 + 1684 + 0 ≤ 7291200; omega⟩ hY hP hD hS hl ?_
  intro Y H locs ls hY hP hD hS hl
  refine W.eq (g2 := F0 m 134 ls [.int b1]) rfl ?_
  refine lv_istore_n hx hb dW_134 rfl hl (Nat.le_of_ble_eq_true rfl) (lv' := [(3, .int b1), (2, .ref a), (0, .ref (α 335)), (1, .ref (α 220))]) rfl (fun ls hl => ?_)
  refine lv_aload_n hx hb dW_135 rfl (lv_at hl 3 rfl) ?_
  refine lv_iconst hx hb dW_136 (by decide : Int32.ofInt 0 = 0) ?_
  refine lv_iconst hx hb dW_137 (by decide : Int32.ofInt 1 = 1) ?_
  refine lv_bipush hx hb dW_138 (by decide : (Int8.ofInt 70).toInt32 = 70) ?_
  have hkreach := kw_reach (α := α) (β := β) (D := D) (κ := κ) 0 1 70 σ1 hQ1
  rw [e1] at hkreach
  refine r_callW (w := ([] ++ [(a, q_rw κ (q_sn σ))])) (rest := []) (n := 4) C0 hfl cw_reach ⟨by decide +kernel, by decide +kernel, by decide +kernel⟩ q_init_QuillRelayLaw sw_reach lk_L_277 (v := some (.int x1)) (σ1 := σ1) hkreach rfl rfl dW_140 (Nat.le_of_ble_eq_true rfl) ⟨(Nat.le_of_ble_eq_true rfl), (Nat.le_of_ble_eq_true rfl)⟩ ⟨by show n1 + 260 + 0 + 3 ≤ 600390; omega, by show n2 + 1684 + 0 + 18 ≤ 7291200; omega⟩ hY hP hD hS hl ?_
  intro Y H locs ls hY hP hD hS hl
  refine W.eq (g2 := F0 m 143 ls [.int x1]) rfl ?_
  refine lv_aload_n hx hb dW_143 rfl (lv_at hl 3 rfl) ?_
  refine lv_iconst hx hb dW_144 (by decide : Int32.ofInt 0 = 0) ?_
  have hksecondsToZone := kw_secondsToZone (α := α) (β := β) (D := D) (κ := κ) 0 σ1 hQ2
  rw [e2] at hksecondsToZone
  refine r_callW (w := ([] ++ [(a, q_rw κ (q_sn σ))])) (rest := [.int x1]) (n := 2) C0 hfl cw_secondsToZone ⟨by decide +kernel, by decide +kernel, by decide +kernel⟩ q_init_QuillRelayLaw sw_secondsToZone lk_L_140 (v := some (.int x2)) (σ1 := σ1) hksecondsToZone rfl rfl dW_145 (Nat.le_of_ble_eq_true rfl) ⟨(Nat.le_of_ble_eq_true rfl), (Nat.le_of_ble_eq_true rfl)⟩ ⟨by show n1 + 260 + 0 + 3 + 2 ≤ 600390; omega, by show n2 + 1684 + 0 + 18 + 12 ≤ 7291200; omega⟩ hY hP hD hS hl ?_
  intro Y H locs ls hY hP hD hS hl
  refine W.eq (g2 := F0 m 148 ls [.int x2, .int x1]) rfl ?_
  refine lv_iadd hx hb dW_148 ?_
  refine lv_aload_n hx hb dW_149 rfl (lv_at hl 3 rfl) ?_
  refine lv_iconst hx hb dW_150 (by decide : Int32.ofInt 0 = 0) ?_
  have hkb := n_X8_writeBanner (α := α) (β := β) (D := D) (κ := κ) 0 σ1 hQ3
  rw [e3] at hkb
  refine r_callV (w := ([] ++ [(a, q_rw κ (q_sn σ))])) (rest := [.int (x1 + x2)]) (v := some (.int b2)) (σ1 := σ2) (k := 220) (a := 8) C0 hfl mw_X8_writeBanner mi_X8_writeBanner me_X8_writeBanner lk_L_279 hkb rfl rfl (by decide) (by decide) rfl rfl dW_151 (Nat.le_of_ble_eq_true rfl) ⟨(Nat.le_of_ble_eq_true rfl), (Nat.le_of_ble_eq_true rfl)⟩ ⟨by show n1 + 260 + 0 + 3 + 2 + 10 ≤ 600390; omega, by show n2 + 1684 + 0 + 18 + 12 + 1922 ≤ 7291200; omega⟩ hY hP hD hS hl ?_
  intro Y H locs ls hY hP hD hS hl
  refine W.eq (g2 := F0 m 154 ls [.int b2, .int (x1 + x2)]) rfl ?_
  refine lv_iadd hx hb dW_154 ?_
  refine lv_aload_n hx hb dW_155 rfl (lv_at hl 3 rfl) ?_
  refine lv_iconst hx hb dW_156 (by decide : Int32.ofInt 0 = 0) ?_
  have hkteamAtRank := kw_teamAtRank (α := α) (β := β) (D := D) (κ := κ) 0 σ2 hQ4
  rw [e4] at hkteamAtRank
  refine r_callW (w := ([] ++ [(a, q_rw κ (q_sn σ))])) (rest := [.int ((x1 + x2) + b2)]) (n := 2) C0 hfl cw_teamAtRank ⟨by decide +kernel, by decide +kernel, by decide +kernel⟩ q_init_QuillRelayLaw sw_teamAtRank lk_L_237 (v := some (.int x4)) (σ1 := σ2) hkteamAtRank rfl rfl dW_157 (Nat.le_of_ble_eq_true rfl) ⟨(Nat.le_of_ble_eq_true rfl), (Nat.le_of_ble_eq_true rfl)⟩ ⟨by show n1 + 260 + 0 + 3 + 2 + 10 + 1 ≤ 600390; omega, by show n2 + 1684 + 0 + 18 + 12 + 1922 + 6 ≤ 7291200; omega⟩ hY hP hD hS hl ?_
  intro Y H locs ls hY hP hD hS hl
  refine W.eq (g2 := F0 m 160 ls [.int x4, .int ((x1 + x2) + b2)]) rfl ?_
  refine lv_iadd hx hb dW_160 ?_
  refine lv_aload_n hx hb dW_161 rfl (lv_at hl 3 rfl) ?_
  refine lv_iconst hx hb dW_162 (by decide : Int32.ofInt 0 = 0) ?_
  refine lv_iconst hx hb dW_163 (by decide : Int32.ofInt 0 = 0) ?_
  have hksplitOf := kw_splitOf (α := α) (β := β) (D := D) (κ := κ) 0 0 σ2 hQ5
  rw [e5] at hksplitOf
  refine r_callW (w := ([] ++ [(a, q_rw κ (q_sn σ))])) (rest := [.int (((x1 + x2) + b2) + x4)]) (n := 3) C0 hfl cw_splitOf ⟨by decide +kernel, by decide +kernel, by decide +kernel⟩ q_init_QuillRelayLaw sw_splitOf lk_L_214 (v := some (.int x5)) (σ1 := σ2) hksplitOf rfl rfl dW_164 (Nat.le_of_ble_eq_true rfl) ⟨(Nat.le_of_ble_eq_true rfl), (Nat.le_of_ble_eq_true rfl)⟩ ⟨by show n1 + 260 + 0 + 3 + 2 + 10 + 1 + 3 ≤ 600390; omega, by show n2 + 1684 + 0 + 18 + 12 + 1922 + 6 + 18 ≤ 7291200; omega⟩ hY hP hD hS hl ?_
  intro Y H locs ls hY hP hD hS hl
  refine W.eq (g2 := F0 m 167 ls [.int x5, .int (((x1 + x2) + b2) + x4)]) rfl ?_
  refine lv_iadd hx hb dW_167 ?_
  refine lv_istore hx hb dW_168 hl (Nat.le_of_ble_eq_true rfl) (lv' := [(4, .int ((((x1 + x2) + b2) + x4) + x5)), (3, .int b1), (2, .ref a), (0, .ref (α 335)), (1, .ref (α 220))]) rfl (fun ls hl => ?_)
  refine lv_aload_n hx hb dW_170 rfl (lv_at hl 2 rfl) ?_
  refine lv_aload_n hx hb dW_171 rfl (lv_at hl 4 rfl) ?_
  refine r_seen (w := ([] ++ [(a, q_rw κ (q_sn σ))])) (rest := [.ref a]) (τ := F_L_seen 229 (q_s9 σ2)) C0 hfl h9 (by unfold q_s1; rw [hN]; exact hs2.1) (by unfold q_s1; rw [hN]; rfl) dW_172 (Nat.le_of_ble_eq_true rfl) ⟨(Nat.le_of_ble_eq_true rfl), (Nat.le_of_ble_eq_true rfl)⟩ ⟨by show n1 + 260 + 0 + 3 + 2 + 10 + 1 + 3 + 260 ≤ 600390; omega, by show n2 + 1684 + 0 + 18 + 12 + 1922 + 6 + 18 + 1684 ≤ 7291200; omega⟩ hY hP hD hS hl (fun b => ?_)
  rw [hN]
  refine r_mem (σ1 := σ2) (fun j hj => hs2.2 j (by rw [hN] at hj; exact hj)) ?_
  refine r_wdn (k1 := n1 + 260 + 0 + 3 + 2 + 10 + 1 + 3 + 260) (k2 := n2 + 1684 + 0 + 18 + 12 + 1922 + 6 + 18 + 1684) (by omega) (by omega) ?_
  intro Y H locs ls hY hP hD hS hl
  refine W.eq (g2 := F0 m 175 ls [.ref b, .ref a]) rfl ?_
  refine r_alike (w := []) (a := a) (b := b) (rest := []) C0 hfl (by rw [h329]; decide) hn2s dW_175 (Nat.le_of_ble_eq_true rfl) ⟨(Nat.le_of_ble_eq_true rfl), (Nat.le_of_ble_eq_true rfl)⟩ ⟨by show n1 + 260 + 0 + 3 + 2 + 10 + 1 + 3 + 260 ≤ 600390; omega, by show n2 + 1684 + 0 + 18 + 12 + 1922 + 6 + 18 + 1684 ≤ 7291200; omega⟩ rfl hY hP hD hS hl ?_
  intro Y H locs ls hY hP hD hS hl
  refine W.eq (g2 := F0 m 178 ls [.int 1]) rfl ?_
  refine lv_if_ne hx hb dW_178 (tgt := 183) (by decide) (fun _ => ?_) (fun q => absurd q (by decide))
  refine lv_iload hx hb dW_183 (lv_at hl 0 rfl) ?_
  refine lv_aload_n hx hb dW_185 rfl (lv_at hl 4 rfl) ?_
  refine lv_bipush hx hb dW_186 (by decide : (Int8.ofInt 30).toInt32 = 30) ?_
  have hkrun := kw_run (α := α) (β := β) (D := D) (κ := κ) 30 σ2 hQ6
  rw [e6] at hkrun
  refine r_callW (w := ([] ++ [(a, q_rw κ (q_sn σ))])) (rest := [.int ((((x1 + x2) + b2) + x4) + x5)]) (n := 2) C0 hfl cw_run ⟨by decide +kernel, by decide +kernel, by decide +kernel⟩ q_init_QuillRelayLaw sw_run lk_L_130 (v := some (.int y1)) (σ1 := σ3) hkrun rfl rfl dW_188 (Nat.le_of_ble_eq_true rfl) ⟨(Nat.le_of_ble_eq_true rfl), (Nat.le_of_ble_eq_true rfl)⟩ ⟨by show n1 + 260 + 0 + 3 + 2 + 10 + 1 + 3 + 260 + 1 ≤ 600390; omega, by show n2 + 1684 + 0 + 18 + 12 + 1922 + 6 + 18 + 1684 + 6 ≤ 7291200; omega⟩ hY hP hD hS hl ?_
  intro Y H locs ls hY hP hD hS hl
  refine W.eq (g2 := F0 m 191 ls [.int y1, .int ((((x1 + x2) + b2) + x4) + x5)]) rfl ?_
  refine lv_aload_n hx hb dW_191 rfl (lv_at hl 4 rfl) ?_
  refine lv_iconst hx hb dW_192 (by decide : Int32.ofInt 0 = 0) ?_
  have hkpass := kw_pass (α := α) (β := β) (D := D) (κ := κ) 0 σ3 hQ7
  rw [e7] at hkpass
  refine r_callW (w := ([] ++ [(a, q_rw κ (q_sn σ))])) (rest := [.int y1, .int ((((x1 + x2) + b2) + x4) + x5)]) (n := 2) C0 hfl cw_pass ⟨by decide +kernel, by decide +kernel, by decide +kernel⟩ q_init_QuillRelayLaw sw_pass lk_L_145 (v := some (.int y2)) (σ1 := σ4) hkpass rfl rfl dW_193 (Nat.le_of_ble_eq_true rfl) ⟨(Nat.le_of_ble_eq_true rfl), (Nat.le_of_ble_eq_true rfl)⟩ ⟨by show n1 + 260 + 0 + 3 + 2 + 10 + 1 + 3 + 260 + 1 + 2 ≤ 600390; omega, by show n2 + 1684 + 0 + 18 + 12 + 1922 + 6 + 18 + 1684 + 6 + 12 ≤ 7291200; omega⟩ hY hP hD hS hl ?_
  intro Y H locs ls hY hP hD hS hl
  refine W.eq (g2 := F0 m 196 ls [.int y2, .int y1, .int ((((x1 + x2) + b2) + x4) + x5)]) rfl ?_
  refine lv_iadd hx hb dW_196 ?_
  refine lv_aload_n hx hb dW_197 rfl (lv_at hl 4 rfl) ?_
  refine lv_iconst hx hb dW_198 (by decide : Int32.ofInt 1 = 1) ?_
  refine lv_iconst hx hb dW_199 (by decide : Int32.ofInt 5 = 5) ?_
  have hkdrop := kw_drop (α := α) (β := β) (D := D) (κ := κ) 1 5 σ4 hQ8
  rw [e8] at hkdrop
  refine r_callW (w := ([] ++ [(a, q_rw κ (q_sn σ))])) (rest := [.int (y1 + y2), .int ((((x1 + x2) + b2) + x4) + x5)]) (n := 3) C0 hfl cw_drop ⟨by decide +kernel, by decide +kernel, by decide +kernel⟩ q_init_QuillRelayLaw sw_drop lk_L_147 (v := some (.int y3)) (σ1 := σ5) hkdrop rfl rfl dW_200 (Nat.le_of_ble_eq_true rfl) ⟨(Nat.le_of_ble_eq_true rfl), (Nat.le_of_ble_eq_true rfl)⟩ ⟨by show n1 + 260 + 0 + 3 + 2 + 10 + 1 + 3 + 260 + 1 + 2 + 2 ≤ 600390; omega, by show n2 + 1684 + 0 + 18 + 12 + 1922 + 6 + 18 + 1684 + 6 + 12 + 12 ≤ 7291200; omega⟩ hY hP hD hS hl ?_
  intro Y H locs ls hY hP hD hS hl
  refine W.eq (g2 := F0 m 203 ls [.int y3, .int (y1 + y2), .int ((((x1 + x2) + b2) + x4) + x5)]) rfl ?_
  refine lv_iadd hx hb dW_203 ?_
  refine lv_aload_n hx hb dW_204 rfl (lv_at hl 4 rfl) ?_
  refine lv_iconst hx hb dW_205 (by decide : Int32.ofInt 0 = 0) ?_
  refine lv_iconst hx hb dW_206 (by decide : Int32.ofInt 1 = 1) ?_
  refine lv_iconst hx hb dW_207 (by decide : Int32.ofInt 0 = 0) ?_
  have hkprotest := kw_protest (α := α) (β := β) (D := D) (κ := κ) 0 1 0 σ5 hQ9
  rw [e9] at hkprotest
  refine r_callW (w := ([] ++ [(a, q_rw κ (q_sn σ))])) (rest := [.int ((y1 + y2) + y3), .int ((((x1 + x2) + b2) + x4) + x5)]) (n := 4) C0 hfl cw_protest ⟨by decide +kernel, by decide +kernel, by decide +kernel⟩ q_init_QuillRelayLaw sw_protest lk_L_152 (v := some (.int y4)) (σ1 := σ6) hkprotest rfl rfl dW_208 (Nat.le_of_ble_eq_true rfl) ⟨(Nat.le_of_ble_eq_true rfl), (Nat.le_of_ble_eq_true rfl)⟩ ⟨by show n1 + 260 + 0 + 3 + 2 + 10 + 1 + 3 + 260 + 1 + 2 + 2 + 3 ≤ 600390; omega, by show n2 + 1684 + 0 + 18 + 12 + 1922 + 6 + 18 + 1684 + 6 + 12 + 12 + 18 ≤ 7291200; omega⟩ hY hP hD hS hl ?_
  intro Y H locs ls hY hP hD hS hl
  refine W.eq (g2 := F0 m 211 ls [.int y4, .int ((y1 + y2) + y3), .int ((((x1 + x2) + b2) + x4) + x5)]) rfl ?_
  refine lv_iadd hx hb dW_211 ?_
  refine lv_aload_n hx hb dW_212 rfl (lv_at hl 4 rfl) ?_
  refine lv_iconst hx hb dW_213 (by decide : Int32.ofInt 1 = 1) ?_
  have hkwithdraw := kw_withdraw (α := α) (β := β) (D := D) (κ := κ) 1 σ6 hQ10
  rw [e10] at hkwithdraw
  refine r_callW (w := ([] ++ [(a, q_rw κ (q_sn σ))])) (rest := [.int (((y1 + y2) + y3) + y4), .int ((((x1 + x2) + b2) + x4) + x5)]) (n := 2) C0 hfl cw_withdraw ⟨by decide +kernel, by decide +kernel, by decide +kernel⟩ q_init_QuillRelayLaw sw_withdraw lk_L_150 (v := some (.int y5)) (σ1 := σ7) hkwithdraw rfl rfl dW_214 (Nat.le_of_ble_eq_true rfl) ⟨(Nat.le_of_ble_eq_true rfl), (Nat.le_of_ble_eq_true rfl)⟩ ⟨by show n1 + 260 + 0 + 3 + 2 + 10 + 1 + 3 + 260 + 1 + 2 + 2 + 3 + 2 ≤ 600390; omega, by show n2 + 1684 + 0 + 18 + 12 + 1922 + 6 + 18 + 1684 + 6 + 12 + 12 + 18 + 12 ≤ 7291200; omega⟩ hY hP hD hS hl ?_
  intro Y H locs ls hY hP hD hS hl
  refine W.eq (g2 := F0 m 217 ls [.int y5, .int (((y1 + y2) + y3) + y4), .int ((((x1 + x2) + b2) + x4) + x5)]) rfl ?_
  refine lv_iadd hx hb dW_217 ?_
  refine lv_aload_n hx hb dW_218 rfl (lv_at hl 4 rfl) ?_
  have hkstart := kw_start (α := α) (β := β) (D := D) (κ := κ)  σ7 hQ11
  rw [e11] at hkstart
  refine r_callW (w := ([] ++ [(a, q_rw κ (q_sn σ))])) (rest := [.int ((((y1 + y2) + y3) + y4) + y5), .int ((((x1 + x2) + b2) + x4) + x5)]) (n := 1) C0 hfl cw_start ⟨by decide +kernel, by decide +kernel, by decide +kernel⟩ q_init_QuillRelayLaw sw_start lk_L_128 (v := some (.int y6)) (σ1 := σ8) hkstart rfl rfl dW_219 (Nat.le_of_ble_eq_true rfl) ⟨(Nat.le_of_ble_eq_true rfl), (Nat.le_of_ble_eq_true rfl)⟩ ⟨by show n1 + 260 + 0 + 3 + 2 + 10 + 1 + 3 + 260 + 1 + 2 + 2 + 3 + 2 + 1 ≤ 600390; omega, by show n2 + 1684 + 0 + 18 + 12 + 1922 + 6 + 18 + 1684 + 6 + 12 + 12 + 18 + 12 + 6 ≤ 7291200; omega⟩ hY hP hD hS hl ?_
  intro Y H locs ls hY hP hD hS hl
  refine W.eq (g2 := F0 m 222 ls [.int y6, .int ((((y1 + y2) + y3) + y4) + y5), .int ((((x1 + x2) + b2) + x4) + x5)]) rfl ?_
  refine lv_iadd hx hb dW_222 ?_
  refine lv_iadd hx hb dW_223 ?_
  refine lv_istore hx hb dW_224 hl (Nat.le_of_ble_eq_true rfl) (lv' := [(4, .int (((((x1 + x2) + b2) + x4) + x5) + (((((y1 + y2) + y3) + y4) + y5) + y6))), (3, .int b1), (2, .ref a), (0, .ref (α 335)), (1, .ref (α 220))]) rfl (fun ls hl => ?_)
  refine lv_iload hx hb dW_226 (lv_at hl 0 rfl) ?_
  refine lv_ldc hx hb hown (hts _ ck_L_132) dW_228 ?_
  refine lv_icmp_le hx hb dW_230 (tgt := 265) (by decide) (fun q => absurd q hneg) (fun _ => ?_)
  refine lv_aload_n hx hb dW_233 rfl (lv_at hl 4 rfl) ?_
  have hkrestore := kw_restore (α := α) (β := β) (D := D) (κ := κ)  σ8 hQ12
  rw [e12] at hkrestore
  refine r_callW (w := ([] ++ [(a, q_rw κ (q_sn σ))])) (rest := []) (n := 1) C0 hfl cw_restore ⟨by decide +kernel, by decide +kernel, by decide +kernel⟩ q_init_QuillRelayLaw sw_restore lk_L_282 (v := some (.int b4)) (σ1 := σ9) hkrestore rfl rfl dW_234 (Nat.le_of_ble_eq_true rfl) ⟨(Nat.le_of_ble_eq_true rfl), (Nat.le_of_ble_eq_true rfl)⟩ ⟨by show n1 + 260 + 0 + 3 + 2 + 10 + 1 + 3 + 260 + 1 + 2 + 2 + 3 + 2 + 1 + 1 ≤ 600390; omega, by show n2 + 1684 + 0 + 18 + 12 + 1922 + 6 + 18 + 1684 + 6 + 12 + 12 + 18 + 12 + 6 + 6 ≤ 7291200; omega⟩ hY hP hD hS hl ?_
  intro Y H locs ls hY hP hD hS hl
  refine W.eq (g2 := F0 m 237 ls [.int b4]) rfl ?_
  refine lv_iload_n hx hb dW_237 rfl (lv_at hl 1 rfl) ?_
  refine lv_icmp_ne hx hb dW_238 (tgt := 265) (by decide) (fun q => absurd hb4 q) (fun _ => ?_)
  refine lv_aload_n hx hb dW_241 rfl (lv_at hl 2 rfl) ?_
  refine lv_aload_n hx hb dW_242 rfl (lv_at hl 4 rfl) ?_
  refine r_seen (w := ([] ++ [(a, q_rw κ (q_sn σ))])) (rest := [.ref a]) (τ := F_L_seen 229 (q_s9 σ9)) C0 hfl h9 (by unfold q_s1; rw [hN]; exact hs9.1) (by unfold q_s1; rw [hN]; rfl) dW_243 (Nat.le_of_ble_eq_true rfl) ⟨(Nat.le_of_ble_eq_true rfl), (Nat.le_of_ble_eq_true rfl)⟩ ⟨by show n1 + 260 + 0 + 3 + 2 + 10 + 1 + 3 + 260 + 1 + 2 + 2 + 3 + 2 + 1 + 1 + 260 ≤ 600390; omega, by show n2 + 1684 + 0 + 18 + 12 + 1922 + 6 + 18 + 1684 + 6 + 12 + 12 + 18 + 12 + 6 + 6 + 1684 ≤ 7291200; omega⟩ hY hP hD hS hl (fun b => ?_)
  rw [hN]
  refine r_mem (σ1 := σ9) (fun j hj => hs9.2 j (by rw [hN] at hj; exact hj)) ?_
  refine r_wdn (k1 := n1 + 260 + 0 + 3 + 2 + 10 + 1 + 3 + 260 + 1 + 2 + 2 + 3 + 2 + 1 + 1 + 260) (k2 := n2 + 1684 + 0 + 18 + 12 + 1922 + 6 + 18 + 1684 + 6 + 12 + 12 + 18 + 12 + 6 + 6 + 1684) (by omega) (by omega) ?_
  intro Y H locs ls hY hP hD hS hl
  refine W.eq (g2 := F0 m 246 ls [.ref b, .ref a]) rfl ?_
  refine r_alike (w := []) (a := a) (b := b) (rest := []) C0 hfl (by rw [h329]; decide) hn9s dW_246 (Nat.le_of_ble_eq_true rfl) ⟨(Nat.le_of_ble_eq_true rfl), (Nat.le_of_ble_eq_true rfl)⟩ ⟨by show n1 + 260 + 0 + 3 + 2 + 10 + 1 + 3 + 260 + 1 + 2 + 2 + 3 + 2 + 1 + 1 + 260 ≤ 600390; omega, by show n2 + 1684 + 0 + 18 + 12 + 1922 + 6 + 18 + 1684 + 6 + 12 + 12 + 18 + 12 + 6 + 6 + 1684 ≤ 7291200; omega⟩ rfl hY hP hD hS hl ?_
  intro Y H locs ls hY hP hD hS hl
  refine W.eq (g2 := F0 m 249 ls [.int 1]) rfl ?_
  refine lv_if_eq hx hb dW_249 (tgt := 265) (by decide) (fun q => absurd q (by decide)) (fun _ => ?_)
  refine lv_aload_n hx hb dW_252 rfl (lv_at hl 4 rfl) ?_
  have hkundo := kw_undo (α := α) (β := β) (D := D) (κ := κ)  σ9 hQ13
  rw [e13] at hkundo
  refine r_callW (w := ([] ++ [(a, q_rw κ (q_sn σ))])) (rest := []) (n := 1) C0 hfl cw_undo ⟨by decide +kernel, by decide +kernel, by decide +kernel⟩ q_init_QuillRelayLaw sw_undo lk_L_272 (v := some (.int (-900001))) (σ1 := σ10) hkundo rfl rfl dW_253 (Nat.le_of_ble_eq_true rfl) ⟨(Nat.le_of_ble_eq_true rfl), (Nat.le_of_ble_eq_true rfl)⟩ ⟨by show n1 + 260 + 0 + 3 + 2 + 10 + 1 + 3 + 260 + 1 + 2 + 2 + 3 + 2 + 1 + 1 + 260 + 1 ≤ 600390; omega, by show n2 + 1684 + 0 + 18 + 12 + 1922 + 6 + 18 + 1684 + 6 + 12 + 12 + 18 + 12 + 6 + 6 + 1684 + 6 ≤ 7291200; omega⟩ hY hP hD hS hl ?_
  intro Y H locs ls hY hP hD hS hl
  refine W.eq (g2 := F0 m 256 ls [.int (-900001)]) rfl ?_
  refine lv_ldc hx hb hown (hts _ ck_L_17) dW_256 ?_
  refine lv_icmp_ne hx hb dW_258 (tgt := 265) (by decide) (fun q => absurd rfl q) (fun _ => ?_)
  refine lv_iconst hx hb dW_261 (by decide : Int32.ofInt 1 = 1) ?_
  refine lv_goto hx hb dW_262 (tgt := 266) (by decide) ?_
  exact kk _ _ _ _ _ (by show n1 + 260 + 0 + 3 + 2 + 10 + 1 + 3 + 260 + 1 + 2 + 2 + 3 + 2 + 1 + 1 + 260 + 1 ≤ n1 + 3000; omega) (by show n2 + 1684 + 0 + 18 + 12 + 1922 + 6 + 18 + 1684 + 6 + 12 + 12 + 18 + 12 + 6 + 6 + 1684 + 6 ≤ n2 + 20000; omega) hS
