/-! The model: a command done. -/
def F_X9_bannerAt (v : Int32) (σ : q_M) : (Int32) × q_M := (if (F_X9_isIn v 0 ((σ 229 13) - 1) σ) = 0 then (0, (q_up σ 229 5 1)) else (((((q_up σ 229 5 0) 234 (v).toNatClampNeg)).toUInt32 % 65536).toInt32, (q_up σ 229 5 0)))
def P_X9_bannerAt (v : Int32) (σ : q_M) : Prop := (((F_X9_isIn v 0 ((σ 229 13) - 1) σ) = 0 → True) ∧ (¬ (F_X9_isIn v 0 ((σ 229 13) - 1) σ) = 0 → (vp_in v (q_len 234) ∧ ((narrow .char (.int ((((q_up σ 229 5 0) 234 (v).toNatClampNeg)).toUInt32 % 65536).toInt32) = .int ((((q_up σ 229 5 0) 234 (v).toNatClampNeg)).toUInt32 % 65536).toInt32) ∧ True))))
set_option maxRecDepth 100000 in
theorem k_X9_bannerAt {α β : Nat → Nat} {D : va_G} {κ : Nat → ClassId} (v : Int32) (σ : q_M) (hP : P_X9_bannerAt v σ) : q_C α β D κ yX9_bannerAt cX9_bannerAt 2 (Option.some Jvm.ClassFile.FieldType.char) 1 22 0 0 [.ref 229, .int v] σ (q_oi (F_X9_bannerAt v σ).1) (F_X9_bannerAt v σ).2 := by
  refine q_enter (own := RX9) (F := F_X9) (G := G_X9) (by decide +kernel) rfl Fok_X9 Gok_X9 (Nat.le_of_ble_eq_true rfl) (fun p l e s m args below meth c A hfl C hr hT => ?_)
  generalize hF : F_X9_bannerAt v σ = rr
  unfold F_X9_bannerAt at hF
  refine q_go C tk_X9_bannerAt [(0, 7)] [] (pc1 := 9) (σ1 := σ) (lv1 := [(0, .ref 229), (1, .int v)]) (st1 := [.int ((σ 229 13) - 1), .int 0, .int v, .ref 229]) rfl ⟨rfl, trivial⟩ ?_
  refine q_callS C hfl mw_X9_isIn ms_X9_isIn lk_X9_48 (k_X9_isIn v 0 ((σ 229 13) - 1) σ) (rest := [.ref 229]) rfl rfl (q_dc (z := (9, .invokestatic 48, 3, 0, 0)) tk_X9_bannerAt 7 rfl) (Nat.le_of_ble_eq_true rfl) ⟨Nat.le_of_ble_eq_true rfl, Nat.le_of_ble_eq_true rfl⟩ ⟨Nat.le_of_ble_eq_true rfl, Nat.le_of_ble_eq_true rfl⟩ ?_
  refine q_nrm 12 [.int (F_X9_isIn v 0 ((σ 229 13) - 1) σ), .ref 229] 0 0 rfl rfl rfl rfl ?_
  by_cases c1 : (F_X9_isIn v 0 ((σ 229 13) - 1) σ) = 0
  · rw [if_pos c1] at hF
    refine q_go C tk_X9_bannerAt [(8, 3), (12, 1)] [false] (pc1 := 21) (σ1 := σ) (lv1 := [(0, .ref 229), (1, .int v)]) (st1 := [.int 1, .int 1, .ref 229]) rfl ⟨c1, trivial⟩ ?_
    refine q_callV C hfl mw_X9_isThrown mi_X9_isThrown me_X9_isThrown lk_X9_63 (k_X9_isThrownN 1 1 σ (by decide) (by decide)) (rest := []) rfl rfl rfl (by decide) (by decide) rfl (q_dc (z := (21, .invokevirtual 63, 3, 0, 0)) tk_X9_bannerAt 13 rfl) (Nat.le_of_ble_eq_true rfl) ⟨Nat.le_of_ble_eq_true rfl, Nat.le_of_ble_eq_true rfl⟩ ⟨Nat.le_of_ble_eq_true rfl, Nat.le_of_ble_eq_true rfl⟩ ?_
    refine q_nrm 24 [.int 1] 0 0 rfl rfl rfl rfl ?_
    refine q_go C tk_X9_bannerAt [(14, 3)] [false] (pc1 := 38) (σ1 := (q_up σ 229 5 1)) (lv1 := [(0, .ref 229), (1, .int v)]) (st1 := [.int 0]) rfl ⟨(by decide : ¬ (1 : Int32) = 0), trivial⟩ ?_
    exact q_zret C hr (q_dc (z := (38, .ireturn, 1, 0, 0)) tk_X9_bannerAt 22 rfl) (by decide +kernel) (congrArg Prod.snd hF) (congrArg (fun z => q_oi z.1) hF.symm) (Nat.le_of_ble_eq_true rfl) (Nat.le_of_ble_eq_true rfl)
  · rw [if_neg c1] at hF
    refine q_go C tk_X9_bannerAt [(8, 1), (11, 2)] [true] (pc1 := 21) (σ1 := σ) (lv1 := [(0, .ref 229), (1, .int v)]) (st1 := [.int 1, .int 0, .ref 229]) rfl ⟨c1, trivial⟩ ?_
    refine q_callV C hfl mw_X9_isThrown mi_X9_isThrown me_X9_isThrown lk_X9_63 (k_X9_isThrownZ 0 1 σ (by decide)) (rest := []) rfl rfl rfl (by decide) (by decide) rfl (q_dc (z := (21, .invokevirtual 63, 3, 0, 0)) tk_X9_bannerAt 13 rfl) (Nat.le_of_ble_eq_true rfl) ⟨Nat.le_of_ble_eq_true rfl, Nat.le_of_ble_eq_true rfl⟩ ⟨Nat.le_of_ble_eq_true rfl, Nat.le_of_ble_eq_true rfl⟩ ?_
    refine q_nrm 24 [.int 0] 0 0 rfl rfl rfl rfl ?_
    refine q_go C tk_X9_bannerAt [(14, 1), (17, 5)] [true] (pc1 := 38) (σ1 := (q_up σ 229 5 0)) (lv1 := [(0, .ref 229), (1, .int v)]) (st1 := [.int ((((q_up σ 229 5 0) 234 (v).toNatClampNeg)).toUInt32 % 65536).toInt32]) rfl ⟨(by decide : (0 : Int32) = 0), rfl, rfl, (hP.2 c1).1, trivial⟩ ?_
    exact q_zret C hr (q_dc (z := (38, .ireturn, 1, 0, 0)) tk_X9_bannerAt 22 rfl) (hP.2 c1).2.1 (congrArg Prod.snd hF) (congrArg (fun z => q_oi z.1) hF.symm) (Nat.le_of_ble_eq_true rfl) (Nat.le_of_ble_eq_true rfl)
def F_X9_does (a : Int32) (σ : q_M) : (Int32) × q_M := (q_L (σ 236 ((a + 1)).toNatClampNeg) (fun x1 : Int32 => (q_L (σ 236 ((a + 2)).toNatClampNeg) (fun x3 : Int32 => (q_L (σ 236 ((a + 3)).toNatClampNeg) (fun x5 : Int32 => (if (σ 236 (a).toNatClampNeg) = 100 then (q_L (F_X9_drops x1 x3 σ).2 (fun σ8 : q_M => ((F_X9_drops x1 x3 σ).1, σ8))) else (if (σ 236 (a).toNatClampNeg) = 111 then (q_L (F_X9_protests x1 x3 x5 σ).2 (fun σ11 : q_M => ((F_X9_protests x1 x3 x5 σ).1, σ11))) else (if (σ 236 (a).toNatClampNeg) = 112 then (q_L (F_X9_passes x1 σ).2 (fun σ14 : q_M => ((F_X9_passes x1 σ).1, σ14))) else (if (σ 236 (a).toNatClampNeg) = 113 then (q_L (F_X9_leaves x1 σ).2 (fun σ17 : q_M => ((F_X9_leaves x1 σ).1, σ17))) else (if (σ 236 (a).toNatClampNeg) = 114 then (q_L (F_X9_secondsPass x1 σ).2 (fun σ20 : q_M => ((F_X9_secondsPass x1 σ).1, σ20))) else (if (σ 236 (a).toNatClampNeg) = 115 then (q_L (F_X9_starts σ).2 (fun σ23 : q_M => ((F_X9_starts σ).1, σ23))) else (if (σ 236 (a).toNatClampNeg) = 118 then (q_L (F_X9_speeds x1 x3 x5 σ).2 (fun σ26 : q_M => ((F_X9_speeds x1 x3 x5 σ).1, σ26))) else (if (σ 236 (a).toNatClampNeg) = 119 then (q_L (F_X9_draws x1 σ).2 (fun σ29 : q_M => ((F_X9_draws x1 σ).1, σ29))) else (0, σ)))))))))))))))
def P_X9_does (a : Int32) (σ : q_M) : Prop := (vp_in (a + 1) (q_len 236) ∧ (∀ x1 : Int32, (σ 236 ((a + 1)).toNatClampNeg) = x1 → (vp_in (a + 2) (q_len 236) ∧ (∀ x3 : Int32, (σ 236 ((a + 2)).toNatClampNeg) = x3 → (vp_in (a + 3) (q_len 236) ∧ (∀ x5 : Int32, (σ 236 ((a + 3)).toNatClampNeg) = x5 → (vp_in a (q_len 236) ∧ (((σ 236 (a).toNatClampNeg) = 100 → ((P_X9_drops x1 x3 σ) ∧ True)) ∧ (¬ (σ 236 (a).toNatClampNeg) = 100 → (((σ 236 (a).toNatClampNeg) = 111 → ((P_X9_protests x1 x3 x5 σ) ∧ True)) ∧ (¬ (σ 236 (a).toNatClampNeg) = 111 → (((σ 236 (a).toNatClampNeg) = 112 → ((P_X9_passes x1 σ) ∧ True)) ∧ (¬ (σ 236 (a).toNatClampNeg) = 112 → (((σ 236 (a).toNatClampNeg) = 113 → ((P_X9_leaves x1 σ) ∧ True)) ∧ (¬ (σ 236 (a).toNatClampNeg) = 113 → (((σ 236 (a).toNatClampNeg) = 114 → ((P_X9_secondsPass x1 σ) ∧ True)) ∧ (¬ (σ 236 (a).toNatClampNeg) = 114 → (((σ 236 (a).toNatClampNeg) = 115 → ((P_X9_starts σ) ∧ True)) ∧ (¬ (σ 236 (a).toNatClampNeg) = 115 → (((σ 236 (a).toNatClampNeg) = 118 → ((P_X9_speeds x1 x3 x5 σ) ∧ True)) ∧ (¬ (σ 236 (a).toNatClampNeg) = 118 → (((σ 236 (a).toNatClampNeg) = 119 → ((P_X9_draws x1 σ) ∧ True)) ∧ (¬ (σ 236 (a).toNatClampNeg) = 119 → False)))))))))))))))))))))))
set_option maxRecDepth 100000 in
theorem k_X9_does {α β : Nat → Nat} {D : va_G} {κ : Nat → ClassId} (a : Int32) (σ : q_M) (hP : P_X9_does a σ) : q_C α β D κ yX9_does cX9_does 5 (Option.some Jvm.ClassFile.FieldType.int) 4 92 0 0 [.ref 229, .int a] σ (q_oi (F_X9_does a σ).1) (F_X9_does a σ).2 := by
  refine q_enter (own := RX9) (F := F_X9) (G := G_X9) (by decide +kernel) rfl Fok_X9 Gok_X9 (Nat.le_of_ble_eq_true rfl) (fun p l e s m args below meth c A hfl C hr hT => ?_)
  generalize hF : F_X9_does a σ = rr
  unfold F_X9_does at hF
  refine q_go C tk_X9_does [(0, 6)] [] (pc1 := 8) (σ1 := σ) (lv1 := [(0, .ref 229), (1, .int a)]) (st1 := [.int (σ 236 ((a + 1)).toNatClampNeg)]) rfl ⟨rfl, rfl, hP.1, trivial⟩ ?_
  generalize e2 : (σ 236 ((a + 1)).toNatClampNeg) = x1
  replace hF := q_let e2 hF
  refine q_go C tk_X9_does [(6, 7)] [] (pc1 := 17) (σ1 := σ) (lv1 := [(2, .int x1), (0, .ref 229), (1, .int a)]) (st1 := [.int (σ 236 ((a + 2)).toNatClampNeg)]) rfl ⟨rfl, rfl, (hP.2 x1 e2).1, trivial⟩ ?_
  generalize e4 : (σ 236 ((a + 2)).toNatClampNeg) = x3
  replace hF := q_let e4 hF
  refine q_go C tk_X9_does [(13, 7)] [] (pc1 := 26) (σ1 := σ) (lv1 := [(3, .int x3), (2, .int x1), (0, .ref 229), (1, .int a)]) (st1 := [.int (σ 236 ((a + 3)).toNatClampNeg)]) rfl ⟨rfl, rfl, ((hP.2 x1 e2).2 x3 e4).1, trivial⟩ ?_
  generalize e6 : (σ 236 ((a + 3)).toNatClampNeg) = x5
  replace hF := q_let e6 hF
  refine q_go C tk_X9_does [(20, 5)] [] (pc1 := 34) (σ1 := σ) (lv1 := [(4, .int x5), (3, .int x3), (2, .int x1), (0, .ref 229), (1, .int a)]) (st1 := [.int (σ 236 (a).toNatClampNeg)]) rfl ⟨rfl, rfl, (((hP.2 x1 e2).2 x3 e4).2 x5 e6).1, trivial⟩ ?_
  by_cases c7 : (σ 236 (a).toNatClampNeg) = 100
  · rw [if_pos c7] at hF
    refine q_tabIn (tgt := 157) C (q_dc (z := (34, .tableswitch 142 100 119 #[123, 142, 142, 142, 142, 142, 142, 142, 142, 142, 142, 114, 108, 142, 136, 94, 142, 142, 99, 130], 94, 0, 0)) tk_X9_does 25 rfl) (by rw [c7]; decide +kernel) (by rw [c7]; decide +kernel) (by rw [c7]; rfl) (by decide) ?_
    refine q_go C tk_X9_does [(45, 3)] [] (pc1 := 160) (σ1 := σ) (lv1 := [(4, .int x5), (3, .int x3), (2, .int x1), (0, .ref 229), (1, .int a)]) (st1 := [.int x3, .int x1, .ref 229]) rfl trivial ?_
    refine q_callV C hfl mw_X9_drops mi_X9_drops me_X9_drops lk_X9_136 (k_X9_drops x1 x3 σ ((((hP.2 x1 e2).2 x3 e4).2 x5 e6).2.1 c7).1) (rest := []) rfl rfl rfl (by decide) (by decide) rfl (q_dc (z := (160, .invokevirtual 136, 3, 0, 0)) tk_X9_does 48 rfl) (Nat.le_of_ble_eq_true rfl) ⟨Nat.le_of_ble_eq_true rfl, Nat.le_of_ble_eq_true rfl⟩ ⟨Nat.le_of_ble_eq_true rfl, Nat.le_of_ble_eq_true rfl⟩ ?_
    refine q_nrm 163 [.int (F_X9_drops x1 x3 σ).1] 0 0 rfl rfl rfl rfl ?_
    generalize e9 : (F_X9_drops x1 x3 σ).2 = σ8
    replace hF := q_let e9 hF
    exact q_iret C hr (q_dc (z := (163, .ireturn, 1, 0, 0)) tk_X9_does 49 rfl) (congrArg Prod.snd hF) (congrArg (fun z => q_oi z.1) hF.symm) (Nat.le_of_ble_eq_true rfl) (Nat.le_of_ble_eq_true rfl)
  rw [if_neg c7] at hF
  by_cases c10 : (σ 236 (a).toNatClampNeg) = 111
  · rw [if_pos c10] at hF
    refine q_tabIn (tgt := 148) C (q_dc (z := (34, .tableswitch 142 100 119 #[123, 142, 142, 142, 142, 142, 142, 142, 142, 142, 142, 114, 108, 142, 136, 94, 142, 142, 99, 130], 94, 0, 0)) tk_X9_does 25 rfl) (by rw [c10]; decide +kernel) (by rw [c10]; decide +kernel) (by rw [c10]; rfl) (by decide) ?_
    refine q_go C tk_X9_does [(39, 4)] [] (pc1 := 153) (σ1 := σ) (lv1 := [(4, .int x5), (3, .int x3), (2, .int x1), (0, .ref 229), (1, .int a)]) (st1 := [.int x5, .int x3, .int x1, .ref 229]) rfl trivial ?_
    refine q_callV C hfl mw_X9_protests mi_X9_protests me_X9_protests lk_X9_142 (k_X9_protests x1 x3 x5 σ (((((hP.2 x1 e2).2 x3 e4).2 x5 e6).2.2 c7).1 c10).1) (rest := []) rfl rfl rfl (by decide) (by decide) rfl (q_dc (z := (153, .invokevirtual 142, 3, 0, 0)) tk_X9_does 43 rfl) (Nat.le_of_ble_eq_true rfl) ⟨Nat.le_of_ble_eq_true rfl, Nat.le_of_ble_eq_true rfl⟩ ⟨Nat.le_of_ble_eq_true rfl, Nat.le_of_ble_eq_true rfl⟩ ?_
    refine q_nrm 156 [.int (F_X9_protests x1 x3 x5 σ).1] 0 0 rfl rfl rfl rfl ?_
    generalize e12 : (F_X9_protests x1 x3 x5 σ).2 = σ11
    replace hF := q_let e12 hF
    exact q_iret C hr (q_dc (z := (156, .ireturn, 1, 0, 0)) tk_X9_does 44 rfl) (congrArg Prod.snd hF) (congrArg (fun z => q_oi z.1) hF.symm) (Nat.le_of_ble_eq_true rfl) (Nat.le_of_ble_eq_true rfl)
  rw [if_neg c10] at hF
  by_cases c13 : (σ 236 (a).toNatClampNeg) = 112
  · rw [if_pos c13] at hF
    refine q_tabIn (tgt := 142) C (q_dc (z := (34, .tableswitch 142 100 119 #[123, 142, 142, 142, 142, 142, 142, 142, 142, 142, 142, 114, 108, 142, 136, 94, 142, 142, 99, 130], 94, 0, 0)) tk_X9_does 25 rfl) (by rw [c13]; decide +kernel) (by rw [c13]; decide +kernel) (by rw [c13]; rfl) (by decide) ?_
    refine q_go C tk_X9_does [(35, 2)] [] (pc1 := 144) (σ1 := σ) (lv1 := [(4, .int x5), (3, .int x3), (2, .int x1), (0, .ref 229), (1, .int a)]) (st1 := [.int x1, .ref 229]) rfl trivial ?_
    refine q_callV C hfl mw_X9_passes mi_X9_passes me_X9_passes lk_X9_130 (k_X9_passes x1 σ ((((((hP.2 x1 e2).2 x3 e4).2 x5 e6).2.2 c7).2 c10).1 c13).1) (rest := []) rfl rfl rfl (by decide) (by decide) rfl (q_dc (z := (144, .invokevirtual 130, 3, 0, 0)) tk_X9_does 37 rfl) (Nat.le_of_ble_eq_true rfl) ⟨Nat.le_of_ble_eq_true rfl, Nat.le_of_ble_eq_true rfl⟩ ⟨Nat.le_of_ble_eq_true rfl, Nat.le_of_ble_eq_true rfl⟩ ?_
    refine q_nrm 147 [.int (F_X9_passes x1 σ).1] 0 0 rfl rfl rfl rfl ?_
    generalize e15 : (F_X9_passes x1 σ).2 = σ14
    replace hF := q_let e15 hF
    exact q_iret C hr (q_dc (z := (147, .ireturn, 1, 0, 0)) tk_X9_does 38 rfl) (congrArg Prod.snd hF) (congrArg (fun z => q_oi z.1) hF.symm) (Nat.le_of_ble_eq_true rfl) (Nat.le_of_ble_eq_true rfl)
  rw [if_neg c13] at hF
  by_cases c16 : (σ 236 (a).toNatClampNeg) = 113
  · rw [if_pos c16] at hF
    refine q_tabIn (tgt := 176) C (q_dc (z := (34, .tableswitch 142 100 119 #[123, 142, 142, 142, 142, 142, 142, 142, 142, 142, 142, 114, 108, 142, 136, 94, 142, 142, 99, 130], 94, 0, 0)) tk_X9_does 25 rfl) (by rw [c16]; decide +kernel) (by rw [c16]; decide +kernel) (by rw [c16]; rfl) (by decide) ?_
    refine q_go C tk_X9_does [(58, 2)] [] (pc1 := 178) (σ1 := σ) (lv1 := [(4, .int x5), (3, .int x3), (2, .int x1), (0, .ref 229), (1, .int a)]) (st1 := [.int x1, .ref 229]) rfl trivial ?_
    refine q_callV C hfl mw_X9_leaves mi_X9_leaves me_X9_leaves lk_X9_139 (k_X9_leaves x1 σ (((((((hP.2 x1 e2).2 x3 e4).2 x5 e6).2.2 c7).2 c10).2 c13).1 c16).1) (rest := []) rfl rfl rfl (by decide) (by decide) rfl (q_dc (z := (178, .invokevirtual 139, 3, 0, 0)) tk_X9_does 60 rfl) (Nat.le_of_ble_eq_true rfl) ⟨Nat.le_of_ble_eq_true rfl, Nat.le_of_ble_eq_true rfl⟩ ⟨Nat.le_of_ble_eq_true rfl, Nat.le_of_ble_eq_true rfl⟩ ?_
    refine q_nrm 181 [.int (F_X9_leaves x1 σ).1] 0 0 rfl rfl rfl rfl ?_
    generalize e18 : (F_X9_leaves x1 σ).2 = σ17
    replace hF := q_let e18 hF
    exact q_iret C hr (q_dc (z := (181, .ireturn, 1, 0, 0)) tk_X9_does 61 rfl) (congrArg Prod.snd hF) (congrArg (fun z => q_oi z.1) hF.symm) (Nat.le_of_ble_eq_true rfl) (Nat.le_of_ble_eq_true rfl)
  rw [if_neg c16] at hF
  by_cases c19 : (σ 236 (a).toNatClampNeg) = 114
  · rw [if_pos c19] at hF
    refine q_tabIn (tgt := 170) C (q_dc (z := (34, .tableswitch 142 100 119 #[123, 142, 142, 142, 142, 142, 142, 142, 142, 142, 142, 114, 108, 142, 136, 94, 142, 142, 99, 130], 94, 0, 0)) tk_X9_does 25 rfl) (by rw [c19]; decide +kernel) (by rw [c19]; decide +kernel) (by rw [c19]; rfl) (by decide) ?_
    refine q_go C tk_X9_does [(54, 2)] [] (pc1 := 172) (σ1 := σ) (lv1 := [(4, .int x5), (3, .int x3), (2, .int x1), (0, .ref 229), (1, .int a)]) (st1 := [.int x1, .ref 229]) rfl trivial ?_
    refine q_callV C hfl mw_X9_secondsPass mi_X9_secondsPass me_X9_secondsPass lk_X9_115 (k_X9_secondsPass x1 σ ((((((((hP.2 x1 e2).2 x3 e4).2 x5 e6).2.2 c7).2 c10).2 c13).2 c16).1 c19).1) (rest := []) rfl rfl rfl (by decide) (by decide) rfl (q_dc (z := (172, .invokevirtual 115, 3, 0, 0)) tk_X9_does 56 rfl) (Nat.le_of_ble_eq_true rfl) ⟨Nat.le_of_ble_eq_true rfl, Nat.le_of_ble_eq_true rfl⟩ ⟨Nat.le_of_ble_eq_true rfl, Nat.le_of_ble_eq_true rfl⟩ ?_
    refine q_nrm 175 [.int (F_X9_secondsPass x1 σ).1] 0 0 rfl rfl rfl rfl ?_
    generalize e21 : (F_X9_secondsPass x1 σ).2 = σ20
    replace hF := q_let e21 hF
    exact q_iret C hr (q_dc (z := (175, .ireturn, 1, 0, 0)) tk_X9_does 57 rfl) (congrArg Prod.snd hF) (congrArg (fun z => q_oi z.1) hF.symm) (Nat.le_of_ble_eq_true rfl) (Nat.le_of_ble_eq_true rfl)
  rw [if_neg c19] at hF
  by_cases c22 : (σ 236 (a).toNatClampNeg) = 115
  · rw [if_pos c22] at hF
    refine q_tabIn (tgt := 128) C (q_dc (z := (34, .tableswitch 142 100 119 #[123, 142, 142, 142, 142, 142, 142, 142, 142, 142, 142, 114, 108, 142, 136, 94, 142, 142, 99, 130], 94, 0, 0)) tk_X9_does 25 rfl) (by rw [c22]; decide +kernel) (by rw [c22]; decide +kernel) (by rw [c22]; rfl) (by decide) ?_
    refine q_go C tk_X9_does [(26, 1)] [] (pc1 := 129) (σ1 := σ) (lv1 := [(4, .int x5), (3, .int x3), (2, .int x1), (0, .ref 229), (1, .int a)]) (st1 := [.ref 229]) rfl trivial ?_
    refine q_callV C hfl mw_X9_starts mi_X9_starts me_X9_starts lk_X9_92 (k_X9_starts σ (((((((((hP.2 x1 e2).2 x3 e4).2 x5 e6).2.2 c7).2 c10).2 c13).2 c16).2 c19).1 c22).1) (rest := []) rfl rfl rfl (by decide) (by decide) rfl (q_dc (z := (129, .invokevirtual 92, 3, 0, 0)) tk_X9_does 27 rfl) (Nat.le_of_ble_eq_true rfl) ⟨Nat.le_of_ble_eq_true rfl, Nat.le_of_ble_eq_true rfl⟩ ⟨Nat.le_of_ble_eq_true rfl, Nat.le_of_ble_eq_true rfl⟩ ?_
    refine q_nrm 132 [.int (F_X9_starts σ).1] 0 0 rfl rfl rfl rfl ?_
    generalize e24 : (F_X9_starts σ).2 = σ23
    replace hF := q_let e24 hF
    exact q_iret C hr (q_dc (z := (132, .ireturn, 1, 0, 0)) tk_X9_does 28 rfl) (congrArg Prod.snd hF) (congrArg (fun z => q_oi z.1) hF.symm) (Nat.le_of_ble_eq_true rfl) (Nat.le_of_ble_eq_true rfl)
  rw [if_neg c22] at hF
  by_cases c25 : (σ 236 (a).toNatClampNeg) = 118
  · rw [if_pos c25] at hF
    refine q_tabIn (tgt := 133) C (q_dc (z := (34, .tableswitch 142 100 119 #[123, 142, 142, 142, 142, 142, 142, 142, 142, 142, 142, 114, 108, 142, 136, 94, 142, 142, 99, 130], 94, 0, 0)) tk_X9_does 25 rfl) (by rw [c25]; decide +kernel) (by rw [c25]; decide +kernel) (by rw [c25]; rfl) (by decide) ?_
    refine q_go C tk_X9_does [(29, 4)] [] (pc1 := 138) (σ1 := σ) (lv1 := [(4, .int x5), (3, .int x3), (2, .int x1), (0, .ref 229), (1, .int a)]) (st1 := [.int x5, .int x3, .int x1, .ref 229]) rfl trivial ?_
    refine q_callV C hfl mw_X9_speeds mi_X9_speeds me_X9_speeds lk_X9_82 (k_X9_speeds x1 x3 x5 σ ((((((((((hP.2 x1 e2).2 x3 e4).2 x5 e6).2.2 c7).2 c10).2 c13).2 c16).2 c19).2 c22).1 c25).1) (rest := []) rfl rfl rfl (by decide) (by decide) rfl (q_dc (z := (138, .invokevirtual 82, 3, 0, 0)) tk_X9_does 33 rfl) (Nat.le_of_ble_eq_true rfl) ⟨Nat.le_of_ble_eq_true rfl, Nat.le_of_ble_eq_true rfl⟩ ⟨Nat.le_of_ble_eq_true rfl, Nat.le_of_ble_eq_true rfl⟩ ?_
    refine q_nrm 141 [.int (F_X9_speeds x1 x3 x5 σ).1] 0 0 rfl rfl rfl rfl ?_
    generalize e27 : (F_X9_speeds x1 x3 x5 σ).2 = σ26
    replace hF := q_let e27 hF
    exact q_iret C hr (q_dc (z := (141, .ireturn, 1, 0, 0)) tk_X9_does 34 rfl) (congrArg Prod.snd hF) (congrArg (fun z => q_oi z.1) hF.symm) (Nat.le_of_ble_eq_true rfl) (Nat.le_of_ble_eq_true rfl)
  rw [if_neg c25] at hF
  by_cases c28 : (σ 236 (a).toNatClampNeg) = 119
  · rw [if_pos c28] at hF
    refine q_tabIn (tgt := 164) C (q_dc (z := (34, .tableswitch 142 100 119 #[123, 142, 142, 142, 142, 142, 142, 142, 142, 142, 142, 114, 108, 142, 136, 94, 142, 142, 99, 130], 94, 0, 0)) tk_X9_does 25 rfl) (by rw [c28]; decide +kernel) (by rw [c28]; decide +kernel) (by rw [c28]; rfl) (by decide) ?_
    refine q_go C tk_X9_does [(50, 2)] [] (pc1 := 166) (σ1 := σ) (lv1 := [(4, .int x5), (3, .int x3), (2, .int x1), (0, .ref 229), (1, .int a)]) (st1 := [.int x1, .ref 229]) rfl trivial ?_
    refine q_callV C hfl mw_X9_draws mi_X9_draws me_X9_draws lk_X9_89 (k_X9_draws x1 σ (((((((((((hP.2 x1 e2).2 x3 e4).2 x5 e6).2.2 c7).2 c10).2 c13).2 c16).2 c19).2 c22).2 c25).1 c28).1) (rest := []) rfl rfl rfl (by decide) (by decide) rfl (q_dc (z := (166, .invokevirtual 89, 3, 0, 0)) tk_X9_does 52 rfl) (Nat.le_of_ble_eq_true rfl) ⟨Nat.le_of_ble_eq_true rfl, Nat.le_of_ble_eq_true rfl⟩ ⟨Nat.le_of_ble_eq_true rfl, Nat.le_of_ble_eq_true rfl⟩ ?_
    refine q_nrm 169 [.int (F_X9_draws x1 σ).1] 0 0 rfl rfl rfl rfl ?_
    generalize e30 : (F_X9_draws x1 σ).2 = σ29
    replace hF := q_let e30 hF
    exact q_iret C hr (q_dc (z := (169, .ireturn, 1, 0, 0)) tk_X9_does 53 rfl) (congrArg Prod.snd hF) (congrArg (fun z => q_oi z.1) hF.symm) (Nat.le_of_ble_eq_true rfl) (Nat.le_of_ble_eq_true rfl)
  rw [if_neg c28] at hF
  exact (((((((((((hP.2 x1 e2).2 x3 e4).2 x5 e6).2.2 c7).2 c10).2 c13).2 c16).2 c19).2 c22).2 c25).2 c28).elim
