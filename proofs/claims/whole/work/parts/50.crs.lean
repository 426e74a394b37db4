section
/-! ===== courses ===== -/
def coN (o : Nat) : Prop := o = 31 ∨ o = 42 ∨ o = 53 ∨ o = 65 ∨ o = 76
theorem jo_is {o : Nat} (h : coN o) : js_is 0 0 (o : Int) = true := by rcases h with rfl | rfl | rfl | rfl | rfl <;> rfl
theorem jo_rt0 {o : Nat} (h : coN o) : ((js_rt 0 o 0 : Nat) : Int) = ((o + 1 : Nat) : Int) := by rcases h with rfl | rfl | rfl | rfl | rfl <;> rfl
theorem jo_rt1 {o : Nat} (h : coN o) : ((js_rt 0 o 1 : Nat) : Int) = ((o + 2 : Nat) : Int) := by rcases h with rfl | rfl | rfl | rfl | rfl <;> rfl
theorem jo_rt2 {o : Nat} (h : coN o) : ((js_rt 0 o 2 : Nat) : Int) = ((o + 3 : Nat) : Int) := by rcases h with rfl | rfl | rfl | rfl | rfl <;> rfl
theorem jo_rt3 {o : Nat} (h : coN o) : ((js_rt 0 o 3 : Nat) : Int) = ((o + 4 : Nat) : Int) := by rcases h with rfl | rfl | rfl | rfl | rfl <;> rfl
theorem jo_rt4 {o : Nat} (h : coN o) : ((js_rt 0 o 4 : Nat) : Int) = ((o + 5 : Nat) : Int) := by rcases h with rfl | rfl | rfl | rfl | rfl <;> rfl
theorem jo_rt5 {o : Nat} (h : coN o) : ((js_rt 0 o 5 : Nat) : Int) = ((o + 6 : Nat) : Int) := by rcases h with rfl | rfl | rfl | rfl | rfl <;> rfl
theorem jo_rt6 {o : Nat} (h : coN o) : ((js_rt 0 o 6 : Nat) : Int) = ((o + 7 : Nat) : Int) := by rcases h with rfl | rfl | rfl | rfl | rfl <;> rfl
theorem jo_rt7 {o : Nat} (h : coN o) : ((js_rt 0 o 7 : Nat) : Int) = ((o + 8 : Nat) : Int) := by rcases h with rfl | rfl | rfl | rfl | rfl <;> rfl
theorem jo_rt8 {o : Nat} (h : coN o) : ((js_rt 0 o 8 : Nat) : Int) = ((o + 9 : Nat) : Int) := by rcases h with rfl | rfl | rfl | rfl | rfl <;> rfl
theorem jo_rt9 {o : Nat} (h : coN o) : ((js_rt 0 o 9 : Nat) : Int) = ((o + 10 : Nat) : Int) := by rcases h with rfl | rfl | rfl | rfl | rfl <;> rfl
theorem jo_ia1 {o : Nat} (h : coN o) : js_is 0 20 ((o + 1 : Nat) : Int) = true := by rcases h with rfl | rfl | rfl | rfl | rfl <;> rfl
theorem jo_ln1 {o : Nat} (h : coN o) : (((js_sh 0 (o + 1)).2 : Nat) : Int) = 24 := by rcases h with rfl | rfl | rfl | rfl | rfl <;> rfl
theorem jo_sh1 {o : Nat} (h : coN o) : (js_sh 0 (o + 1)).2 = 24 ∧ (js_sh 0 (o + 1)).1 = 20 := by rcases h with rfl | rfl | rfl | rfl | rfl <;> exact ⟨rfl, rfl⟩
theorem jo_in1 {o : Nat} (h : coN o) {i : Int} (h0 : 0 ≤ i) (h1 : i < 24) : js_in 0 20 ((o + 1 : Nat) : Int) i = true := by
  have e := jo_sh1 h
  simp only [js_in, Int.toNat_natCast, e.1, e.2, Bool.and_eq_true, decide_eq_true_eq]
  exact ⟨⟨⟨trivial, by omega⟩, h0⟩, h1⟩
theorem jo_ia2 {o : Nat} (h : coN o) : js_is 0 20 ((o + 2 : Nat) : Int) = true := by rcases h with rfl | rfl | rfl | rfl | rfl <;> rfl
theorem jo_ln2 {o : Nat} (h : coN o) : (((js_sh 0 (o + 2)).2 : Nat) : Int) = 24 := by rcases h with rfl | rfl | rfl | rfl | rfl <;> rfl
theorem jo_sh2 {o : Nat} (h : coN o) : (js_sh 0 (o + 2)).2 = 24 ∧ (js_sh 0 (o + 2)).1 = 20 := by rcases h with rfl | rfl | rfl | rfl | rfl <;> exact ⟨rfl, rfl⟩
theorem jo_in2 {o : Nat} (h : coN o) {i : Int} (h0 : 0 ≤ i) (h1 : i < 24) : js_in 0 20 ((o + 2 : Nat) : Int) i = true := by
  have e := jo_sh2 h
  simp only [js_in, Int.toNat_natCast, e.1, e.2, Bool.and_eq_true, decide_eq_true_eq]
  exact ⟨⟨⟨trivial, by omega⟩, h0⟩, h1⟩
theorem jo_ia3 {o : Nat} (h : coN o) : js_is 0 20 ((o + 3 : Nat) : Int) = true := by rcases h with rfl | rfl | rfl | rfl | rfl <;> rfl
theorem jo_ln3 {o : Nat} (h : coN o) : (((js_sh 0 (o + 3)).2 : Nat) : Int) = 144 := by rcases h with rfl | rfl | rfl | rfl | rfl <;> rfl
theorem jo_sh3 {o : Nat} (h : coN o) : (js_sh 0 (o + 3)).2 = 144 ∧ (js_sh 0 (o + 3)).1 = 20 := by rcases h with rfl | rfl | rfl | rfl | rfl <;> exact ⟨rfl, rfl⟩
theorem jo_in3 {o : Nat} (h : coN o) {i : Int} (h0 : 0 ≤ i) (h1 : i < 144) : js_in 0 20 ((o + 3 : Nat) : Int) i = true := by
  have e := jo_sh3 h
  simp only [js_in, Int.toNat_natCast, e.1, e.2, Bool.and_eq_true, decide_eq_true_eq]
  exact ⟨⟨⟨trivial, by omega⟩, h0⟩, h1⟩
theorem jo_ia4 {o : Nat} (h : coN o) : js_is 0 20 ((o + 4 : Nat) : Int) = true := by rcases h with rfl | rfl | rfl | rfl | rfl <;> rfl
theorem jo_ln4 {o : Nat} (h : coN o) : (((js_sh 0 (o + 4)).2 : Nat) : Int) = 144 := by rcases h with rfl | rfl | rfl | rfl | rfl <;> rfl
theorem jo_sh4 {o : Nat} (h : coN o) : (js_sh 0 (o + 4)).2 = 144 ∧ (js_sh 0 (o + 4)).1 = 20 := by rcases h with rfl | rfl | rfl | rfl | rfl <;> exact ⟨rfl, rfl⟩
theorem jo_in4 {o : Nat} (h : coN o) {i : Int} (h0 : 0 ≤ i) (h1 : i < 144) : js_in 0 20 ((o + 4 : Nat) : Int) i = true := by
  have e := jo_sh4 h
  simp only [js_in, Int.toNat_natCast, e.1, e.2, Bool.and_eq_true, decide_eq_true_eq]
  exact ⟨⟨⟨trivial, by omega⟩, h0⟩, h1⟩
theorem jo_ia5 {o : Nat} (h : coN o) : js_is 0 20 ((o + 5 : Nat) : Int) = true := by rcases h with rfl | rfl | rfl | rfl | rfl <;> rfl
theorem jo_ln5 {o : Nat} (h : coN o) : (((js_sh 0 (o + 5)).2 : Nat) : Int) = 144 := by rcases h with rfl | rfl | rfl | rfl | rfl <;> rfl
theorem jo_sh5 {o : Nat} (h : coN o) : (js_sh 0 (o + 5)).2 = 144 ∧ (js_sh 0 (o + 5)).1 = 20 := by rcases h with rfl | rfl | rfl | rfl | rfl <;> exact ⟨rfl, rfl⟩
theorem jo_in5 {o : Nat} (h : coN o) {i : Int} (h0 : 0 ≤ i) (h1 : i < 144) : js_in 0 20 ((o + 5 : Nat) : Int) i = true := by
  have e := jo_sh5 h
  simp only [js_in, Int.toNat_natCast, e.1, e.2, Bool.and_eq_true, decide_eq_true_eq]
  exact ⟨⟨⟨trivial, by omega⟩, h0⟩, h1⟩
theorem jo_ia6 {o : Nat} (h : coN o) : js_is 0 20 ((o + 6 : Nat) : Int) = true := by rcases h with rfl | rfl | rfl | rfl | rfl <;> rfl
theorem jo_ln6 {o : Nat} (h : coN o) : (((js_sh 0 (o + 6)).2 : Nat) : Int) = 144 := by rcases h with rfl | rfl | rfl | rfl | rfl <;> rfl
theorem jo_sh6 {o : Nat} (h : coN o) : (js_sh 0 (o + 6)).2 = 144 ∧ (js_sh 0 (o + 6)).1 = 20 := by rcases h with rfl | rfl | rfl | rfl | rfl <;> exact ⟨rfl, rfl⟩
theorem jo_in6 {o : Nat} (h : coN o) {i : Int} (h0 : 0 ≤ i) (h1 : i < 144) : js_in 0 20 ((o + 6 : Nat) : Int) i = true := by
  have e := jo_sh6 h
  simp only [js_in, Int.toNat_natCast, e.1, e.2, Bool.and_eq_true, decide_eq_true_eq]
  exact ⟨⟨⟨trivial, by omega⟩, h0⟩, h1⟩
theorem jo_ia7 {o : Nat} (h : coN o) : js_is 0 20 ((o + 7 : Nat) : Int) = true := by rcases h with rfl | rfl | rfl | rfl | rfl <;> rfl
theorem jo_ln7 {o : Nat} (h : coN o) : (((js_sh 0 (o + 7)).2 : Nat) : Int) = 144 := by rcases h with rfl | rfl | rfl | rfl | rfl <;> rfl
theorem jo_sh7 {o : Nat} (h : coN o) : (js_sh 0 (o + 7)).2 = 144 ∧ (js_sh 0 (o + 7)).1 = 20 := by rcases h with rfl | rfl | rfl | rfl | rfl <;> exact ⟨rfl, rfl⟩
theorem jo_in7 {o : Nat} (h : coN o) {i : Int} (h0 : 0 ≤ i) (h1 : i < 144) : js_in 0 20 ((o + 7 : Nat) : Int) i = true := by
  have e := jo_sh7 h
  simp only [js_in, Int.toNat_natCast, e.1, e.2, Bool.and_eq_true, decide_eq_true_eq]
  exact ⟨⟨⟨trivial, by omega⟩, h0⟩, h1⟩
theorem jo_ia8 {o : Nat} (h : coN o) : js_is 0 20 ((o + 8 : Nat) : Int) = true := by rcases h with rfl | rfl | rfl | rfl | rfl <;> rfl
theorem jo_ln8 {o : Nat} (h : coN o) : (((js_sh 0 (o + 8)).2 : Nat) : Int) = 40 := by rcases h with rfl | rfl | rfl | rfl | rfl <;> rfl
theorem jo_sh8 {o : Nat} (h : coN o) : (js_sh 0 (o + 8)).2 = 40 ∧ (js_sh 0 (o + 8)).1 = 20 := by rcases h with rfl | rfl | rfl | rfl | rfl <;> exact ⟨rfl, rfl⟩
theorem jo_in8 {o : Nat} (h : coN o) {i : Int} (h0 : 0 ≤ i) (h1 : i < 40) : js_in 0 20 ((o + 8 : Nat) : Int) i = true := by
  have e := jo_sh8 h
  simp only [js_in, Int.toNat_natCast, e.1, e.2, Bool.and_eq_true, decide_eq_true_eq]
  exact ⟨⟨⟨trivial, by omega⟩, h0⟩, h1⟩
theorem jo_ia9 {o : Nat} (h : coN o) : js_is 0 20 ((o + 9 : Nat) : Int) = true := by rcases h with rfl | rfl | rfl | rfl | rfl <;> rfl
theorem jo_ln9 {o : Nat} (h : coN o) : (((js_sh 0 (o + 9)).2 : Nat) : Int) = 40 := by rcases h with rfl | rfl | rfl | rfl | rfl <;> rfl
theorem jo_sh9 {o : Nat} (h : coN o) : (js_sh 0 (o + 9)).2 = 40 ∧ (js_sh 0 (o + 9)).1 = 20 := by rcases h with rfl | rfl | rfl | rfl | rfl <;> exact ⟨rfl, rfl⟩
theorem jo_in9 {o : Nat} (h : coN o) {i : Int} (h0 : 0 ≤ i) (h1 : i < 40) : js_in 0 20 ((o + 9 : Nat) : Int) i = true := by
  have e := jo_sh9 h
  simp only [js_in, Int.toNat_natCast, e.1, e.2, Bool.and_eq_true, decide_eq_true_eq]
  exact ⟨⟨⟨trivial, by omega⟩, h0⟩, h1⟩
theorem jo_ia10 {o : Nat} (h : coN o) : js_is 0 20 ((o + 10 : Nat) : Int) = true := by rcases h with rfl | rfl | rfl | rfl | rfl <;> rfl
theorem jo_ln10 {o : Nat} (h : coN o) : (((js_sh 0 (o + 10)).2 : Nat) : Int) = 40 := by rcases h with rfl | rfl | rfl | rfl | rfl <;> rfl
theorem jo_sh10 {o : Nat} (h : coN o) : (js_sh 0 (o + 10)).2 = 40 ∧ (js_sh 0 (o + 10)).1 = 20 := by rcases h with rfl | rfl | rfl | rfl | rfl <;> exact ⟨rfl, rfl⟩
theorem jo_in10 {o : Nat} (h : coN o) {i : Int} (h0 : 0 ≤ i) (h1 : i < 40) : js_in 0 20 ((o + 10 : Nat) : Int) i = true := by
  have e := jo_sh10 h
  simp only [js_in, Int.toNat_natCast, e.1, e.2, Bool.and_eq_true, decide_eq_true_eq]
  exact ⟨⟨⟨trivial, by omega⟩, h0⟩, h1⟩
end
section
theorem vC_has {o p s : Nat} (ho : coN o) (w : js_Mm) (hp : p < 24) (hs : s < 31) (hh : 0 ≤ w (o + 1) p ∧ w (o + 1) p < 64) : f_X0_has [(o : Int), (p : Int), (s : Int)] w = some (if jb (w (o + 1) p) s = true then 1 else 0, w) := by
  have hb := jz_bit (x := w (o + 1) p) (k := (s : Int)) (by omega) (by omega)
  rw [fe_X0_has]; simp -implicitDefEqProofs (disch := omega) only [jv_g0, jv_gs, jv_b, jv_bl, jv_bcT, jv_bcF, jv_bcD, jv_bcI, jv_bI, jv_bs0, jv_bs1, jv_bsI, jv_k, jv_l, jv_1, jv_1e, jv_2, jv_2ke, jv_2e, jv_d, jv_dke, jv_de, jv_gf, jv_gfe, jv_gr, jv_gre, jv_al, jv_alke, jv_ale, jv_aa, jv_aake, jv_aae, jv_ln, jv_lne, jv_as0, jv_as1, jv_aske, jv_asje, jv_cv, jv_cve, jv_cs, jv_cp, jv_cpke, jv_cpe, jv_cz, jv_cze, jv_tte, jv_ffe, jv_ca, jv_co, jv_cn, jv_lt, jv_le, jv_gt, jv_ge, jv_eq, jv_ne, jv_q, jv_sk, jv_s1, jv_s1e, jv_s2, jv_s2e, jv_ii, jv_pf, jv_pfke, jv_pfe, jv_pa, jv_pale, jv_pake, jv_paje, jv_paf20, jv_paf21, jv_paf22, jv_paf23, jv_fit1, jv_fit2, jv_fit0, jv_fit5, jv_of, jv_ofke, jv_ofje, jv_oa, jv_oale, jv_oake, jv_oaje, jv_ex, jv_exe, jv_sq, jv_if, jv_bk, jv_bke, jv_rv, jv_rve, jv_r0, jv_sw, jv_swe, jv_pk0, jv_pk1, jv_me, jv_oute, jv_outI, jt_ft0_10, jt_ft0_11, jt_ft0_12, jt_ft0_13, jt_ft0_14, jt_ft1_0, jt_ft2_3, jt_ft2_4, jt_ft2_5, jt_ft2_6, jt_ft3_0, jt_ft4_5, jt_ft4_6, jt_ft5_0, jt_ft5_1, jt_ft7_1, jt_ft7_2, jt_ft7_3, jt_ft7_4, jt_ft7_5, jt_ft7_6, jt_ft7_7, jt_ft8_0, jt_ft8_1, jt_ft8_2, jt_ft9_2, jt_ft10_15, jt_ft11_2, jt_ft11_3, jt_ft11_19, jt_ft11_20, jt_ft11_21, jt_ft11_22, jt_ft11_23, jt_ft11_24, jt_ft11_26, jt_ft11_28, jt_ft11_36, jt_ft11_38, jt_ft11_39, jt_ft11_40, js_u_same, js_u_other, jz_add, jz_sub, jz_mul, jz_div, jz_rem, jz_ladd, jz_lsub, jz_lmul, jz_ldiv, jz_lrem, jz_i2l, jz_l2i, List.set_cons_zero, List.set_cons_succ, Int.reduceToNat, Bool.and_true, Bool.true_and, Bool.and_eq_true, decide_eq_true_eq, if_true, if_false, reduceIte, Nat.reduceEqDiff, Nat.reduceSub, Nat.reduceAdd, Int.reduceLT, Int.reduceLE, Int.reduceNeg, Int.reduceEq, Int.reduceAdd, Int.reduceSub, Int.reduceMul, not_true_eq_false, not_false_eq_true, and_true, true_and, and_false, false_and, decide_true, decide_false, Nat.reduceEqDiff, reduceCtorEq, jv_tr0, jv_trs, jv_trn, jv_blI, jt_is0_0, jt_is0_1, jt_ia0_2, jt_is0_3, jt_ia0_4, jt_ia0_5, jt_ia0_6, jt_ia0_7, jt_ia0_8, jt_ia0_9, jt_is0_10, jt_ia0_11, jt_ia0_12, jt_ia0_13, jt_ia0_14, jt_ia0_15, jt_ia0_16, jt_is0_17, jt_ia0_18, jt_ia0_19, jt_ia0_20, jt_ia0_21, jt_ia0_22, jt_is0_23, jt_ia0_24, jt_ia0_25, jt_ia0_26, jt_ia0_27, jt_ia0_28, jt_is0_29, jt_is0_30, jt_is0_31, jt_ia0_32, jt_ia0_33, jt_ia0_34, jt_ia0_35, jt_ia0_36, jt_ia0_37, jt_ia0_38, jt_ia0_39, jt_ia0_40, jt_ia0_41, jt_is0_42, jt_ia0_43, jt_ia0_44, jt_ia0_45, jt_ia0_46, jt_ia0_47, jt_ia0_48, jt_ia0_49, jt_ia0_50, jt_ia0_51, jt_ia0_52, jt_is0_53, jt_ia0_54, jt_ia0_55, jt_ia0_56, jt_ia0_57, jt_ia0_58, jt_ia0_59, jt_ia0_60, jt_ia0_61, jt_ia0_62, jt_ia0_63, jt_is0_65, jt_ia0_66, jt_ia0_67, jt_ia0_68, jt_ia0_69, jt_ia0_70, jt_ia0_71, jt_ia0_72, jt_ia0_73, jt_ia0_74, jt_ia0_75, jt_is0_76, jt_ia0_77, jt_ia0_78, jt_ia0_79, jt_ia0_80, jt_ia0_81, jt_ia0_82, jt_ia0_83, jt_ia0_84, jt_ia0_85, jt_ia0_86, jt_is0_87, jt_ia0_88, jt_is0_89, jt_ia0_90, jt_ia0_91, jt_is0_92, jt_ia0_93, jt_ia0_94, jt_ia0_95, jt_ia0_96, jt_is0_97, jt_ia0_98, jt_ia0_99, jt_ia0_100, jt_rt0_0_0, jt_rt0_0_1, jt_rt0_0_2, jt_rt0_0_3, jt_rt0_0_4, jt_rt0_0_5, jt_rt0_0_6, jt_rt0_0_7, jt_rt0_0_8, jt_rt0_0_9, jt_rt0_0_10, jt_rt0_0_11, jt_rt0_0_12, jt_rt0_0_13, jt_rt0_0_14, jt_rt0_1_0, jt_rt0_3_3, jt_rt0_3_4, jt_rt0_3_5, jt_rt0_3_6, jt_rt0_3_7, jt_rt0_3_8, jt_rt0_10_3, jt_rt0_10_4, jt_rt0_10_5, jt_rt0_10_6, jt_rt0_10_7, jt_rt0_10_8, jt_rt0_17_1, jt_rt0_17_2, jt_rt0_17_3, jt_rt0_17_4, jt_rt0_17_5, jt_rt0_23_1, jt_rt0_23_2, jt_rt0_23_3, jt_rt0_23_4, jt_rt0_23_5, jt_rt0_30_0, jt_rt0_30_1, jt_rt0_30_2, jt_rt0_31_0, jt_rt0_31_1, jt_rt0_31_2, jt_rt0_31_3, jt_rt0_31_4, jt_rt0_31_5, jt_rt0_31_6, jt_rt0_31_7, jt_rt0_31_8, jt_rt0_31_9, jt_rt0_42_0, jt_rt0_42_1, jt_rt0_42_2, jt_rt0_42_3, jt_rt0_42_4, jt_rt0_42_5, jt_rt0_42_6, jt_rt0_42_7, jt_rt0_42_8, jt_rt0_42_9, jt_rt0_53_0, jt_rt0_53_1, jt_rt0_53_2, jt_rt0_53_3, jt_rt0_53_4, jt_rt0_53_5, jt_rt0_53_6, jt_rt0_53_7, jt_rt0_53_8, jt_rt0_53_9, jt_rt0_64_0, jt_rt0_64_1, jt_rt0_65_0, jt_rt0_65_1, jt_rt0_65_2, jt_rt0_65_3, jt_rt0_65_4, jt_rt0_65_5, jt_rt0_65_6, jt_rt0_65_7, jt_rt0_65_8, jt_rt0_65_9, jt_rt0_76_0, jt_rt0_76_1, jt_rt0_76_2, jt_rt0_76_3, jt_rt0_76_4, jt_rt0_76_5, jt_rt0_76_6, jt_rt0_76_7, jt_rt0_76_8, jt_rt0_76_9, jt_rt0_87_0, jt_rt0_87_1, jt_rt0_89_1, jt_rt0_89_2, jt_rt0_92_0, jt_rt0_92_1, jt_rt0_92_2, jt_rt0_92_3, jt_rt0_92_4, jt_rt0_97_0, jt_rt0_97_1, jt_rt0_97_2, jt_in0_2, jt_in0_4, jt_in0_5, jt_in0_6, jt_in0_7, jt_in0_8, jt_in0_9, jt_in0_11, jt_in0_12, jt_in0_13, jt_in0_14, jt_in0_15, jt_in0_16, jt_in0_18, jt_in0_19, jt_in0_20, jt_in0_21, jt_in0_22, jt_in0_24, jt_in0_25, jt_in0_26, jt_in0_27, jt_in0_28, jt_in0_32, jt_in0_33, jt_in0_34, jt_in0_35, jt_in0_36, jt_in0_37, jt_in0_38, jt_in0_39, jt_in0_40, jt_in0_41, jt_in0_43, jt_in0_44, jt_in0_45, jt_in0_46, jt_in0_47, jt_in0_48, jt_in0_49, jt_in0_50, jt_in0_51, jt_in0_52, jt_in0_54, jt_in0_55, jt_in0_56, jt_in0_57, jt_in0_58, jt_in0_59, jt_in0_60, jt_in0_61, jt_in0_62, jt_in0_63, jt_in0_64, jt_in0_66, jt_in0_67, jt_in0_68, jt_in0_69, jt_in0_70, jt_in0_71, jt_in0_72, jt_in0_73, jt_in0_74, jt_in0_75, jt_in0_77, jt_in0_78, jt_in0_79, jt_in0_80, jt_in0_81, jt_in0_82, jt_in0_83, jt_in0_84, jt_in0_85, jt_in0_86, jt_in0_88, jt_in0_90, jt_in0_91, jt_in0_93, jt_in0_94, jt_in0_95, jt_in0_96, jt_in0_98, jt_in0_99, jt_in0_100, jt_ln0_2, jt_ln0_4, jt_ln0_5, jt_ln0_6, jt_ln0_7, jt_ln0_8, jt_ln0_9, jt_ln0_11, jt_ln0_12, jt_ln0_13, jt_ln0_14, jt_ln0_15, jt_ln0_16, jt_ln0_18, jt_ln0_19, jt_ln0_20, jt_ln0_21, jt_ln0_22, jt_ln0_24, jt_ln0_25, jt_ln0_26, jt_ln0_27, jt_ln0_28, jt_ln0_32, jt_ln0_33, jt_ln0_34, jt_ln0_35, jt_ln0_36, jt_ln0_37, jt_ln0_38, jt_ln0_39, jt_ln0_40, jt_ln0_41, jt_ln0_43, jt_ln0_44, jt_ln0_45, jt_ln0_46, jt_ln0_47, jt_ln0_48, jt_ln0_49, jt_ln0_50, jt_ln0_51, jt_ln0_52, jt_ln0_54, jt_ln0_55, jt_ln0_56, jt_ln0_57, jt_ln0_58, jt_ln0_59, jt_ln0_60, jt_ln0_61, jt_ln0_62, jt_ln0_63, jt_ln0_66, jt_ln0_67, jt_ln0_68, jt_ln0_69, jt_ln0_70, jt_ln0_71, jt_ln0_72, jt_ln0_73, jt_ln0_74, jt_ln0_75, jt_ln0_77, jt_ln0_78, jt_ln0_79, jt_ln0_80, jt_ln0_81, jt_ln0_82, jt_ln0_83, jt_ln0_84, jt_ln0_85, jt_ln0_86, jt_ln0_88, jt_ln0_90, jt_ln0_91, jt_ln0_93, jt_ln0_94, jt_ln0_95, jt_ln0_96, jt_ln0_98, jt_ln0_99, jt_ln0_100, Int.toNat_natCast, jo_is ho, jo_rt0 ho, jo_in1 ho, hb]
  by_cases h1 : jb (w (o + 1) p) s = true <;> simp [h1]
theorem vM_cell {p s : Nat} (w : js_Mm) (hp : p < 24) (hs : s < 6) : f_X11_cell [(p : Int), (s : Int)] w = some (((6 * p + s : Nat) : Int), w) := by
  rw [fe_X11_cell]; simp -implicitDefEqProofs (disch := omega) only [jv_g0, jv_gs, jv_b, jv_bl, jv_bcT, jv_bcF, jv_bcD, jv_bcI, jv_bI, jv_bs0, jv_bs1, jv_bsI, jv_k, jv_l, jv_1, jv_1e, jv_2, jv_2ke, jv_2e, jv_d, jv_dke, jv_de, jv_gf, jv_gfe, jv_gr, jv_gre, jv_al, jv_alke, jv_ale, jv_aa, jv_aake, jv_aae, jv_ln, jv_lne, jv_as0, jv_as1, jv_aske, jv_asje, jv_cv, jv_cve, jv_cs, jv_cp, jv_cpke, jv_cpe, jv_cz, jv_cze, jv_tte, jv_ffe, jv_ca, jv_co, jv_cn, jv_lt, jv_le, jv_gt, jv_ge, jv_eq, jv_ne, jv_q, jv_sk, jv_s1, jv_s1e, jv_s2, jv_s2e, jv_ii, jv_pf, jv_pfke, jv_pfe, jv_pa, jv_pale, jv_pake, jv_paje, jv_paf20, jv_paf21, jv_paf22, jv_paf23, jv_fit1, jv_fit2, jv_fit0, jv_fit5, jv_of, jv_ofke, jv_ofje, jv_oa, jv_oale, jv_oake, jv_oaje, jv_ex, jv_exe, jv_sq, jv_if, jv_bk, jv_bke, jv_rv, jv_rve, jv_r0, jv_sw, jv_swe, jv_pk0, jv_pk1, jv_me, jv_oute, jv_outI, jt_ft0_10, jt_ft0_11, jt_ft0_12, jt_ft0_13, jt_ft0_14, jt_ft1_0, jt_ft2_3, jt_ft2_4, jt_ft2_5, jt_ft2_6, jt_ft3_0, jt_ft4_5, jt_ft4_6, jt_ft5_0, jt_ft5_1, jt_ft7_1, jt_ft7_2, jt_ft7_3, jt_ft7_4, jt_ft7_5, jt_ft7_6, jt_ft7_7, jt_ft8_0, jt_ft8_1, jt_ft8_2, jt_ft9_2, jt_ft10_15, jt_ft11_2, jt_ft11_3, jt_ft11_19, jt_ft11_20, jt_ft11_21, jt_ft11_22, jt_ft11_23, jt_ft11_24, jt_ft11_26, jt_ft11_28, jt_ft11_36, jt_ft11_38, jt_ft11_39, jt_ft11_40, js_u_same, js_u_other, jz_add, jz_sub, jz_mul, jz_div, jz_rem, jz_ladd, jz_lsub, jz_lmul, jz_ldiv, jz_lrem, jz_i2l, jz_l2i, List.set_cons_zero, List.set_cons_succ, Int.reduceToNat, Bool.and_true, Bool.true_and, Bool.and_eq_true, decide_eq_true_eq, if_true, if_false, reduceIte, Nat.reduceEqDiff, Nat.reduceSub, Nat.reduceAdd, Int.reduceLT, Int.reduceLE, Int.reduceNeg, Int.reduceEq, Int.reduceAdd, Int.reduceSub, Int.reduceMul, not_true_eq_false, not_false_eq_true, and_true, true_and, and_false, false_and, decide_true, decide_false, Nat.reduceEqDiff, reduceCtorEq, jv_tr0, jv_trs, jv_trn, jv_blI, jt_is1_0, jt_ia1_1, jt_ia1_2, jt_ia1_3, jt_ia1_4, jt_ia1_5, jt_ia1_6, jt_ia1_7, jt_ia1_8, jt_ia1_9, jt_ia1_10, jt_ia1_11, jt_ia1_12, jt_ia1_13, jt_ia1_14, jt_ia1_15, jt_ia1_16, jt_ia1_17, jt_ia1_18, jt_ia1_19, jt_ia1_20, jt_ia1_21, jt_ia1_22, jt_ia1_23, jt_ia1_24, jt_ia1_25, jt_ia1_26, jt_ia1_27, jt_rt1_0_0, jt_rt1_0_1, jt_rt1_0_4, jt_rt1_0_5, jt_rt1_0_6, jt_rt1_0_7, jt_rt1_0_8, jt_rt1_0_9, jt_rt1_0_10, jt_rt1_0_11, jt_rt1_0_12, jt_rt1_0_13, jt_rt1_0_14, jt_rt1_0_15, jt_rt1_0_16, jt_rt1_0_17, jt_rt1_0_18, jt_rt1_0_25, jt_rt1_0_27, jt_rt1_0_29, jt_rt1_0_30, jt_rt1_0_31, jt_rt1_0_32, jt_rt1_0_33, jt_rt1_0_34, jt_rt1_0_35, jt_rt1_0_37, jt_in1_1, jt_in1_2, jt_in1_3, jt_in1_4, jt_in1_5, jt_in1_6, jt_in1_7, jt_in1_8, jt_in1_9, jt_in1_10, jt_in1_11, jt_in1_12, jt_in1_13, jt_in1_14, jt_in1_15, jt_in1_16, jt_in1_17, jt_in1_18, jt_in1_19, jt_in1_20, jt_in1_21, jt_in1_22, jt_in1_23, jt_in1_24, jt_in1_25, jt_in1_26, jt_in1_27, jt_ln1_1, jt_ln1_2, jt_ln1_3, jt_ln1_4, jt_ln1_5, jt_ln1_6, jt_ln1_7, jt_ln1_8, jt_ln1_9, jt_ln1_10, jt_ln1_11, jt_ln1_12, jt_ln1_13, jt_ln1_14, jt_ln1_15, jt_ln1_16, jt_ln1_17, jt_ln1_18, jt_ln1_19, jt_ln1_20, jt_ln1_21, jt_ln1_22, jt_ln1_23, jt_ln1_24, jt_ln1_25, jt_ln1_26, jt_ln1_27]
  have : (6 * (p : Int) + (s : Int)) = ((6 * p + s : Nat) : Int) := by omega
  rw [this]
theorem vM_isHeld {x p s : Nat} (w : js_Mm) (hx : x ≤ 3000) (hp : p < 24) (hs : s < 6) : f_X11_isHeld [0, (x : Int), (p : Int), (s : Int)] w = some (if 0 < w 1 (x + (6 * p + s)) then 1 else 0, w) := by
  have e : ((x : Int) + 0 + ((6 * p + s : Nat) : Int)).toNat = x + (6 * p + s) := by omega
  rw [fe_X11_isHeld]; simp -implicitDefEqProofs (disch := omega) only [jv_g0, jv_gs, jv_b, jv_bl, jv_bcT, jv_bcF, jv_bcD, jv_bcI, jv_bI, jv_bs0, jv_bs1, jv_bsI, jv_k, jv_l, jv_1, jv_1e, jv_2, jv_2ke, jv_2e, jv_d, jv_dke, jv_de, jv_gf, jv_gfe, jv_gr, jv_gre, jv_al, jv_alke, jv_ale, jv_aa, jv_aake, jv_aae, jv_ln, jv_lne, jv_as0, jv_as1, jv_aske, jv_asje, jv_cv, jv_cve, jv_cs, jv_cp, jv_cpke, jv_cpe, jv_cz, jv_cze, jv_tte, jv_ffe, jv_ca, jv_co, jv_cn, jv_lt, jv_le, jv_gt, jv_ge, jv_eq, jv_ne, jv_q, jv_sk, jv_s1, jv_s1e, jv_s2, jv_s2e, jv_ii, jv_pf, jv_pfke, jv_pfe, jv_pa, jv_pale, jv_pake, jv_paje, jv_paf20, jv_paf21, jv_paf22, jv_paf23, jv_fit1, jv_fit2, jv_fit0, jv_fit5, jv_of, jv_ofke, jv_ofje, jv_oa, jv_oale, jv_oake, jv_oaje, jv_ex, jv_exe, jv_sq, jv_if, jv_bk, jv_bke, jv_rv, jv_rve, jv_r0, jv_sw, jv_swe, jv_pk0, jv_pk1, jv_me, jv_oute, jv_outI, jt_ft0_10, jt_ft0_11, jt_ft0_12, jt_ft0_13, jt_ft0_14, jt_ft1_0, jt_ft2_3, jt_ft2_4, jt_ft2_5, jt_ft2_6, jt_ft3_0, jt_ft4_5, jt_ft4_6, jt_ft5_0, jt_ft5_1, jt_ft7_1, jt_ft7_2, jt_ft7_3, jt_ft7_4, jt_ft7_5, jt_ft7_6, jt_ft7_7, jt_ft8_0, jt_ft8_1, jt_ft8_2, jt_ft9_2, jt_ft10_15, jt_ft11_2, jt_ft11_3, jt_ft11_19, jt_ft11_20, jt_ft11_21, jt_ft11_22, jt_ft11_23, jt_ft11_24, jt_ft11_26, jt_ft11_28, jt_ft11_36, jt_ft11_38, jt_ft11_39, jt_ft11_40, js_u_same, js_u_other, jz_add, jz_sub, jz_mul, jz_div, jz_rem, jz_ladd, jz_lsub, jz_lmul, jz_ldiv, jz_lrem, jz_i2l, jz_l2i, List.set_cons_zero, List.set_cons_succ, Int.reduceToNat, Bool.and_true, Bool.true_and, Bool.and_eq_true, decide_eq_true_eq, if_true, if_false, reduceIte, Nat.reduceEqDiff, Nat.reduceSub, Nat.reduceAdd, Int.reduceLT, Int.reduceLE, Int.reduceNeg, Int.reduceEq, Int.reduceAdd, Int.reduceSub, Int.reduceMul, not_true_eq_false, not_false_eq_true, and_true, true_and, and_false, false_and, decide_true, decide_false, Nat.reduceEqDiff, reduceCtorEq, jv_tr0, jv_trs, jv_trn, jv_blI, jt_is1_0, jt_ia1_1, jt_ia1_2, jt_ia1_3, jt_ia1_4, jt_ia1_5, jt_ia1_6, jt_ia1_7, jt_ia1_8, jt_ia1_9, jt_ia1_10, jt_ia1_11, jt_ia1_12, jt_ia1_13, jt_ia1_14, jt_ia1_15, jt_ia1_16, jt_ia1_17, jt_ia1_18, jt_ia1_19, jt_ia1_20, jt_ia1_21, jt_ia1_22, jt_ia1_23, jt_ia1_24, jt_ia1_25, jt_ia1_26, jt_ia1_27, jt_rt1_0_0, jt_rt1_0_1, jt_rt1_0_4, jt_rt1_0_5, jt_rt1_0_6, jt_rt1_0_7, jt_rt1_0_8, jt_rt1_0_9, jt_rt1_0_10, jt_rt1_0_11, jt_rt1_0_12, jt_rt1_0_13, jt_rt1_0_14, jt_rt1_0_15, jt_rt1_0_16, jt_rt1_0_17, jt_rt1_0_18, jt_rt1_0_25, jt_rt1_0_27, jt_rt1_0_29, jt_rt1_0_30, jt_rt1_0_31, jt_rt1_0_32, jt_rt1_0_33, jt_rt1_0_34, jt_rt1_0_35, jt_rt1_0_37, jt_in1_1, jt_in1_2, jt_in1_3, jt_in1_4, jt_in1_5, jt_in1_6, jt_in1_7, jt_in1_8, jt_in1_9, jt_in1_10, jt_in1_11, jt_in1_12, jt_in1_13, jt_in1_14, jt_in1_15, jt_in1_16, jt_in1_17, jt_in1_18, jt_in1_19, jt_in1_20, jt_in1_21, jt_in1_22, jt_in1_23, jt_in1_24, jt_in1_25, jt_in1_26, jt_in1_27, jt_ln1_1, jt_ln1_2, jt_ln1_3, jt_ln1_4, jt_ln1_5, jt_ln1_6, jt_ln1_7, jt_ln1_8, jt_ln1_9, jt_ln1_10, jt_ln1_11, jt_ln1_12, jt_ln1_13, jt_ln1_14, jt_ln1_15, jt_ln1_16, jt_ln1_17, jt_ln1_18, jt_ln1_19, jt_ln1_20, jt_ln1_21, jt_ln1_22, jt_ln1_23, jt_ln1_24, jt_ln1_25, jt_ln1_26, jt_ln1_27, vM_cell, e]
  by_cases h1 : 0 < w 1 (x + (6 * p + s)) <;> simp [h1]
/-- held in the row: held in the course -/
theorem rCe_held {o x : Nat} {μ ν : js_Mm} {p s : Nat} (h : rCe o x μ ν p s) : (0 < ν 1 (x + (6 * p + s))) ↔ jb (μ (o + 1) p) s = true := by
  rw [h.1]
  by_cases h1 : jb (μ (o + 1) p) s = true
  · by_cases h2 : jb (μ (o + 2) p) s = true <;> simp [h1, h2]
  · simp [h1]
/-- one comes to hold a saying -/
def tkC (o p s : Nat) (f a : Int) (μ : js_Mm) : js_Mm := js_u (js_u (js_u (js_u (js_u μ (o + 1) p (jset (μ (o + 1) p) s)) (o + 2) p (jset (μ (o + 2) p) s)) (o + 3) (6 * p + s) f) (o + 4) (6 * p + s) a) (o + 5) (6 * p + s) (μ o 11)
def tkM (x p s : Nat) (f a : Int) (ν : js_Mm) : js_Mm := js_u (js_u (js_u (js_u ν 1 (x + (6 * p + s)) 1) 1 (x + 144 + (6 * p + s)) f) 1 (x + 288 + (6 * p + s)) (ν 1 (x + 864))) 1 (x + 720 + (6 * p + s)) a
theorem vC_take {o p s : Nat} {f a : Int} (ho : coN o) (w : js_Mm) (hp : p < 24) (hs : s < 6) (hh : (0 ≤ w (o + 1) p ∧ w (o + 1) p < 64) ∧ (0 ≤ w (o + 2) p ∧ w (o + 2) p < 64)) : f_X0_take [(o : Int), (p : Int), (s : Int), f, a] w = some (0, tkC o p s f a w) := by
  have h1 := jz_set (x := w (o + 1) p) (p := (s : Int)) (by omega) (by omega)
  have h2 := jz_set (x := w (o + 2) p) (p := (s : Int)) (by omega) (by omega)
  have e : ((p : Int) * 6 + (s : Int)).toNat = 6 * p + s := by omega
  rw [fe_X0_take]; simp -implicitDefEqProofs (disch := omega) only [jv_g0, jv_gs, jv_b, jv_bl, jv_bcT, jv_bcF, jv_bcD, jv_bcI, jv_bI, jv_bs0, jv_bs1, jv_bsI, jv_k, jv_l, jv_1, jv_1e, jv_2, jv_2ke, jv_2e, jv_d, jv_dke, jv_de, jv_gf, jv_gfe, jv_gr, jv_gre, jv_al, jv_alke, jv_ale, jv_aa, jv_aake, jv_aae, jv_ln, jv_lne, jv_as0, jv_as1, jv_aske, jv_asje, jv_cv, jv_cve, jv_cs, jv_cp, jv_cpke, jv_cpe, jv_cz, jv_cze, jv_tte, jv_ffe, jv_ca, jv_co, jv_cn, jv_lt, jv_le, jv_gt, jv_ge, jv_eq, jv_ne, jv_q, jv_sk, jv_s1, jv_s1e, jv_s2, jv_s2e, jv_ii, jv_pf, jv_pfke, jv_pfe, jv_pa, jv_pale, jv_pake, jv_paje, jv_paf20, jv_paf21, jv_paf22, jv_paf23, jv_fit1, jv_fit2, jv_fit0, jv_fit5, jv_of, jv_ofke, jv_ofje, jv_oa, jv_oale, jv_oake, jv_oaje, jv_ex, jv_exe, jv_sq, jv_if, jv_bk, jv_bke, jv_rv, jv_rve, jv_r0, jv_sw, jv_swe, jv_pk0, jv_pk1, jv_me, jv_oute, jv_outI, jt_ft0_10, jt_ft0_11, jt_ft0_12, jt_ft0_13, jt_ft0_14, jt_ft1_0, jt_ft2_3, jt_ft2_4, jt_ft2_5, jt_ft2_6, jt_ft3_0, jt_ft4_5, jt_ft4_6, jt_ft5_0, jt_ft5_1, jt_ft7_1, jt_ft7_2, jt_ft7_3, jt_ft7_4, jt_ft7_5, jt_ft7_6, jt_ft7_7, jt_ft8_0, jt_ft8_1, jt_ft8_2, jt_ft9_2, jt_ft10_15, jt_ft11_2, jt_ft11_3, jt_ft11_19, jt_ft11_20, jt_ft11_21, jt_ft11_22, jt_ft11_23, jt_ft11_24, jt_ft11_26, jt_ft11_28, jt_ft11_36, jt_ft11_38, jt_ft11_39, jt_ft11_40, js_u_same, js_u_other, jz_add, jz_sub, jz_mul, jz_div, jz_rem, jz_ladd, jz_lsub, jz_lmul, jz_ldiv, jz_lrem, jz_i2l, jz_l2i, List.set_cons_zero, List.set_cons_succ, Int.reduceToNat, Bool.and_true, Bool.true_and, Bool.and_eq_true, decide_eq_true_eq, if_true, if_false, reduceIte, Nat.reduceEqDiff, Nat.reduceSub, Nat.reduceAdd, Int.reduceLT, Int.reduceLE, Int.reduceNeg, Int.reduceEq, Int.reduceAdd, Int.reduceSub, Int.reduceMul, not_true_eq_false, not_false_eq_true, and_true, true_and, and_false, false_and, decide_true, decide_false, Nat.reduceEqDiff, reduceCtorEq, jv_tr0, jv_trs, jv_trn, jv_blI, jt_is0_0, jt_is0_1, jt_ia0_2, jt_is0_3, jt_ia0_4, jt_ia0_5, jt_ia0_6, jt_ia0_7, jt_ia0_8, jt_ia0_9, jt_is0_10, jt_ia0_11, jt_ia0_12, jt_ia0_13, jt_ia0_14, jt_ia0_15, jt_ia0_16, jt_is0_17, jt_ia0_18, jt_ia0_19, jt_ia0_20, jt_ia0_21, jt_ia0_22, jt_is0_23, jt_ia0_24, jt_ia0_25, jt_ia0_26, jt_ia0_27, jt_ia0_28, jt_is0_29, jt_is0_30, jt_is0_31, jt_ia0_32, jt_ia0_33, jt_ia0_34, jt_ia0_35, jt_ia0_36, jt_ia0_37, jt_ia0_38, jt_ia0_39, jt_ia0_40, jt_ia0_41, jt_is0_42, jt_ia0_43, jt_ia0_44, jt_ia0_45, jt_ia0_46, jt_ia0_47, jt_ia0_48, jt_ia0_49, jt_ia0_50, jt_ia0_51, jt_ia0_52, jt_is0_53, jt_ia0_54, jt_ia0_55, jt_ia0_56, jt_ia0_57, jt_ia0_58, jt_ia0_59, jt_ia0_60, jt_ia0_61, jt_ia0_62, jt_ia0_63, jt_is0_65, jt_ia0_66, jt_ia0_67, jt_ia0_68, jt_ia0_69, jt_ia0_70, jt_ia0_71, jt_ia0_72, jt_ia0_73, jt_ia0_74, jt_ia0_75, jt_is0_76, jt_ia0_77, jt_ia0_78, jt_ia0_79, jt_ia0_80, jt_ia0_81, jt_ia0_82, jt_ia0_83, jt_ia0_84, jt_ia0_85, jt_ia0_86, jt_is0_87, jt_ia0_88, jt_is0_89, jt_ia0_90, jt_ia0_91, jt_is0_92, jt_ia0_93, jt_ia0_94, jt_ia0_95, jt_ia0_96, jt_is0_97, jt_ia0_98, jt_ia0_99, jt_ia0_100, jt_rt0_0_0, jt_rt0_0_1, jt_rt0_0_2, jt_rt0_0_3, jt_rt0_0_4, jt_rt0_0_5, jt_rt0_0_6, jt_rt0_0_7, jt_rt0_0_8, jt_rt0_0_9, jt_rt0_0_10, jt_rt0_0_11, jt_rt0_0_12, jt_rt0_0_13, jt_rt0_0_14, jt_rt0_1_0, jt_rt0_3_3, jt_rt0_3_4, jt_rt0_3_5, jt_rt0_3_6, jt_rt0_3_7, jt_rt0_3_8, jt_rt0_10_3, jt_rt0_10_4, jt_rt0_10_5, jt_rt0_10_6, jt_rt0_10_7, jt_rt0_10_8, jt_rt0_17_1, jt_rt0_17_2, jt_rt0_17_3, jt_rt0_17_4, jt_rt0_17_5, jt_rt0_23_1, jt_rt0_23_2, jt_rt0_23_3, jt_rt0_23_4, jt_rt0_23_5, jt_rt0_30_0, jt_rt0_30_1, jt_rt0_30_2, jt_rt0_31_0, jt_rt0_31_1, jt_rt0_31_2, jt_rt0_31_3, jt_rt0_31_4, jt_rt0_31_5, jt_rt0_31_6, jt_rt0_31_7, jt_rt0_31_8, jt_rt0_31_9, jt_rt0_42_0, jt_rt0_42_1, jt_rt0_42_2, jt_rt0_42_3, jt_rt0_42_4, jt_rt0_42_5, jt_rt0_42_6, jt_rt0_42_7, jt_rt0_42_8, jt_rt0_42_9, jt_rt0_53_0, jt_rt0_53_1, jt_rt0_53_2, jt_rt0_53_3, jt_rt0_53_4, jt_rt0_53_5, jt_rt0_53_6, jt_rt0_53_7, jt_rt0_53_8, jt_rt0_53_9, jt_rt0_64_0, jt_rt0_64_1, jt_rt0_65_0, jt_rt0_65_1, jt_rt0_65_2, jt_rt0_65_3, jt_rt0_65_4, jt_rt0_65_5, jt_rt0_65_6, jt_rt0_65_7, jt_rt0_65_8, jt_rt0_65_9, jt_rt0_76_0, jt_rt0_76_1, jt_rt0_76_2, jt_rt0_76_3, jt_rt0_76_4, jt_rt0_76_5, jt_rt0_76_6, jt_rt0_76_7, jt_rt0_76_8, jt_rt0_76_9, jt_rt0_87_0, jt_rt0_87_1, jt_rt0_89_1, jt_rt0_89_2, jt_rt0_92_0, jt_rt0_92_1, jt_rt0_92_2, jt_rt0_92_3, jt_rt0_92_4, jt_rt0_97_0, jt_rt0_97_1, jt_rt0_97_2, jt_in0_2, jt_in0_4, jt_in0_5, jt_in0_6, jt_in0_7, jt_in0_8, jt_in0_9, jt_in0_11, jt_in0_12, jt_in0_13, jt_in0_14, jt_in0_15, jt_in0_16, jt_in0_18, jt_in0_19, jt_in0_20, jt_in0_21, jt_in0_22, jt_in0_24, jt_in0_25, jt_in0_26, jt_in0_27, jt_in0_28, jt_in0_32, jt_in0_33, jt_in0_34, jt_in0_35, jt_in0_36, jt_in0_37, jt_in0_38, jt_in0_39, jt_in0_40, jt_in0_41, jt_in0_43, jt_in0_44, jt_in0_45, jt_in0_46, jt_in0_47, jt_in0_48, jt_in0_49, jt_in0_50, jt_in0_51, jt_in0_52, jt_in0_54, jt_in0_55, jt_in0_56, jt_in0_57, jt_in0_58, jt_in0_59, jt_in0_60, jt_in0_61, jt_in0_62, jt_in0_63, jt_in0_64, jt_in0_66, jt_in0_67, jt_in0_68, jt_in0_69, jt_in0_70, jt_in0_71, jt_in0_72, jt_in0_73, jt_in0_74, jt_in0_75, jt_in0_77, jt_in0_78, jt_in0_79, jt_in0_80, jt_in0_81, jt_in0_82, jt_in0_83, jt_in0_84, jt_in0_85, jt_in0_86, jt_in0_88, jt_in0_90, jt_in0_91, jt_in0_93, jt_in0_94, jt_in0_95, jt_in0_96, jt_in0_98, jt_in0_99, jt_in0_100, jt_ln0_2, jt_ln0_4, jt_ln0_5, jt_ln0_6, jt_ln0_7, jt_ln0_8, jt_ln0_9, jt_ln0_11, jt_ln0_12, jt_ln0_13, jt_ln0_14, jt_ln0_15, jt_ln0_16, jt_ln0_18, jt_ln0_19, jt_ln0_20, jt_ln0_21, jt_ln0_22, jt_ln0_24, jt_ln0_25, jt_ln0_26, jt_ln0_27, jt_ln0_28, jt_ln0_32, jt_ln0_33, jt_ln0_34, jt_ln0_35, jt_ln0_36, jt_ln0_37, jt_ln0_38, jt_ln0_39, jt_ln0_40, jt_ln0_41, jt_ln0_43, jt_ln0_44, jt_ln0_45, jt_ln0_46, jt_ln0_47, jt_ln0_48, jt_ln0_49, jt_ln0_50, jt_ln0_51, jt_ln0_52, jt_ln0_54, jt_ln0_55, jt_ln0_56, jt_ln0_57, jt_ln0_58, jt_ln0_59, jt_ln0_60, jt_ln0_61, jt_ln0_62, jt_ln0_63, jt_ln0_66, jt_ln0_67, jt_ln0_68, jt_ln0_69, jt_ln0_70, jt_ln0_71, jt_ln0_72, jt_ln0_73, jt_ln0_74, jt_ln0_75, jt_ln0_77, jt_ln0_78, jt_ln0_79, jt_ln0_80, jt_ln0_81, jt_ln0_82, jt_ln0_83, jt_ln0_84, jt_ln0_85, jt_ln0_86, jt_ln0_88, jt_ln0_90, jt_ln0_91, jt_ln0_93, jt_ln0_94, jt_ln0_95, jt_ln0_96, jt_ln0_98, jt_ln0_99, jt_ln0_100, Int.toNat_natCast, jo_is ho, jo_rt0 ho, jo_rt1 ho, jo_rt2 ho, jo_rt3 ho, jo_rt4 ho, jo_in1 ho, jo_in2 ho, jo_in3 ho, jo_in4 ho, jo_in5 ho, h1, h2, e]
  rfl
theorem vM_come {x p s : Nat} {f a : Int} (w : js_Mm) (hx : x ≤ 3000) (hp : p < 24) (hs : s < 6) : f_X11_come [0, (x : Int), (p : Int), (s : Int), f, a] w = some (0, tkM x p s f a w) := by
  have e1 : ((x : Int) + ((6 * p + s : Nat) : Int) + 0).toNat = x + (6 * p + s) := by omega
  have e2 : ((x : Int) + ((6 * p + s : Nat) : Int) + 144).toNat = x + 144 + (6 * p + s) := by omega
  have e3 : ((x : Int) + ((6 * p + s : Nat) : Int) + 288).toNat = x + 288 + (6 * p + s) := by omega
  have e4 : ((x : Int) + ((6 * p + s : Nat) : Int) + 720).toNat = x + 720 + (6 * p + s) := by omega
  have e5 : ((x : Int) + 864).toNat = x + 864 := by omega
  rw [fe_X11_come]; simp -implicitDefEqProofs (disch := omega) only [jv_g0, jv_gs, jv_b, jv_bl, jv_bcT, jv_bcF, jv_bcD, jv_bcI, jv_bI, jv_bs0, jv_bs1, jv_bsI, jv_k, jv_l, jv_1, jv_1e, jv_2, jv_2ke, jv_2e, jv_d, jv_dke, jv_de, jv_gf, jv_gfe, jv_gr, jv_gre, jv_al, jv_alke, jv_ale, jv_aa, jv_aake, jv_aae, jv_ln, jv_lne, jv_as0, jv_as1, jv_aske, jv_asje, jv_cv, jv_cve, jv_cs, jv_cp, jv_cpke, jv_cpe, jv_cz, jv_cze, jv_tte, jv_ffe, jv_ca, jv_co, jv_cn, jv_lt, jv_le, jv_gt, jv_ge, jv_eq, jv_ne, jv_q, jv_sk, jv_s1, jv_s1e, jv_s2, jv_s2e, jv_ii, jv_pf, jv_pfke, jv_pfe, jv_pa, jv_pale, jv_pake, jv_paje, jv_paf20, jv_paf21, jv_paf22, jv_paf23, jv_fit1, jv_fit2, jv_fit0, jv_fit5, jv_of, jv_ofke, jv_ofje, jv_oa, jv_oale, jv_oake, jv_oaje, jv_ex, jv_exe, jv_sq, jv_if, jv_bk, jv_bke, jv_rv, jv_rve, jv_r0, jv_sw, jv_swe, jv_pk0, jv_pk1, jv_me, jv_oute, jv_outI, jt_ft0_10, jt_ft0_11, jt_ft0_12, jt_ft0_13, jt_ft0_14, jt_ft1_0, jt_ft2_3, jt_ft2_4, jt_ft2_5, jt_ft2_6, jt_ft3_0, jt_ft4_5, jt_ft4_6, jt_ft5_0, jt_ft5_1, jt_ft7_1, jt_ft7_2, jt_ft7_3, jt_ft7_4, jt_ft7_5, jt_ft7_6, jt_ft7_7, jt_ft8_0, jt_ft8_1, jt_ft8_2, jt_ft9_2, jt_ft10_15, jt_ft11_2, jt_ft11_3, jt_ft11_19, jt_ft11_20, jt_ft11_21, jt_ft11_22, jt_ft11_23, jt_ft11_24, jt_ft11_26, jt_ft11_28, jt_ft11_36, jt_ft11_38, jt_ft11_39, jt_ft11_40, js_u_same, js_u_other, jz_add, jz_sub, jz_mul, jz_div, jz_rem, jz_ladd, jz_lsub, jz_lmul, jz_ldiv, jz_lrem, jz_i2l, jz_l2i, List.set_cons_zero, List.set_cons_succ, Int.reduceToNat, Bool.and_true, Bool.true_and, Bool.and_eq_true, decide_eq_true_eq, if_true, if_false, reduceIte, Nat.reduceEqDiff, Nat.reduceSub, Nat.reduceAdd, Int.reduceLT, Int.reduceLE, Int.reduceNeg, Int.reduceEq, Int.reduceAdd, Int.reduceSub, Int.reduceMul, not_true_eq_false, not_false_eq_true, and_true, true_and, and_false, false_and, decide_true, decide_false, Nat.reduceEqDiff, reduceCtorEq, jv_tr0, jv_trs, jv_trn, jv_blI, jt_is1_0, jt_ia1_1, jt_ia1_2, jt_ia1_3, jt_ia1_4, jt_ia1_5, jt_ia1_6, jt_ia1_7, jt_ia1_8, jt_ia1_9, jt_ia1_10, jt_ia1_11, jt_ia1_12, jt_ia1_13, jt_ia1_14, jt_ia1_15, jt_ia1_16, jt_ia1_17, jt_ia1_18, jt_ia1_19, jt_ia1_20, jt_ia1_21, jt_ia1_22, jt_ia1_23, jt_ia1_24, jt_ia1_25, jt_ia1_26, jt_ia1_27, jt_rt1_0_0, jt_rt1_0_1, jt_rt1_0_4, jt_rt1_0_5, jt_rt1_0_6, jt_rt1_0_7, jt_rt1_0_8, jt_rt1_0_9, jt_rt1_0_10, jt_rt1_0_11, jt_rt1_0_12, jt_rt1_0_13, jt_rt1_0_14, jt_rt1_0_15, jt_rt1_0_16, jt_rt1_0_17, jt_rt1_0_18, jt_rt1_0_25, jt_rt1_0_27, jt_rt1_0_29, jt_rt1_0_30, jt_rt1_0_31, jt_rt1_0_32, jt_rt1_0_33, jt_rt1_0_34, jt_rt1_0_35, jt_rt1_0_37, jt_in1_1, jt_in1_2, jt_in1_3, jt_in1_4, jt_in1_5, jt_in1_6, jt_in1_7, jt_in1_8, jt_in1_9, jt_in1_10, jt_in1_11, jt_in1_12, jt_in1_13, jt_in1_14, jt_in1_15, jt_in1_16, jt_in1_17, jt_in1_18, jt_in1_19, jt_in1_20, jt_in1_21, jt_in1_22, jt_in1_23, jt_in1_24, jt_in1_25, jt_in1_26, jt_in1_27, jt_ln1_1, jt_ln1_2, jt_ln1_3, jt_ln1_4, jt_ln1_5, jt_ln1_6, jt_ln1_7, jt_ln1_8, jt_ln1_9, jt_ln1_10, jt_ln1_11, jt_ln1_12, jt_ln1_13, jt_ln1_14, jt_ln1_15, jt_ln1_16, jt_ln1_17, jt_ln1_18, jt_ln1_19, jt_ln1_20, jt_ln1_21, jt_ln1_22, jt_ln1_23, jt_ln1_24, jt_ln1_25, jt_ln1_26, jt_ln1_27, vM_cell, e1, e2, e3, e4, e5]
  rfl
theorem tkC_1 {o p s : Nat} {f a : Int} {μ : js_Mm} (q : Nat) : tkC o p s f a μ (o + 1) q = if q = p then jset (μ (o + 1) p) s else μ (o + 1) q := by
  unfold tkC
  rw [js_u_other (by omega), js_u_other (by omega), js_u_other (by omega), js_u_other (by omega)]
  by_cases e : q = p
  · subst e; rw [js_u_same, if_pos rfl]
  · rw [js_u_other (by omega), if_neg e]
theorem tkC_2 {o p s : Nat} {f a : Int} {μ : js_Mm} (q : Nat) : tkC o p s f a μ (o + 2) q = if q = p then jset (μ (o + 2) p) s else μ (o + 2) q := by
  unfold tkC
  rw [js_u_other (by omega), js_u_other (by omega), js_u_other (by omega)]
  by_cases e : q = p
  · subst e; rw [js_u_same, if_pos rfl]
  · rw [js_u_other (by omega), js_u_other (by omega), if_neg e]
theorem tkC_3 {o p s : Nat} {f a : Int} {μ : js_Mm} (q : Nat) : tkC o p s f a μ (o + 3) q = if q = 6 * p + s then f else μ (o + 3) q := by
  unfold tkC
  rw [js_u_other (by omega), js_u_other (by omega)]
  by_cases e : q = 6 * p + s
  · subst e; rw [js_u_same, if_pos rfl]
  · rw [js_u_other (by omega), js_u_other (by omega), js_u_other (by omega), if_neg e]
theorem tkC_4 {o p s : Nat} {f a : Int} {μ : js_Mm} (q : Nat) : tkC o p s f a μ (o + 4) q = if q = 6 * p + s then a else μ (o + 4) q := by
  unfold tkC
  rw [js_u_other (by omega)]
  by_cases e : q = 6 * p + s
  · subst e; rw [js_u_same, if_pos rfl]
  · rw [js_u_other (by omega), js_u_other (by omega), js_u_other (by omega), js_u_other (by omega), if_neg e]
theorem tkC_5 {o p s : Nat} {f a : Int} {μ : js_Mm} (q : Nat) : tkC o p s f a μ (o + 5) q = if q = 6 * p + s then μ o 11 else μ (o + 5) q := by
  unfold tkC
  by_cases e : q = 6 * p + s
  · subst e; rw [js_u_same, if_pos rfl]
  · rw [js_u_other (by omega), js_u_other (by omega), js_u_other (by omega), js_u_other (by omega), js_u_other (by omega), if_neg e]
theorem tkC_o {o p s : Nat} {f a : Int} {μ : js_Mm} {k q : Nat} (h : k < o + 1 ∨ o + 5 < k) : tkC o p s f a μ k q = μ k q := by
  unfold tkC
  rw [js_u_other (by omega), js_u_other (by omega), js_u_other (by omega), js_u_other (by omega), js_u_other (by omega)]
theorem tkM_o {x p s : Nat} {f a : Int} {ν : js_Mm} {k j : Nat} (h : ¬ (k = 1 ∧ (j = x + (6 * p + s) ∨ j = x + 144 + (6 * p + s) ∨ j = x + 288 + (6 * p + s) ∨ j = x + 720 + (6 * p + s)))) : tkM x p s f a ν k j = ν k j := by
  unfold tkM
  rw [js_u_other (by omega), js_u_other (by omega), js_u_other (by omega), js_u_other (by omega)]
theorem tkM_v {x p s : Nat} {f a : Int} {ν : js_Mm} : tkM x p s f a ν 1 (x + (6 * p + s)) = 1 ∧ tkM x p s f a ν 1 (x + 144 + (6 * p + s)) = f ∧ tkM x p s f a ν 1 (x + 288 + (6 * p + s)) = ν 1 (x + 864) ∧ tkM x p s f a ν 1 (x + 720 + (6 * p + s)) = a := by
  unfold tkM
  refine ⟨?_, ?_, ?_, ?_⟩
  · rw [js_u_other (by omega), js_u_other (by omega), js_u_other (by omega), js_u_same]
  · rw [js_u_other (by omega), js_u_other (by omega), js_u_same]
  · rw [js_u_other (by omega), js_u_same]
  · rw [js_u_same]
theorem hCn_tk {o p s : Nat} {f a : Int} {μ : js_Mm} (hs : s < 6) (hn : jb (μ (o + 1) p) s = false) : ∀ k, hCn (tkC o p s f a μ) o k = hCn μ o k + (if 6 * p + s < k then 1 else 0)
  | 0 => by rw [if_neg (by omega)]; rfl
  | k + 1 => by
    unfold hCn
    rw [hCn_tk hs hn k, tkC_1]
    by_cases e : k / 6 = p
    · rw [if_pos e, jb_set (by omega) (by omega)]
      by_cases e2 : k % 6 = s
      · have e3 : k = 6 * p + s := by omega
        have c1 : ¬ (6 * p + s < k) := by omega
        have c2 : 6 * p + s < k + 1 := by omega
        rw [if_neg c1, if_pos c2, e, e2, hn]
        simp
      · have e4 : ¬ ((k % 6 : Nat) : Int) = (s : Int) := by omega
        have e5 : (6 * p + s < k + 1) ↔ 6 * p + s < k := by omega
        rw [e]
        simp only [e4, decide_false, Bool.or_false, e5]
        omega
    · have e5 : (6 * p + s < k + 1) ↔ 6 * p + s < k := by omega
      rw [if_neg e]
      simp only [e5]
      omega
theorem rCo_tk {o x p s : Nat} {f a : Int} {μ ν : js_Mm} (h : rCo o x μ ν) (ho : 17 < o) (hp : p < 24) (hs : s < 6) (hpn : (p : Int) < μ 3 0) (hsn : (s : Int) < μ 17 0) (hn : jb (μ (o + 1) p) s = false) (ha : 0 ≤ a ∧ a < μ 17 0 ∧ a < 6) (hf : f = -2 ∨ f = 24 ∨ (0 ≤ f ∧ f < μ 3 0 ∧ f < 24 ∧ jb (μ (o + 1) f.toNat) a = true)) : rCo o x (tkC o p s f a μ) (tkM x p s f a ν) := by
  obtain ⟨c1, c2, c3, c4, c5, c6, rk, c7⟩ := h
  have t30 : tkC o p s f a μ 3 0 = μ 3 0 := tkC_o (by omega)
  have t170 : tkC o p s f a μ 17 0 = μ 17 0 := tkC_o (by omega)
  have mono : ∀ q t : Nat, jb (μ (o + 1) q) t = true → jb (tkC o p s f a μ (o + 1) q) t = true := fun q t hq => by
    rw [tkC_1]
    by_cases e : q = p
    · subst e; rw [if_pos rfl, jb_set (by omega) (by omega), hq]; rfl
    · rw [if_neg e]; exact hq
  refine ⟨fun q hq => ?_, fun q t hq ht => ?_, ?_, ?_, ?_, ?_, fun c => if c = 6 * p + s then hCn μ o 144 else rk c, fun q t hq ht hb => ?_⟩
  · rw [tkC_1, tkC_2]
    have := c1 q hq
    by_cases e : q = p
    · subst e
      rw [if_pos rfl, if_pos rfl]
      exact ⟨jset_6 this.1 (by omega), jset_6 this.2 (by omega)⟩
    · rw [if_neg e, if_neg e]; exact this
  · have hc := c2 q t hq ht
    by_cases e : q = p ∧ t = s
    · obtain ⟨rfl, rfl⟩ := e
      unfold rCe
      rw [tkC_1, tkC_2, tkC_3, tkC_4, tkC_5, tkC_o (k := o + 6) (by omega), tkC_o (k := o + 7) (by omega), tkM_v.1, tkM_v.2.1, tkM_v.2.2.1, tkM_v.2.2.2, tkM_o (by omega), tkM_o (by omega), t30, t170]
      simp only [if_true]
      rw [jb_set (by omega) (by omega), jb_set (by omega) (by omega)]
      simp only [decide_true, Bool.or_true, if_true]
      refine ⟨trivial, fun _ => trivial, fun _ => ⟨hpn, hsn, trivial, trivial, c3, by omega, by omega⟩, hc.2.2.2.1, hc.2.2.2.2.1, hc.2.2.2.2.2.1, fun r hr => ?_⟩
      obtain ⟨g1, g2, g3⟩ := hc.2.2.2.2.2.2 r hr
      exact ⟨g1, g2, mono r t g3⟩
    · have ne : ¬ (6 * q + t = 6 * p + s) := by omega
      have eh : jb (tkC o p s f a μ (o + 1) q) t = jb (μ (o + 1) q) t := by
        rw [tkC_1]
        by_cases e2 : q = p
        · subst e2
          rw [if_pos rfl, jb_set (by omega) (by omega)]
          have : ¬ (t : Int) = (s : Int) := by omega
          simp [this]
        · rw [if_neg e2]
      have et : jb (tkC o p s f a μ (o + 2) q) t = jb (μ (o + 2) q) t := by
        rw [tkC_2]
        by_cases e2 : q = p
        · subst e2
          rw [if_pos rfl, jb_set (by omega) (by omega)]
          have : ¬ (t : Int) = (s : Int) := by omega
          simp [this]
        · rw [if_neg e2]
      unfold rCe at *
      rw [eh, et, tkC_3, tkC_4, tkC_5, tkC_o (k := o + 6) (by omega), tkC_o (k := o + 7) (by omega), if_neg ne, if_neg ne, if_neg ne, tkM_o (by omega), tkM_o (by omega), tkM_o (by omega), tkM_o (by omega), tkM_o (by omega), tkM_o (by omega), t30, t170]
      refine ⟨hc.1, hc.2.1, hc.2.2.1, hc.2.2.2.1, hc.2.2.2.2.1, hc.2.2.2.2.2.1, fun r hr => ?_⟩
      obtain ⟨g1, g2, g3⟩ := hc.2.2.2.2.2.2 r hr
      exact ⟨g1, g2, mono r t g3⟩
  · rw [tkM_o (by omega), tkC_o (by omega)]; exact c3
  · rw [tkM_o (by omega), tkC_o (by omega)]; exact c4
  · rw [tkM_o (by omega), tkC_o (by omega)]; exact c5
  · rw [tkC_o (by omega)]; exact c6
  · have hN : hCn (tkC o p s f a μ) o 144 = hCn μ o 144 + 1 := by rw [hCn_tk hs hn 144, if_pos (by omega)]
    rw [hN, tkC_3, tkC_4]
    dsimp only
    by_cases e : q = p ∧ t = s
    · obtain ⟨rfl, rfl⟩ := e
      rw [if_pos rfl, if_pos rfl, if_pos rfl]
      refine ⟨by omega, fun f0 f24 => ?_⟩
      rcases hf with hf | hf | ⟨hf1, hf2, hf3, hf4⟩
      · omega
      · omega
      · have ea : ((a.toNat : Nat) : Int) = a := by omega
        have hf5 : jb (μ (o + 1) f.toNat) ((a.toNat : Nat) : Int) = true := by rw [ea]; exact hf4
        refine ⟨by have := mono f.toNat a.toNat hf5; rw [ea] at this; exact this, ?_⟩
        have ne : ¬ (6 * f.toNat + a.toNat = 6 * q + t) := fun e9 => by
          have e1 : f.toNat = q := by omega
          have e2 : a.toNat = t := by omega
          rw [e1, e2, hn] at hf5
          cases hf5
        rw [if_neg ne]
        exact (c7 f.toNat a.toNat (by omega) (by omega) hf5).1
    · have ne : ¬ (6 * q + t = 6 * p + s) := by omega
      have eh : jb (μ (o + 1) q) t = true := by
        rw [tkC_1] at hb
        by_cases e2 : q = p
        · subst e2
          rw [if_pos rfl, jb_set (by omega) (by omega)] at hb
          have : ¬ (t : Int) = (s : Int) := by omega
          simpa [this] using hb
        · rw [if_neg e2] at hb; exact hb
      rw [if_neg ne, if_neg ne, if_neg ne]
      obtain ⟨d1, d2⟩ := c7 q t hq ht eh
      refine ⟨by omega, fun f0 f24 => ?_⟩
      obtain ⟨d3, d4⟩ := d2 f0 f24
      have hce := (c2 q t hq ht).2.2.1 eh
      have ea : (((μ (o + 4) (6 * q + t)).toNat : Nat) : Int) = μ (o + 4) (6 * q + t) := by omega
      have d5 : jb (μ (o + 1) (μ (o + 3) (6 * q + t)).toNat) (((μ (o + 4) (6 * q + t)).toNat : Nat) : Int) = true := by rw [ea]; exact d3
      refine ⟨by have := mono _ _ d5; rw [ea] at this; exact this, ?_⟩
      have ne2 : ¬ (6 * (μ (o + 3) (6 * q + t)).toNat + (μ (o + 4) (6 * q + t)).toNat = 6 * p + s) := fun e9 => by
        have hl := jb_lt (x := μ (o + 1) (μ (o + 3) (6 * q + t)).toNat) (k := (((μ (o + 4) (6 * q + t)).toNat : Nat) : Int)) 6 (c1 _ (by omega)).1.2
        have h6 : (μ (o + 4) (6 * q + t)).toNat < 6 := by
          rcases Nat.lt_or_ge (μ (o + 4) (6 * q + t)).toNat 6 with z | z
          · exact z
          · rw [hl (by omega)] at d5; cases d5
        have e1 : (μ (o + 3) (6 * q + t)).toNat = p := by omega
        have e2 : (μ (o + 4) (6 * q + t)).toNat = s := by omega
        rw [e1, e2, hn] at d5
        cases d5
      rw [if_neg ne2]
      exact d4
end
